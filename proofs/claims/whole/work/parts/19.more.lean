/-! ===== ElementFiles: letter, frame, seek, jump ===== -/
def ef_isl (c : Int32) : Bool := decide (32 ≤ c.toInt ∧ c.toInt ≤ 126)
theorem c_EF_isLetter {G : Ev_G} {w : Ev_W} (c : Int32) : ev_Met G M_EF_isLetter 0 0 0 [.int c] w (fun v w' => v = some (.int (b_i (ef_isl c))) ∧ w' = w) := by
  refine ev_Met.of md_EF_isLetter (Nat.le_of_ble_eq_true rfl) (fun X hX hR => ?_)
  refine q_iload hX 0 d_EF_isLetter_0 rfl (by first | rfl | assumption) ?_
  refine r_bipush (v := 32) hX d_EF_isLetter_1 (by decide) ?_
  refine r_icmp_lt hX 16 d_EF_isLetter_3 (by decide) (fun c3 => ?_) (fun c3 => ?_)
  · refine r_iconst (v := 0) hX d_EF_isLetter_16 (by decide) ?_
    refine r_iret hX hR d_EF_isLetter_17 rfl (by first | rfl | assumption) ?_
    exact ⟨by rw [ef_isl, decide_eq_false (by rw [i_lt, show (32 : Int32).toInt = 32 from rfl] at c3; omega)]; rfl, rfl⟩
  · refine q_iload hX 0 d_EF_isLetter_6 rfl (by first | rfl | assumption) ?_
    refine r_bipush (v := 126) hX d_EF_isLetter_7 (by decide) ?_
    refine r_icmp_gt hX 16 d_EF_isLetter_9 (by decide) (fun c9 => ?_) (fun c9 => ?_)
    · refine r_iconst (v := 0) hX d_EF_isLetter_16 (by decide) ?_
      refine r_iret hX hR d_EF_isLetter_17 rfl (by first | rfl | assumption) ?_
      exact ⟨by rw [ef_isl, decide_eq_false (by rw [i_lt, show (126 : Int32).toInt = 126 from rfl] at c9; omega)]; rfl, rfl⟩
    · refine r_iconst (v := 1) hX d_EF_isLetter_12 (by decide) ?_
      refine r_goto hX 17 d_EF_isLetter_13 (by decide) ?_
      refine r_iret hX hR d_EF_isLetter_17 rfl (by first | rfl | assumption) ?_
      exact ⟨by rw [ef_isl, decide_eq_true (by rw [i_lt, show (32 : Int32).toInt = 32 from rfl] at c3; rw [i_lt, show (126 : Int32).toInt = 126 from rfl] at c9; omega)]; rfl, rfl⟩
theorem c_EF_letter {G : Ev_G} {w : Ev_W} {n sd : Nat} {L As : Nat → Option Nat} {sf : Nat → Int32} (he : is_EF w) (htr : is_Tr w n L As sf sd) (hn : n ≤ 60) (hsd : sd ≤ 1200) {m : Nat} {ad : Nat → Nat} {E : Nat → Ev_E} {PF : Nat → Nat → Int32} {mi : Nat → Option Nat} (hes : is_Es w m L ad E PF) (hm : n ≤ m) (hok : el_ok n ad E mi) {am : Nat → Nat} (ham : el_amok n E am) (k : Int32) (c : Int32) : ev_Met G M_EF_letter 1 0 0 [.ref 100, .int k, .int c] w (fun v w' => ((∀ j, ix n k = some j → ¬ (so_fm (E j).1 = 2 ∧ ef_isl c = true)) ∧ v = some (.int (-1)) ∧ w' = w) ∨ (∃ j, ix n k = some j ∧ so_fm (E j).1 = 2 ∧ ef_isl c = true ∧ am j < 16 ∧ v = some (.int (nI (am j + 1))) ∧ w'.2 (ad j) = some (el_C (ad j) (el_a (E j))) ∧ w'.2 (ad j + 1) = some (.inl (0, 16, .inl (upd (PF j) (am j) c))) ∧ ev_sm w w' [ad j, ad j + 1]) ∨ (∃ j, ix n k = some j ∧ so_fm (E j).1 = 2 ∧ ef_isl c = true ∧ ¬ am j < 16 ∧ v = some (.int (-8)) ∧ w' = w)) := by
  refine ev_Met.of md_EF_letter (Nat.le_of_ble_eq_true rfl) (fun X hX hR => ?_)
  rcases tr_at_cases hn hes hm k with ⟨j, hj, hkj, hix, hat⟩ | ⟨hix, hat⟩
  · obtain ⟨u1, u2, u3, u4⟩ := hes.1 j (by omega)
    obtain ⟨o1, o2, o3, o4⟩ := hok j hj
    have he0 : w.2 100 = some (.inr (0, [.ref 101, .ref 103, .ref 105, .ref 108, .ref 112, .ref 113, .ref 116])) := he
    obtain ⟨t1, t2, t3, t4⟩ := id htr
    refine q_aload hX 0 d_EF_letter_0 rfl (by first | rfl | assumption) ?_
    refine r_getf hX d_EF_letter_1 fl_EF_31 (by first | assumption | exact ev_set_self _ _ _ | (simp (disch := first | assumption | decide | omega) only [ev_set_self, ev_set_ne, ev_new_self, ev_new_ne]; first | done | assumption)) rfl ?_
    refine q_iload hX 1 d_EF_letter_4 rfl (by first | rfl | assumption) ?_
    refine r_callV (as := [_]) hX d_EF_letter_5 lk_EF_87 htr.1 rfl rfl (Nat.le_of_ble_eq_true rfl) (by decide) 0 0 (Nat.le_refl _) (Nat.le_refl _) (c_Tr_at (G := G) htr hn hsd k) (fun v w1 hq => ?_)
    obtain ⟨rfl, hw0⟩ := hq
    rw [hw0, hat]
    refine q_astore hX 3 d_EF_letter_8 rfl (by decide) ?_
    refine q_aload hX 3 d_EF_letter_9 rfl (by first | rfl | assumption) ?_
    refine r_ifnull hX d_EF_letter_10 ?_
    refine q_aload hX 3 d_EF_letter_13 rfl (by first | rfl | assumption) ?_
    refine r_getf hX d_EF_letter_14 fl_EF_128 (by first | assumption | exact ev_set_self _ _ _ | (simp (disch := first | assumption | decide | omega) only [ev_set_self, ev_set_ne, ev_new_self, ev_new_ne]; first | done | assumption)) rfl ?_
    refine r_getE hX d_EF_letter_17 o2 (q := ev_fl[1]) (by decide) m_875 ?_
    refine r_iconst (v := 2) hX d_EF_letter_20 (by decide) ?_
    refine r_icmp_ne hX 31 d_EF_letter_21 (by decide) (fun c21 => ?_) (fun c21 => ?_)
    · refine r_iconst (v := -1) hX d_EF_letter_31 (by decide) ?_
      refine r_iret hX hR d_EF_letter_32 rfl (by first | rfl | assumption) ?_
      exact Or.inl ⟨(fun jz hz => (by rw [hix] at hz; cases hz; exact fun z => c21 z.1)), rfl, rfl⟩
    · refine q_iload hX 2 d_EF_letter_24 rfl (by first | rfl | assumption) ?_
      refine r_callS (as := [_]) hX d_EF_letter_25 lk_EF_131 rfl (Nat.le_of_ble_eq_true rfl) (by decide) 0 0 (Nat.le_refl _) (Nat.le_refl _) (c_EF_isLetter (G := G) c) (fun v w1 hq => ?_)
      obtain ⟨rfl, hw1⟩ := hq
      rw [hw1]
      refine r_if_ne hX 33 d_EF_letter_28 (by decide) (fun c28 => ?_) (fun c28 => ?_)
      · refine q_aload hX 3 d_EF_letter_33 rfl (by first | rfl | assumption) ?_
        refine q_iload hX 2 d_EF_letter_34 rfl (by first | rfl | assumption) ?_
        obtain ⟨hma, hma16⟩ := ham j hj (Or.inl c21)
        refine r_callV (as := [_]) hX d_EF_letter_35 lk_EF_135 u3 rfl rfl (Nat.le_of_ble_eq_true rfl) (by decide) 0 0 (Nat.le_refl _) (Nat.le_refl _) (c_El_addPart (G := G) u3 u4 (by omega) (by omega) hma c) (fun v w2 hq => ?_)
        by_cases h16 : am j < 16
        · rw [if_pos h16] at hq
          obtain ⟨rfl, q1, q2, q3⟩ := hq
          refine r_if_eq hX 49 d_EF_letter_38 (by decide) (fun c38 => absurd c38 (by decide)) (fun _ => ?_)
          refine q_aload hX 3 d_EF_letter_41 rfl (by first | rfl | assumption) ?_
          refine r_getf hX d_EF_letter_42 fl_EF_119 q1 rfl ?_
          refine r_l2i hX d_EF_letter_45 ?_
          refine r_goto hX 51 d_EF_letter_46 (by decide) ?_
          refine r_iret hX hR d_EF_letter_51 rfl (by first | rfl | assumption) ?_
          exact Or.inr (Or.inl ⟨j, hix, c21, b_i_1 c28, h16, by rw [show ((el_a (E j)).2.2.1) = (E j).2.2.1 + 1 from rfl, hma, lN_1, lN_i], q1, q2, q3⟩)
        · rw [if_neg h16] at hq
          obtain ⟨rfl, hw2⟩ := hq
          rw [hw2]
          refine r_if_eq hX 49 d_EF_letter_38 (by decide) (fun _ => ?_) (fun c38 => absurd rfl c38)
          refine r_bipush (v := -8) hX d_EF_letter_49 (by decide) ?_
          refine r_iret hX hR d_EF_letter_51 rfl (by first | rfl | assumption) ?_
          exact Or.inr (Or.inr ⟨j, hix, c21, b_i_1 c28, h16, rfl, rfl⟩)
      · refine r_iconst (v := -1) hX d_EF_letter_31 (by decide) ?_
        refine r_iret hX hR d_EF_letter_32 rfl (by first | rfl | assumption) ?_
        exact Or.inl ⟨(fun jz hz => (by rw [hix] at hz; cases hz; exact fun z => absurd (z.2.symm.trans (b_i_0 c28)) (by decide))), rfl, rfl⟩
  · have he0 : w.2 100 = some (.inr (0, [.ref 101, .ref 103, .ref 105, .ref 108, .ref 112, .ref 113, .ref 116])) := he
    obtain ⟨t1, t2, t3, t4⟩ := id htr
    refine q_aload hX 0 d_EF_letter_0 rfl (by first | rfl | assumption) ?_
    refine r_getf hX d_EF_letter_1 fl_EF_31 (by first | assumption | exact ev_set_self _ _ _ | (simp (disch := first | assumption | decide | omega) only [ev_set_self, ev_set_ne, ev_new_self, ev_new_ne]; first | done | assumption)) rfl ?_
    refine q_iload hX 1 d_EF_letter_4 rfl (by first | rfl | assumption) ?_
    refine r_callV (as := [_]) hX d_EF_letter_5 lk_EF_87 htr.1 rfl rfl (Nat.le_of_ble_eq_true rfl) (by decide) 0 0 (Nat.le_refl _) (Nat.le_refl _) (c_Tr_at (G := G) htr hn hsd k) (fun v w1 hq => ?_)
    obtain ⟨rfl, hw0⟩ := hq
    rw [hw0, hat]
    refine q_astoreN hX 3 d_EF_letter_8 rfl (by decide) ?_
    refine q_aloadN hX 3 d_EF_letter_9 rfl (by first | rfl | assumption) ?_
    refine r_ifnullN hX 31 d_EF_letter_10 (by decide) ?_
    refine r_iconst (v := -1) hX d_EF_letter_31 (by decide) ?_
    refine r_iret hX hR d_EF_letter_32 rfl (by first | rfl | assumption) ?_
    exact Or.inl ⟨(fun jz hz => (by rw [hix] at hz; cases hz)), rfl, rfl⟩
def fm_ok (n x : Int32) : Prop := 0 ≤ n.toInt ∧ n.toInt ≤ 300 ∧ 0 ≤ x.toInt ∧ x.toInt ≤ 255
theorem c_EF_frame {G : Ev_G} {w : Ev_W} (he : is_EF w) {c f : Nat} {hs hb : Nat → Int32} (hfr : is_Fr w c f hs hb) (hc : c ≤ 8) (hf : f ≤ 400) (n x : Int32) : ev_Met G M_EF_frame 1 0 0 [.ref 100, .int n, .int x] w (fun v w' => (¬ fm_ok n x ∧ v = some (.int (-1)) ∧ w' = w) ∨ (fm_ok n x ∧ (c < 8 ∧ f + n.toNatClampNeg ≤ 400) ∧ v = some (.int (nI (c + 1))) ∧ is_Fr w' (c + 1) (f + n.toNatClampNeg) (upd hs c (nI n.toNatClampNeg)) (fr_b f n.toNatClampNeg x hb) ∧ ev_sm w w' [105, 106, 107]) ∨ (fm_ok n x ∧ ¬ (c < 8 ∧ f + n.toNatClampNeg ≤ 400) ∧ v = some (.int (-6)) ∧ w' = w)) := by
  refine ev_Met.of md_EF_frame (Nat.le_of_ble_eq_true rfl) (fun X hX hR => ?_)
  refine q_iload hX 1 d_EF_frame_0 rfl (by first | rfl | assumption) ?_
  refine r_if_lt hX 22 d_EF_frame_1 (by decide) (fun c1 => ?_) (fun c1 => ?_)
  · refine r_iconst (v := -1) hX d_EF_frame_22 (by decide) ?_
    refine r_iret hX hR d_EF_frame_23 rfl (by first | rfl | assumption) ?_
    exact Or.inl ⟨fun z => by have h1 := z.1; have h2 := z.2.1; have h3 := z.2.2.1; have h4 := z.2.2.2; rw [i_lt, i_0] at c1; omega, rfl, rfl⟩
  · refine q_iload hX 1 d_EF_frame_4 rfl (by first | rfl | assumption) ?_
    refine r_sipush (v := 300) hX d_EF_frame_5 (by decide) ?_
    refine r_icmp_gt hX 22 d_EF_frame_8 (by decide) (fun c8 => ?_) (fun c8 => ?_)
    · refine r_iconst (v := -1) hX d_EF_frame_22 (by decide) ?_
      refine r_iret hX hR d_EF_frame_23 rfl (by first | rfl | assumption) ?_
      exact Or.inl ⟨fun z => by have h1 := z.1; have h2 := z.2.1; have h3 := z.2.2.1; have h4 := z.2.2.2; rw [i_lt, show (300 : Int32).toInt = 300 from rfl] at c8; omega, rfl, rfl⟩
    · refine q_iload hX 2 d_EF_frame_11 rfl (by first | rfl | assumption) ?_
      refine r_if_lt hX 22 d_EF_frame_12 (by decide) (fun c12 => ?_) (fun c12 => ?_)
      · refine r_iconst (v := -1) hX d_EF_frame_22 (by decide) ?_
        refine r_iret hX hR d_EF_frame_23 rfl (by first | rfl | assumption) ?_
        exact Or.inl ⟨fun z => by have h1 := z.1; have h2 := z.2.1; have h3 := z.2.2.1; have h4 := z.2.2.2; rw [i_lt, i_0] at c12; omega, rfl, rfl⟩
      · refine q_iload hX 2 d_EF_frame_15 rfl (by first | rfl | assumption) ?_
        refine r_sipush (v := 255) hX d_EF_frame_16 (by decide) ?_
        refine r_icmp_le hX 24 d_EF_frame_19 (by decide) (fun c19 => ?_) (fun c19 => ?_)
        · refine q_aload hX 0 d_EF_frame_24 rfl (by first | rfl | assumption) ?_
          refine r_getf hX d_EF_frame_25 fl_EF_24 he rfl ?_
          refine q_iload hX 1 d_EF_frame_28 rfl (by first | rfl | assumption) ?_
          refine q_iload hX 2 d_EF_frame_29 rfl (by first | rfl | assumption) ?_
          have hgo : fm_ok n x := ⟨by rw [i_lt, i_0] at c1; omega, by rw [i_lt, show (300 : Int32).toInt = 300 from rfl] at c8; omega, by rw [i_lt, i_0] at c12; omega, by rw [i_le, show (255 : Int32).toInt = 255 from rfl] at c19; omega⟩
          obtain ⟨q, hq, eq⟩ := vp_in_of (x := n) (n := 301) (vp_in_iff.mpr ⟨hgo.1, by have := hgo.2.1; omega⟩) (by decide)
          subst eq
          have hclq : (nI q).toNatClampNeg = q := nI_clamp (by omega)
          refine r_callV (as := [_, _]) hX d_EF_frame_30 lk_EF_138 hfr.1 rfl rfl (Nat.le_of_ble_eq_true rfl) (by decide) 0 0 (Nat.le_refl _) (Nat.le_refl _) (c_Fr_add (G := G) hfr hc hf q (by omega) x) (fun v w2 hq2 => ?_)
          by_cases h8 : c < 8 ∧ f + q ≤ 400
          · rw [if_pos h8] at hq2
            obtain ⟨rfl, q1, q3⟩ := hq2
            refine r_if_eq hX 46 d_EF_frame_33 (by decide) (fun c33 => absurd c33 (by decide)) (fun _ => ?_)
            refine q_aload hX 0 d_EF_frame_36 rfl (by first | rfl | assumption) ?_
            refine r_getf hX d_EF_frame_37 fl_EF_24 (by rw [q3.2 100 (by decide)]; exact he) rfl ?_
            refine r_getf hX d_EF_frame_40 fl_EF_141 q1.1 rfl ?_
            refine r_goto hX 48 d_EF_frame_43 (by decide) ?_
            refine r_iret hX hR d_EF_frame_48 rfl (by first | rfl | assumption) ?_
            exact Or.inr (Or.inl ⟨hgo, by rw [hclq]; exact h8, rfl, by rw [hclq]; exact q1, q3⟩)
          · rw [if_neg h8] at hq2
            obtain ⟨rfl, hw2⟩ := hq2
            rw [hw2]
            refine r_if_eq hX 46 d_EF_frame_33 (by decide) (fun _ => ?_) (fun c33 => absurd rfl c33)
            refine r_bipush (v := -6) hX d_EF_frame_46 (by decide) ?_
            refine r_iret hX hR d_EF_frame_48 rfl (by first | rfl | assumption) ?_
            exact Or.inr (Or.inr ⟨hgo, by rw [hclq]; exact h8, rfl, rfl⟩)
        · refine r_iconst (v := -1) hX d_EF_frame_22 (by decide) ?_
          refine r_iret hX hR d_EF_frame_23 rfl (by first | rfl | assumption) ?_
          exact Or.inl ⟨fun z => by have h1 := z.1; have h2 := z.2.1; have h3 := z.2.2.1; have h4 := z.2.2.2; rw [i_le, show (255 : Int32).toInt = 255 from rfl] at c19; omega, rfl, rfl⟩
def ef_seg (E : Nat → Ev_E) (n : Nat) (k : Int32) : Option Nat := match ix n k with
  | none => none
  | some j => if (E j).1 = 1 then some j else none
theorem c_EF_segmentAt {G : Ev_G} {w : Ev_W} {n sd : Nat} {L As : Nat → Option Nat} {sf : Nat → Int32} (he : is_EF w) (htr : is_Tr w n L As sf sd) (hn : n ≤ 60) (hsd : sd ≤ 1200) {m : Nat} {ad : Nat → Nat} {E : Nat → Ev_E} {PF : Nat → Nat → Int32} {mi : Nat → Option Nat} (hes : is_Es w m L ad E PF) (hm : n ≤ m) (hok : el_ok n ad E mi) (k : Int32)  : ev_Met G M_EF_segmentAt 1 0 0 [.ref 100, .int k] w (fun v w' => v = some (va_rf ((ef_seg E n k).map ad)) ∧ w' = w) := by
  refine ev_Met.of md_EF_segmentAt (Nat.le_of_ble_eq_true rfl) (fun X hX hR => ?_)
  rcases tr_at_cases hn hes hm k with ⟨j, hj, hkj, hix, hat⟩ | ⟨hix, hat⟩
  · obtain ⟨u1, u2, u3, u4⟩ := hes.1 j (by omega)
    obtain ⟨o1, o2, o3, o4⟩ := hok j hj
    have he0 : w.2 100 = some (.inr (0, [.ref 101, .ref 103, .ref 105, .ref 108, .ref 112, .ref 113, .ref 116])) := he
    obtain ⟨t1, t2, t3, t4⟩ := id htr
    refine q_aload hX 0 d_EF_segmentAt_0 rfl (by first | rfl | assumption) ?_
    refine r_getf hX d_EF_segmentAt_1 fl_EF_31 (by first | assumption | exact ev_set_self _ _ _ | (simp (disch := first | assumption | decide | omega) only [ev_set_self, ev_set_ne, ev_new_self, ev_new_ne]; first | done | assumption)) rfl ?_
    refine q_iload hX 1 d_EF_segmentAt_4 rfl (by first | rfl | assumption) ?_
    refine r_callV (as := [_]) hX d_EF_segmentAt_5 lk_EF_87 htr.1 rfl rfl (Nat.le_of_ble_eq_true rfl) (by decide) 0 0 (Nat.le_refl _) (Nat.le_refl _) (c_Tr_at (G := G) htr hn hsd k) (fun v w1 hq => ?_)
    obtain ⟨rfl, hw0⟩ := hq
    rw [hw0, hat]
    refine q_astore hX 2 d_EF_segmentAt_8 rfl (by decide) ?_
    refine q_aload hX 2 d_EF_segmentAt_9 rfl (by first | rfl | assumption) ?_
    refine r_ifnull hX d_EF_segmentAt_10 ?_
    refine q_aload hX 2 d_EF_segmentAt_13 rfl (by first | rfl | assumption) ?_
    refine r_getf hX d_EF_segmentAt_14 fl_EF_128 (by first | assumption | exact ev_set_self _ _ _ | (simp (disch := first | assumption | decide | omega) only [ev_set_self, ev_set_ne, ev_new_self, ev_new_ne]; first | done | assumption)) rfl ?_
    refine r_getsE (i := 1) hX d_EF_segmentAt_17 (by decide) m_549 ?_
    refine r_acmp_ne (o := some (E j).1) (u := some 1) hX 27 (by intro r h; cases h; exact Or.inl o2) (by intro r h; cases h; omega) d_EF_segmentAt_20 (by decide) (fun c20 => ?_) (fun c20 => ?_)
    · refine r_null hX d_EF_segmentAt_27 ?_
      refine r_aret (o := none) hX hR d_EF_segmentAt_28 rfl (Or.inl ⟨_, rfl⟩) ?_
      exact ⟨by rw [ef_seg, hix]; dsimp only; rw [if_neg (fun z => c20 (by rw [z]))]; rfl, rfl⟩
    · refine q_aload hX 2 d_EF_segmentAt_23 rfl (by first | rfl | assumption) ?_
      refine r_goto hX 28 d_EF_segmentAt_24 (by decide) ?_
      refine r_aret (o := some (ad j)) hX hR d_EF_segmentAt_28 rfl (Or.inl ⟨_, rfl⟩) ?_
      exact ⟨by rw [ef_seg, hix]; dsimp only; rw [if_pos (Option.some.inj c20)]; rfl, rfl⟩
  · have he0 : w.2 100 = some (.inr (0, [.ref 101, .ref 103, .ref 105, .ref 108, .ref 112, .ref 113, .ref 116])) := he
    obtain ⟨t1, t2, t3, t4⟩ := id htr
    refine q_aload hX 0 d_EF_segmentAt_0 rfl (by first | rfl | assumption) ?_
    refine r_getf hX d_EF_segmentAt_1 fl_EF_31 (by first | assumption | exact ev_set_self _ _ _ | (simp (disch := first | assumption | decide | omega) only [ev_set_self, ev_set_ne, ev_new_self, ev_new_ne]; first | done | assumption)) rfl ?_
    refine q_iload hX 1 d_EF_segmentAt_4 rfl (by first | rfl | assumption) ?_
    refine r_callV (as := [_]) hX d_EF_segmentAt_5 lk_EF_87 htr.1 rfl rfl (Nat.le_of_ble_eq_true rfl) (by decide) 0 0 (Nat.le_refl _) (Nat.le_refl _) (c_Tr_at (G := G) htr hn hsd k) (fun v w1 hq => ?_)
    obtain ⟨rfl, hw0⟩ := hq
    rw [hw0, hat]
    refine q_astoreN hX 2 d_EF_segmentAt_8 rfl (by decide) ?_
    refine q_aloadN hX 2 d_EF_segmentAt_9 rfl (by first | rfl | assumption) ?_
    refine r_ifnullN hX 27 d_EF_segmentAt_10 (by decide) ?_
    refine r_null hX d_EF_segmentAt_27 ?_
    refine r_aret (o := none) hX hR d_EF_segmentAt_28 rfl (Or.inl ⟨_, rfl⟩) ?_
    exact ⟨by rw [ef_seg, hix]; rfl, rfl⟩
theorem ef_seg_c (E : Nat → Ev_E) {n : Nat} (hn : n ≤ 60) (k : Int32) : (∃ j, j < n ∧ ef_seg E n k = some j ∧ (E j).1 = 1 ∧ k = nI j) ∨ ef_seg E n k = none := by
  rcases ix_cases (n := n) (by omega) k with ⟨j, h1, h2, h3⟩ | ⟨h1, h2⟩
  · by_cases h4 : (E j).1 = 1
    · exact Or.inl ⟨j, h1, by rw [ef_seg, h3]; dsimp only; rw [if_pos h4], h4, h2⟩
    · exact Or.inr (by rw [ef_seg, h3]; dsimp only; rw [if_neg h4])
  · exact Or.inr (by rw [ef_seg, h1])
theorem c_EF_seek {G : Ev_G} {w : Ev_W} {n sd : Nat} {L As : Nat → Option Nat} {sf : Nat → Int32} (he : is_EF w) (htr : is_Tr w n L As sf sd) (hn : n ≤ 60) (hsd : sd ≤ 1200) {m : Nat} {ad : Nat → Nat} {E : Nat → Ev_E} {PF : Nat → Nat → Int32} {mi : Nat → Option Nat} (hes : is_Es w m L ad E PF) (hm : n ≤ m) (hok : el_ok n ad E mi) (hfi : is_Fi w) (k tr : Int32) (mo : Int64) : ev_Met G M_EF_seek 4 0 0 [.ref 100, .int k, .int tr, .long mo] w (fun v w' => v = some (.int (match ef_seg E n k with | none => -1 | some j => o_i (fi_fb E mi n tr mo j (tr_end (el_lev E) n j - (j + 1))))) ∧ w' = w) := by
  refine ev_Met.of md_EF_seek (Nat.le_of_ble_eq_true rfl) (fun X hX hR => ?_)
  rcases ef_seg_c E hn k with ⟨j, hj, hsg, hs1, hkj⟩ | hsg
  · refine q_aload hX 0 d_EF_seek_0 rfl (by first | rfl | assumption) ?_
    refine q_iload hX 1 d_EF_seek_1 rfl (by first | rfl | assumption) ?_
    refine r_callV (as := [_]) hX d_EF_seek_2 lk_EF_213 he rfl rfl (Nat.le_of_ble_eq_true rfl) (by decide) 0 0 (Nat.le_refl _) (Nat.le_refl _) (c_EF_segmentAt (G := G) he htr hn hsd hes hm hok k) (fun v w1 hq => ?_)
    obtain ⟨rfl, hw0⟩ := hq
    rw [hw0, hsg]
    refine r_astore hX d_EF_seek_5 (by decide) ?_
    refine r_aload hX d_EF_seek_7 (by first | rfl | assumption) ?_
    refine r_ifnonnull hX 16 d_EF_seek_9 (by decide) ?_
    refine q_aload hX 0 d_EF_seek_16 rfl (by first | rfl | assumption) ?_
    refine r_getf hX d_EF_seek_17 fl_EF_58 he rfl ?_
    refine r_aload hX d_EF_seek_20 (by first | rfl | assumption) ?_
    refine q_iload hX 2 d_EF_seek_22 rfl (by first | rfl | assumption) ?_
    refine q_lload hX 3 d_EF_seek_23 rfl (by first | rfl | assumption) ?_
    refine r_callV (as := [_, _, _]) hX d_EF_seek_24 lk_EF_219 hfi rfl rfl (Nat.le_of_ble_eq_true rfl) (by decide) 0 0 (Nat.le_refl _) (Nat.le_refl _) (c_Fi_findByBlocks (G := G) htr hn hsd hes hm hok hfi hj tr mo) (fun v w1 hq => ?_)
    obtain ⟨rfl, rfl⟩ := hq
    refine r_iret hX hR d_EF_seek_27 rfl (by first | rfl | assumption) ?_
    exact ⟨by rw [hsg], rfl⟩
  · refine q_aload hX 0 d_EF_seek_0 rfl (by first | rfl | assumption) ?_
    refine q_iload hX 1 d_EF_seek_1 rfl (by first | rfl | assumption) ?_
    refine r_callV (as := [_]) hX d_EF_seek_2 lk_EF_213 he rfl rfl (Nat.le_of_ble_eq_true rfl) (by decide) 0 0 (Nat.le_refl _) (Nat.le_refl _) (c_EF_segmentAt (G := G) he htr hn hsd hes hm hok k) (fun v w1 hq => ?_)
    obtain ⟨rfl, hw0⟩ := hq
    rw [hw0, hsg]
    refine r_astoreN hX d_EF_seek_5 (by decide) ?_
    refine r_aloadN hX d_EF_seek_7 (by first | rfl | assumption) ?_
    refine r_ifnonnullN hX d_EF_seek_9 ?_
    refine r_iconst (v := -1) hX d_EF_seek_12 (by decide) ?_
    refine r_goto hX 27 d_EF_seek_13 (by decide) ?_
    refine r_iret hX hR d_EF_seek_27 rfl (by first | rfl | assumption) ?_
    exact ⟨by rw [hsg], rfl⟩
theorem c_EF_jump {G : Ev_G} {w : Ev_W} {n sd : Nat} {L As : Nat → Option Nat} {sf : Nat → Int32} (he : is_EF w) (htr : is_Tr w n L As sf sd) (hn : n ≤ 60) (hsd : sd ≤ 1200) {m : Nat} {ad : Nat → Nat} {E : Nat → Ev_E} {PF : Nat → Nat → Int32} {mi : Nat → Option Nat} (hes : is_Es w m L ad E PF) (hm : n ≤ m) (hok : el_ok n ad E mi) (hfi : is_Fi w) (k tr : Int32) (mo : Int64) : ev_Met G M_EF_jump 3 0 0 [.ref 100, .int k, .int tr, .long mo] w (fun v w' => v = some (.int (match ef_seg E n k with | none => -1 | some j => o_i (fi_fc E n tr mo j (tr_end (el_lev E) n j - (j + 1))))) ∧ w' = w) := by
  refine ev_Met.of md_EF_jump (Nat.le_of_ble_eq_true rfl) (fun X hX hR => ?_)
  rcases ef_seg_c E hn k with ⟨j, hj, hsg, hs1, hkj⟩ | hsg
  · refine q_aload hX 0 d_EF_jump_0 rfl (by first | rfl | assumption) ?_
    refine q_iload hX 1 d_EF_jump_1 rfl (by first | rfl | assumption) ?_
    refine r_callV (as := [_]) hX d_EF_jump_2 lk_EF_213 he rfl rfl (Nat.le_of_ble_eq_true rfl) (by decide) 0 0 (Nat.le_refl _) (Nat.le_refl _) (c_EF_segmentAt (G := G) he htr hn hsd hes hm hok k) (fun v w1 hq => ?_)
    obtain ⟨rfl, hw0⟩ := hq
    rw [hw0, hsg]
    refine r_astore hX d_EF_jump_5 (by decide) ?_
    refine r_aload hX d_EF_jump_7 (by first | rfl | assumption) ?_
    refine r_ifnonnull hX 16 d_EF_jump_9 (by decide) ?_
    refine q_aload hX 0 d_EF_jump_16 rfl (by first | rfl | assumption) ?_
    refine r_getf hX d_EF_jump_17 fl_EF_58 he rfl ?_
    refine r_aload hX d_EF_jump_20 (by first | rfl | assumption) ?_
    refine q_iload hX 2 d_EF_jump_22 rfl (by first | rfl | assumption) ?_
    refine q_lload hX 3 d_EF_jump_23 rfl (by first | rfl | assumption) ?_
    refine r_callV (as := [_, _, _]) hX d_EF_jump_24 lk_EF_223 hfi rfl rfl (Nat.le_of_ble_eq_true rfl) (by decide) 0 0 (Nat.le_refl _) (Nat.le_refl _) (c_Fi_findByCues (G := G) htr hn hsd hes hm hok hfi hj tr mo) (fun v w1 hq => ?_)
    obtain ⟨rfl, rfl⟩ := hq
    refine r_iret hX hR d_EF_jump_27 rfl (by first | rfl | assumption) ?_
    exact ⟨by rw [hsg], rfl⟩
  · refine q_aload hX 0 d_EF_jump_0 rfl (by first | rfl | assumption) ?_
    refine q_iload hX 1 d_EF_jump_1 rfl (by first | rfl | assumption) ?_
    refine r_callV (as := [_]) hX d_EF_jump_2 lk_EF_213 he rfl rfl (Nat.le_of_ble_eq_true rfl) (by decide) 0 0 (Nat.le_refl _) (Nat.le_refl _) (c_EF_segmentAt (G := G) he htr hn hsd hes hm hok k) (fun v w1 hq => ?_)
    obtain ⟨rfl, hw0⟩ := hq
    rw [hw0, hsg]
    refine r_astoreN hX d_EF_jump_5 (by decide) ?_
    refine r_aloadN hX d_EF_jump_7 (by first | rfl | assumption) ?_
    refine r_ifnonnullN hX d_EF_jump_9 ?_
    refine r_iconst (v := -1) hX d_EF_jump_12 (by decide) ?_
    refine r_goto hX 27 d_EF_jump_13 (by decide) ?_
    refine r_iret hX hR d_EF_jump_27 rfl (by first | rfl | assumption) ?_
    exact ⟨by rw [hsg], rfl⟩
