/-! ===== the reference: letter, frame, evenHands ===== -/
theorem c_Mo_letter {G : Ev_G} {w : Ev_W} {I : Nat → Int32} {v0 : Int64} {A : Ev_A} (hM : is_M w I v0 A) {S : Ev_S} {D : Nat → Ev_D} {sf : Nat → Int32} {sd : Nat} (hm : mdl I A S D sf sd) (k c : Int32) : ev_Met G M_Mo_letter 2 0 0 [.ref 117, .int k, .int c] w (fun v w' => ((∀ j, ix (sn S) k = some j → ¬ (so_fm (sE S j).1 = 2 ∧ ef_isl c = true)) ∧ v = some (.int (-1)) ∧ w' = w) ∨ (∃ j, ix (sn S) k = some j ∧ so_fm (sE S j).1 = 2 ∧ ef_isl c = true ∧ (D j).1 < 16 ∧ v = some (.int (nI ((D j).1 + 1))) ∧ is_M w' I v0 (aset (aset A 122 (16 * j + (D j).1) c) 121 j (nI ((D j).1 + 1))) ∧ mo_sm w w') ∨ (∃ j, ix (sn S) k = some j ∧ so_fm (sE S j).1 = 2 ∧ ef_isl c = true ∧ ¬ (D j).1 < 16 ∧ v = some (.int (-8)) ∧ w' = w)) := by
  refine ev_Met.of md_Mo_letter (Nat.le_of_ble_eq_true rfl) (fun X hX hR => ?_)
  obtain ⟨hc, hn, hu, hsd, hpo, hpl, hrow, hhp⟩ := id hm
  rcases ix_cases (n := sn S) (by omega) k with ⟨j, hj, rfl, hix⟩ | ⟨hix, hno⟩
  · obtain ⟨hD, hQ, hMa⟩ := hrow j hj
    obtain ⟨d1, d2, d3, d4, d5, d6, d7, d8⟩ := hD
    obtain ⟨q1, q2, q3, q4, q5, q6⟩ := hQ
    have h17 : (sE S j).1 < 17 := (hpl j hj).1
    have hs : mo_sm w w := mo_sm.rf
    by_cases hf : so_fm (sE S j).1 = 2
    · refine q_aload hX 0 d_Mo_letter_0 rfl (by first | rfl | assumption) ?_
      refine q_iload hX 1 d_Mo_letter_1 rfl (by first | rfl | assumption) ?_
      refine r_iconst (v := 2) hX d_Mo_letter_2 (by decide) ?_
      refine r_callV (as := [_, _]) hX d_Mo_letter_3 lk_Mo_199 hM.1 rfl rfl (Nat.le_of_ble_eq_true rfl) (by decide) 0 0 (Nat.le_refl _) (Nat.le_refl _) (c_Mo_isKind (G := G) hM hc hn _ 2) (fun v w1 hq => ?_)
      obtain ⟨rfl, hw⟩ := hq
      rw [hw, mo_ik, hix]
      dsimp only
      rw [decide_eq_true (show so_fm (so_of (A.1 118 j)) = 2 from by rw [q1, ← d1]; exact hf), show b_i true = 1 from rfl]
      refine r_if_eq hX 21 d_Mo_letter_6 (by decide) (fun c6 => absurd c6 (by decide)) (fun _ => ?_)
      refine q_iload hX 2 d_Mo_letter_9 rfl (by first | rfl | assumption) ?_
      refine r_bipush (v := 32) hX d_Mo_letter_10 (by decide) ?_
      refine r_icmp_lt hX 21 d_Mo_letter_12 (by decide) (fun c12 => ?_) (fun c12 => ?_)
      · refine r_iconst (v := -1) hX d_Mo_letter_21 (by decide) ?_
        refine r_iret hX hR d_Mo_letter_22 rfl (by first | rfl | assumption) ?_
        exact Or.inl ⟨fun i hi z => by have hl := of_decide_eq_true z.2; rw [i_lt, show (32 : Int32).toInt = 32 from rfl] at c12; omega, rfl, rfl⟩
      · refine q_iload hX 2 d_Mo_letter_15 rfl (by first | rfl | assumption) ?_
        refine r_bipush (v := 126) hX d_Mo_letter_16 (by decide) ?_
        refine r_icmp_le hX 23 d_Mo_letter_18 (by decide) (fun c18 => ?_) (fun c18 => ?_)
        · have hisl : ef_isl c = true := decide_eq_true ⟨by rw [i_lt, show (32 : Int32).toInt = 32 from rfl] at c12; omega, by rw [i_le, show (126 : Int32).toInt = 126 from rfl] at c18; omega⟩
          have h16 := d4 hf
          refine q_aload hX 0 d_Mo_letter_23 rfl (by first | rfl | assumption) ?_
          refine r_getf hX d_Mo_letter_24 fl_Mo_20 hM.1 rfl ?_
          refine q_iload hX 1 d_Mo_letter_27 rfl (by first | rfl | assumption) ?_
          refine r_ialdm (c := 121) (x := nI (D j).1) hX d_Mo_letter_28 hM rfl rfl (by omega) (q3 (Or.inl hf)) ?_
          refine r_bipush (v := 16) hX d_Mo_letter_29 (by decide) ?_
          refine r_icmp_ne hX 37 d_Mo_letter_31 (by decide) (fun c31 => ?_) (fun c31 => ?_)
          · have hlt : (D j).1 < 16 := by
              have : (D j).1 ≠ 16 := fun z => c31 (by rw [z]; rfl)
              omega
            refine q_aload hX 0 d_Mo_letter_37 rfl (by first | rfl | assumption) ?_
            refine r_getf hX d_Mo_letter_38 fl_Mo_23 hM.1 rfl ?_
            refine r_bipush (v := 16) hX d_Mo_letter_41 (by decide) ?_
            refine q_iload hX 1 d_Mo_letter_43 rfl (by first | rfl | assumption) ?_
            refine r_imul hX d_Mo_letter_44 ?_
            refine q_aload hX 0 d_Mo_letter_45 rfl (by first | rfl | assumption) ?_
            refine r_getf hX d_Mo_letter_46 fl_Mo_20 hM.1 rfl ?_
            refine q_iload hX 1 d_Mo_letter_49 rfl (by first | rfl | assumption) ?_
            refine r_ialdm (c := 121) (x := nI (D j).1) hX d_Mo_letter_50 hM rfl rfl (by omega) (q3 (Or.inl hf)) ?_
            refine r_iadd hX d_Mo_letter_51 ?_
            refine q_iload hX 2 d_Mo_letter_52 rfl (by first | rfl | assumption) ?_
            refine r_iastm (c := 122) hX d_Mo_letter_53 hM hs rfl (j := 16 * j + (D j).1) (by rw [show (16 : Int32) = nI 16 from rfl, nI_ml, nI_add]) (by omega) (fun w hM hs => ?_)
            refine q_aload hX 0 d_Mo_letter_54 rfl (by first | rfl | assumption) ?_
            refine r_getf hX d_Mo_letter_55 fl_Mo_20 hM.1 rfl ?_
            refine q_iload hX 1 d_Mo_letter_58 rfl (by first | rfl | assumption) ?_
            refine r_dup2 hX d_Mo_letter_59 rfl rfl ?_
            refine r_ialdm (c := 121) (x := nI (D j).1) hX d_Mo_letter_60 hM rfl rfl (by omega) ((congrFun (aset_ne _ _ _ (by decide)) _).trans (q3 (Or.inl hf))) ?_
            refine r_iconst (v := 1) hX d_Mo_letter_61 (by decide) ?_
            refine r_iadd hX d_Mo_letter_62 ?_
            rw [nI_1]
            refine r_iastm (c := 121) hX d_Mo_letter_63 hM hs rfl rfl (by omega) (fun w hM hs => ?_)
            refine q_aload hX 0 d_Mo_letter_64 rfl (by first | rfl | assumption) ?_
            refine r_getf hX d_Mo_letter_65 fl_Mo_20 hM.1 rfl ?_
            refine q_iload hX 1 d_Mo_letter_68 rfl (by first | rfl | assumption) ?_
            refine r_ialdm (c := 121) (x := nI ((D j).1 + 1)) hX d_Mo_letter_69 hM rfl rfl (by omega) (aset_self _ _ _ _) ?_
            refine r_iret hX hR d_Mo_letter_70 rfl (by first | rfl | assumption) ?_
            exact Or.inr (Or.inl ⟨j, hix, hf, hisl, hlt, rfl, hM, hs⟩)
          · refine r_bipush (v := -8) hX d_Mo_letter_34 (by decide) ?_
            refine r_iret hX hR d_Mo_letter_36 rfl (by first | rfl | assumption) ?_
            exact Or.inr (Or.inr ⟨j, hix, hf, hisl, fun z => absurd ((nI_eq (b := 16) (by omega) (by decide)).mp c31) (by omega), rfl, rfl⟩)
        · refine r_iconst (v := -1) hX d_Mo_letter_21 (by decide) ?_
          refine r_iret hX hR d_Mo_letter_22 rfl (by first | rfl | assumption) ?_
          exact Or.inl ⟨fun i hi z => by have hl := of_decide_eq_true z.2; rw [i_le, show (126 : Int32).toInt = 126 from rfl] at c18; omega, rfl, rfl⟩
    · refine q_aload hX 0 d_Mo_letter_0 rfl (by first | rfl | assumption) ?_
      refine q_iload hX 1 d_Mo_letter_1 rfl (by first | rfl | assumption) ?_
      refine r_iconst (v := 2) hX d_Mo_letter_2 (by decide) ?_
      refine r_callV (as := [_, _]) hX d_Mo_letter_3 lk_Mo_199 hM.1 rfl rfl (Nat.le_of_ble_eq_true rfl) (by decide) 0 0 (Nat.le_refl _) (Nat.le_refl _) (c_Mo_isKind (G := G) hM hc hn _ 2) (fun v w1 hq => ?_)
      obtain ⟨rfl, hw⟩ := hq
      rw [hw, mo_ik, hix]
      dsimp only
      rw [decide_eq_false (show ¬ so_fm (so_of (A.1 118 j)) = 2 from by rw [q1, ← d1]; exact hf), show b_i false = 0 from rfl]
      refine r_if_eq hX 21 d_Mo_letter_6 (by decide) (fun _ => ?_) (fun c6 => absurd rfl c6)
      refine r_iconst (v := -1) hX d_Mo_letter_21 (by decide) ?_
      refine r_iret hX hR d_Mo_letter_22 rfl (by first | rfl | assumption) ?_
      exact Or.inl ⟨fun i hi z => (by rw [hix] at hi; cases hi; exact hf z.1), rfl, rfl⟩
  · refine q_aload hX 0 d_Mo_letter_0 rfl (by first | rfl | assumption) ?_
    refine q_iload hX 1 d_Mo_letter_1 rfl (by first | rfl | assumption) ?_
    refine r_iconst (v := 2) hX d_Mo_letter_2 (by decide) ?_
    refine r_callV (as := [_, _]) hX d_Mo_letter_3 lk_Mo_199 hM.1 rfl rfl (Nat.le_of_ble_eq_true rfl) (by decide) 0 0 (Nat.le_refl _) (Nat.le_refl _) (c_Mo_isKind (G := G) hM hc hn _ 2) (fun v w1 hq => ?_)
    obtain ⟨rfl, hw⟩ := hq
    rw [hw, mo_ik, hix]
    dsimp only
    rw [show b_i false = 0 from rfl]
    refine r_if_eq hX 21 d_Mo_letter_6 (by decide) (fun _ => ?_) (fun c6 => absurd rfl c6)
    refine r_iconst (v := -1) hX d_Mo_letter_21 (by decide) ?_
    refine r_iret hX hR d_Mo_letter_22 rfl (by first | rfl | assumption) ?_
    exact Or.inl ⟨fun i hi => (by rw [hix] at hi; cases hi), rfl, rfl⟩
theorem c_Mo_frame {G : Ev_G} {w : Ev_W} {I : Nat → Int32} {v0 : Int64} {A : Ev_A} (hM : is_M w I v0 A) {c f : Nat} (hh : I 2 = nI c) (hb : I 3 = nI f) (hc8 : c ≤ 8) (hf4 : f ≤ 400) (n x : Int32) : ev_Met G M_Mo_frame 0 0 0 [.ref 117, .int n, .int x] w (fun v w' => (¬ fm_ok n x ∧ v = some (.int (-1)) ∧ w' = w) ∨ (fm_ok n x ∧ (c < 8 ∧ f + n.toNatClampNeg ≤ 400) ∧ v = some (.int (nI (c + 1))) ∧ is_M w' (upd (upd I 3 (nI (f + n.toNatClampNeg))) 2 (nI (c + 1))) v0 (aset (aset A 130 c (nI n.toNatClampNeg)) 131 c x) ∧ mo_sm w w') ∨ (fm_ok n x ∧ ¬ (c < 8 ∧ f + n.toNatClampNeg ≤ 400) ∧ v = some (.int (-6)) ∧ w' = w)) := by
  refine ev_Met.of md_Mo_frame (Nat.le_of_ble_eq_true rfl) (fun X hX hR => ?_)
  have hs : mo_sm w w := mo_sm.rf
  refine q_iload hX 1 d_Mo_frame_0 rfl (by first | rfl | assumption) ?_
  refine r_if_lt hX 22 d_Mo_frame_1 (by decide) (fun c1 => ?_) (fun c1 => ?_)
  · refine r_iconst (v := -1) hX d_Mo_frame_22 (by decide) ?_
    refine r_iret hX hR d_Mo_frame_23 rfl (by first | rfl | assumption) ?_
    exact Or.inl ⟨fun z => by have h1 := z.1; have h2 := z.2.1; have h3 := z.2.2.1; have h4 := z.2.2.2; rw [i_lt, i_0] at c1; omega, rfl, rfl⟩
  · refine q_iload hX 1 d_Mo_frame_4 rfl (by first | rfl | assumption) ?_
    refine r_sipush (v := 300) hX d_Mo_frame_5 (by decide) ?_
    refine r_icmp_gt hX 22 d_Mo_frame_8 (by decide) (fun c8 => ?_) (fun c8 => ?_)
    · refine r_iconst (v := -1) hX d_Mo_frame_22 (by decide) ?_
      refine r_iret hX hR d_Mo_frame_23 rfl (by first | rfl | assumption) ?_
      exact Or.inl ⟨fun z => by have h1 := z.1; have h2 := z.2.1; have h3 := z.2.2.1; have h4 := z.2.2.2; rw [i_lt, show (300 : Int32).toInt = 300 from rfl] at c8; omega, rfl, rfl⟩
    · refine q_iload hX 2 d_Mo_frame_11 rfl (by first | rfl | assumption) ?_
      refine r_if_lt hX 22 d_Mo_frame_12 (by decide) (fun c12 => ?_) (fun c12 => ?_)
      · refine r_iconst (v := -1) hX d_Mo_frame_22 (by decide) ?_
        refine r_iret hX hR d_Mo_frame_23 rfl (by first | rfl | assumption) ?_
        exact Or.inl ⟨fun z => by have h1 := z.1; have h2 := z.2.1; have h3 := z.2.2.1; have h4 := z.2.2.2; rw [i_lt, i_0] at c12; omega, rfl, rfl⟩
      · refine q_iload hX 2 d_Mo_frame_15 rfl (by first | rfl | assumption) ?_
        refine r_sipush (v := 255) hX d_Mo_frame_16 (by decide) ?_
        refine r_icmp_le hX 24 d_Mo_frame_19 (by decide) (fun c19 => ?_) (fun c19 => ?_)
        · have hgo : fm_ok n x := ⟨by rw [i_lt, i_0] at c1; omega, by rw [i_lt, show (300 : Int32).toInt = 300 from rfl] at c8; omega, by rw [i_lt, i_0] at c12; omega, by rw [i_le, show (255 : Int32).toInt = 255 from rfl] at c19; omega⟩
          obtain ⟨q, hq31, rfl⟩ := nI_of (x := n) (fun z => c1 z)
          have hq : q ≤ 300 := by have h2 := hgo.2.1; rw [nI_toInt hq31] at h2; omega
          have hclq : (nI q).toNatClampNeg = q := nI_clamp hq31
          refine q_aload hX 0 d_Mo_frame_24 rfl (by first | rfl | assumption) ?_
          refine r_getm (J := 2) (x := nI c) hX d_Mo_frame_25 fl_Mo_202 hM hh rfl ?_
          refine r_bipush (v := 8) hX d_Mo_frame_28 (by decide) ?_
          refine r_icmp_eq hX 45 d_Mo_frame_30 (by decide) (fun c30 => ?_) (fun c30 => ?_)
          · refine r_bipush (v := -6) hX d_Mo_frame_45 (by decide) ?_
            refine r_iret hX hR d_Mo_frame_47 rfl (by first | rfl | assumption) ?_
            exact Or.inr (Or.inr ⟨hgo, fun z => by have h1 := (nI_eq (b := 8) (by omega) (by decide)).mp c30; omega, rfl, rfl⟩)
          · have h8 : c < 8 := by
              have : c ≠ 8 := fun z => c30 (by rw [z]; rfl)
              omega
            refine q_aload hX 0 d_Mo_frame_33 rfl (by first | rfl | assumption) ?_
            refine r_getm (J := 3) (x := nI f) hX d_Mo_frame_34 fl_Mo_205 hM hb rfl ?_
            refine q_iload hX 1 d_Mo_frame_37 rfl (by first | rfl | assumption) ?_
            refine r_iadd hX d_Mo_frame_38 ?_
            rw [nI_add]
            refine r_sipush (v := 400) hX d_Mo_frame_39 (by decide) ?_
            refine r_icmp_le hX 48 d_Mo_frame_42 (by decide) (fun c42 => ?_) (fun c42 => ?_)
            · refine q_aload hX 0 d_Mo_frame_48 rfl (by first | rfl | assumption) ?_
              refine r_getf hX d_Mo_frame_49 fl_Mo_48 hM.1 rfl ?_
              refine q_aload hX 0 d_Mo_frame_52 rfl (by first | rfl | assumption) ?_
              refine r_getm (J := 2) (x := nI c) hX d_Mo_frame_53 fl_Mo_202 hM hh rfl ?_
              refine q_iload hX 1 d_Mo_frame_56 rfl (by first | rfl | assumption) ?_
              refine r_iastm (c := 130) hX d_Mo_frame_57 hM hs rfl rfl (by omega) (fun w hM hs => ?_)
              refine q_aload hX 0 d_Mo_frame_58 rfl (by first | rfl | assumption) ?_
              refine r_getf hX d_Mo_frame_59 fl_Mo_51 hM.1 rfl ?_
              refine q_aload hX 0 d_Mo_frame_62 rfl (by first | rfl | assumption) ?_
              refine r_getm (J := 2) (x := nI c) hX d_Mo_frame_63 fl_Mo_202 hM hh rfl ?_
              refine q_iload hX 2 d_Mo_frame_66 rfl (by first | rfl | assumption) ?_
              refine r_iastm (c := 131) hX d_Mo_frame_67 hM hs rfl rfl (by omega) (fun w hM hs => ?_)
              refine q_aload hX 0 d_Mo_frame_68 rfl (by first | rfl | assumption) ?_
              refine q_aload hX 0 d_Mo_frame_69 rfl (by first | rfl | assumption) ?_
              refine r_getm (J := 3) (x := nI f) hX d_Mo_frame_70 fl_Mo_205 hM hb rfl ?_
              refine q_iload hX 1 d_Mo_frame_73 rfl (by first | rfl | assumption) ?_
              refine r_iadd hX d_Mo_frame_74 ?_
              rw [nI_add]
              refine r_putm (J := 3) hX d_Mo_frame_75 fp_Mo_205 hM hs rfl rfl (Nat.le_of_ble_eq_true rfl) rfl (fun w hM hs => ?_)
              refine q_aload hX 0 d_Mo_frame_78 rfl (by first | rfl | assumption) ?_
              refine r_dup hX d_Mo_frame_79 rfl ?_
              refine r_getm (J := 2) (x := nI c) hX d_Mo_frame_80 fl_Mo_202 hM hh rfl ?_
              refine r_iconst (v := 1) hX d_Mo_frame_83 (by decide) ?_
              refine r_iadd hX d_Mo_frame_84 ?_
              rw [nI_1]
              refine r_putm (J := 2) hX d_Mo_frame_85 fp_Mo_202 hM hs rfl rfl (Nat.le_of_ble_eq_true rfl) rfl (fun w hM hs => ?_)
              refine q_aload hX 0 d_Mo_frame_88 rfl (by first | rfl | assumption) ?_
              refine r_getm (J := 2) (x := nI (c + 1)) hX d_Mo_frame_89 fl_Mo_202 hM rfl rfl ?_
              refine r_iret hX hR d_Mo_frame_92 rfl (by first | rfl | assumption) ?_
              exact Or.inr (Or.inl ⟨hgo, ⟨h8, by rw [hclq]; exact (nI_leI (b := 400) (by omega) (by decide)).mp c42⟩, rfl, by rw [hclq]; exact hM, hs⟩)
            · refine r_bipush (v := -6) hX d_Mo_frame_45 (by decide) ?_
              refine r_iret hX hR d_Mo_frame_47 rfl (by first | rfl | assumption) ?_
              exact Or.inr (Or.inr ⟨hgo, fun z => c42 (nI_le (b := 400) (by have := z.2; rw [hclq] at this; exact this) (by decide)), rfl, rfl⟩)
        · refine r_iconst (v := -1) hX d_Mo_frame_22 (by decide) ?_
          refine r_iret hX hR d_Mo_frame_23 rfl (by first | rfl | assumption) ?_
          exact Or.inl ⟨fun z => by have h1 := z.1; have h2 := z.2.1; have h3 := z.2.2.1; have h4 := z.2.2.2; rw [i_le, show (255 : Int32).toInt = 255 from rfl] at c19; omega, rfl, rfl⟩
theorem c_Mo_evenHands {G : Ev_G} {w : Ev_W} {I : Nat → Int32} {v0 : Int64} {A : Ev_A} (hM : is_M w I v0 A) {c : Nat} (hh : I 2 = nI c) (hc8 : c ≤ 8) (hc1 : 1 ≤ c) : ev_Met G M_Mo_evenHands 0 0 0 [.ref 117] w (fun v w' => v = some (.int (b_i (fr_ev (A.1 130) (c - 1) 1))) ∧ w' = w) := by
  refine ev_Met.of md_Mo_evenHands (Nat.le_of_ble_eq_true rfl) (fun X hX hR => ?_)
  have loop : ∀ (t i : Nat) (ls : Ev_L), i + t = c → fr_ev (A.1 130) t i = fr_ev (A.1 130) (c - 1) 1 → ls.1 0 = some (.ref 117) → ls.1 1 = some (.int (nI i)) → ev_W G M_Mo_evenHands X 0 0 2 ls [] w := by
    intro t
    induction t with
    | zero =>
      intro i ls e1 e2 l0 l1
      refine q_iload hX 1 d_Mo_evenHands_2 rfl (by first | rfl | assumption) ?_
      refine q_aload hX 0 d_Mo_evenHands_3 rfl (by first | rfl | assumption) ?_
      refine r_getm (J := 2) (x := nI c) hX d_Mo_evenHands_4 fl_Mo_202 hM hh rfl ?_
      refine r_icmp_ge hX 33 d_Mo_evenHands_7 (by decide) (fun _ => ?_) (fun c7 => absurd (nI_le (by omega) (by omega)) c7)
      refine r_iconst (v := 1) hX d_Mo_evenHands_33 (by decide) ?_
      refine r_iret hX hR d_Mo_evenHands_34 rfl (by first | rfl | assumption) ?_
      exact ⟨by rw [← e2]; rfl, rfl⟩
    | succ t ih =>
      intro i ls e1 e2 l0 l1
      refine q_iload hX 1 d_Mo_evenHands_2 rfl (by first | rfl | assumption) ?_
      refine q_aload hX 0 d_Mo_evenHands_3 rfl (by first | rfl | assumption) ?_
      refine r_getm (J := 2) (x := nI c) hX d_Mo_evenHands_4 fl_Mo_202 hM hh rfl ?_
      refine r_icmp_ge hX 33 d_Mo_evenHands_7 (by decide) (fun c7 => absurd c7 (nI_ge (by omega) (by omega))) (fun _ => ?_)
      refine q_aload hX 0 d_Mo_evenHands_10 rfl (by first | rfl | assumption) ?_
      refine r_getf hX d_Mo_evenHands_11 fl_Mo_48 hM.1 rfl ?_
      refine q_iload hX 1 d_Mo_evenHands_14 rfl (by first | rfl | assumption) ?_
      refine r_ialdm (c := 130) (x := _) hX d_Mo_evenHands_15 hM rfl rfl (by omega) rfl ?_
      refine q_aload hX 0 d_Mo_evenHands_16 rfl (by first | rfl | assumption) ?_
      refine r_getf hX d_Mo_evenHands_17 fl_Mo_48 hM.1 rfl ?_
      refine r_iconst (v := 0) hX d_Mo_evenHands_20 (by decide) ?_
      refine r_ialdm (c := 130) (x := _) hX d_Mo_evenHands_21 hM rfl (j := 0) rfl (by decide) rfl ?_
      refine r_icmp_eq hX 27 d_Mo_evenHands_22 (by decide) (fun c22 => ?_) (fun c22 => ?_)
      · refine r_iinc hX d_Mo_evenHands_27 (by first | rfl | assumption) ?_
        refine r_goto hX 2 d_Mo_evenHands_30 (by decide) ?_
        exact ih (i + 1) _ (by omega) (by rw [← e2]; simp [fr_ev, c22]) l0 (by show some (Value.int (nI i + Int32.ofInt 1)) = _; rw [show Int32.ofInt 1 = 1 from rfl, nI_1])
      · refine r_iconst (v := 0) hX d_Mo_evenHands_25 (by decide) ?_
        refine r_iret hX hR d_Mo_evenHands_26 rfl (by first | rfl | assumption) ?_
        exact ⟨by rw [← e2]; simp [fr_ev, c22, b_i], rfl⟩
  refine r_iconst (v := 1) hX d_Mo_evenHands_0 (by decide) ?_
  refine q_istore hX 1 d_Mo_evenHands_1 rfl (by decide) ?_
  exact loop (c - 1) 1 _ (by omega) rfl rfl rfl
