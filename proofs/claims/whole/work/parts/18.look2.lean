/-! ===== ElementFiles: part, sample, detail, letter, frame, seek, jump ===== -/
def el_amok (n : Nat) (E : Nat → Ev_E) (am : Nat → Nat) : Prop := ∀ j, j < n → so_fm (E j).1 = 2 ∨ so_fm (E j).1 = 3 → (E j).2.2.1 = lN (am j) ∧ am j ≤ 16
theorem mk_ok {w : Ev_W} {n m : Nat} {L : Nat → Option Nat} {ad : Nat → Nat} {E : Nat → Ev_E} {PF : Nat → Nat → Int32} {mi : Nat → Option Nat} (hes : is_Es w m L ad E PF) (hm : n ≤ m) (hok : el_ok n ad E mi) : ∀ i, i < n → ev_ok (E i).2.1 := by
  intro i hi r h
  obtain ⟨p1, p2, p3, p4⟩ := hok i hi
  rw [p3] at h
  cases hq : mi i with
  | none => rw [hq] at h; cases h
  | some q =>
    rw [hq] at h
    have hh := (hes.1 q (by have := p4 q hq; omega)).2.1
    have : ad q = r := Option.some.inj h
    omega
theorem so_fm9 : so_fm 9 = 3 := by decide
def ef_det (E : Nat → Ev_E) (j : Nat) (x : Int32) : Int32 := if (E j).1 = 9 then (if x = 0 then (E j).2.2.2 5 else if x = 1 then (E j).2.2.2 6 else if x = 2 then (if (E j).2.2.2 7 = 0 then 0 else 1) else if x = 3 then (E j).2.2.2 8 else -65536) else -65536
theorem i_sw4 (x : Int32) : x = 0 ∨ x = 1 ∨ x = 2 ∨ x = 3 ∨ (¬ x = 0 ∧ ¬ x = 1 ∧ ¬ x = 2 ∧ ¬ x = 3 ∧ (x.toInt < 0 ∨ 3 < x.toInt)) := by
  have h : ∀ c : Int32, x = c ↔ x.toInt = c.toInt := fun c => Int32.toInt_inj.symm
  rw [h 0, h 1, h 2, h 3, i_0, show (1 : Int32).toInt = 1 from rfl, show (2 : Int32).toInt = 2 from rfl, show (3 : Int32).toInt = 3 from rfl]
  omega
theorem c_EF_detail {G : Ev_G} {w : Ev_W} {n sd : Nat} {L As : Nat → Option Nat} {sf : Nat → Int32} (he : is_EF w) (htr : is_Tr w n L As sf sd) (hn : n ≤ 60) (hsd : sd ≤ 1200) {m : Nat} {ad : Nat → Nat} {E : Nat → Ev_E} {PF : Nat → Nat → Int32} {mi : Nat → Option Nat} (hes : is_Es w m L ad E PF) (hm : n ≤ m) (hok : el_ok n ad E mi) (k : Int32) (x : Int32) : ev_Met G M_EF_detail 1 0 0 [.ref 100, .int k, .int x] w (fun v w' => v = some (.int (match ix n k with | none => -65536 | some j => ef_det E j x)) ∧ w' = w) := by
  refine ev_Met.of md_EF_detail (Nat.le_of_ble_eq_true rfl) (fun X hX hR => ?_)
  rcases tr_at_cases hn hes hm k with ⟨j, hj, hkj, hix, hat⟩ | ⟨hix, hat⟩
  · obtain ⟨u1, u2, u3, u4⟩ := hes.1 j (by omega)
    obtain ⟨o1, o2, o3, o4⟩ := hok j hj
    have he0 : w.2 100 = some (.inr (0, [.ref 101, .ref 103, .ref 105, .ref 108, .ref 112, .ref 113, .ref 116])) := he
    obtain ⟨t1, t2, t3, t4⟩ := id htr
    refine q_aload hX 0 d_EF_detail_0 rfl (by first | rfl | assumption) ?_
    refine r_getf hX d_EF_detail_1 fl_EF_31 (by first | assumption | exact ev_set_self _ _ _ | (simp (disch := first | assumption | decide | omega) only [ev_set_self, ev_set_ne, ev_new_self, ev_new_ne]; first | done | assumption)) rfl ?_
    refine q_iload hX 1 d_EF_detail_4 rfl (by first | rfl | assumption) ?_
    refine r_callV (as := [_]) hX d_EF_detail_5 lk_EF_87 htr.1 rfl rfl (Nat.le_of_ble_eq_true rfl) (by decide) 0 0 (Nat.le_refl _) (Nat.le_refl _) (c_Tr_at (G := G) htr hn hsd k) (fun v w1 hq => ?_)
    obtain ⟨rfl, hw0⟩ := hq
    rw [hw0, hat]
    refine q_astore hX 3 d_EF_detail_8 rfl (by decide) ?_
    refine q_aload hX 3 d_EF_detail_9 rfl (by first | rfl | assumption) ?_
    refine r_ifnull hX d_EF_detail_10 ?_
    refine q_aload hX 3 d_EF_detail_13 rfl (by first | rfl | assumption) ?_
    refine r_getf hX d_EF_detail_14 fl_EF_128 (by first | assumption | exact ev_set_self _ _ _ | (simp (disch := first | assumption | decide | omega) only [ev_set_self, ev_set_ne, ev_new_self, ev_new_ne]; first | done | assumption)) rfl ?_
    refine r_getsE (i := 9) hX d_EF_detail_17 (by decide) m_385 ?_
    refine r_acmp_eq (o := some (E j).1) (u := some 9) hX 26 (by intro r h; cases h; exact Or.inl o2) (by intro r h; cases h; omega) d_EF_detail_20 (by decide) (fun c20 => ?_) (fun c20 => ?_)
    · refine q_iload hX 2 d_EF_detail_26 rfl (by first | rfl | assumption) ?_
      rcases i_sw4 x with hx | hx | hx | hx | ⟨h0, h1, h2, h3, hx⟩
      · subst hx
        refine r_tableIn hX 56 d_EF_detail_27 (by decide) (by decide) rfl (by decide) ?_
        refine q_aload hX 3 d_EF_detail_56 rfl (by first | rfl | assumption) ?_
        refine r_getf hX d_EF_detail_57 fl_EF_193 (by first | assumption | exact ev_set_self _ _ _ | (simp (disch := first | assumption | decide | omega) only [ev_set_self, ev_set_ne, ev_new_self, ev_new_ne]; first | done | assumption)) rfl ?_
        refine r_iret hX hR d_EF_detail_60 rfl (by first | rfl | assumption) ?_
        exact ⟨by rw [hix]; dsimp only; rw [ef_det, if_pos (Option.some.inj c20), if_pos rfl], rfl⟩
      · subst hx
        refine r_tableIn hX 61 d_EF_detail_27 (by decide) (by decide) rfl (by decide) ?_
        refine q_aload hX 3 d_EF_detail_61 rfl (by first | rfl | assumption) ?_
        refine r_getf hX d_EF_detail_62 fl_EF_196 (by first | assumption | exact ev_set_self _ _ _ | (simp (disch := first | assumption | decide | omega) only [ev_set_self, ev_set_ne, ev_new_self, ev_new_ne]; first | done | assumption)) rfl ?_
        refine r_iret hX hR d_EF_detail_65 rfl (by first | rfl | assumption) ?_
        exact ⟨by rw [hix]; dsimp only; rw [ef_det, if_pos (Option.some.inj c20), if_neg (by decide), if_pos rfl], rfl⟩
      · subst hx
        refine r_tableIn hX 66 d_EF_detail_27 (by decide) (by decide) rfl (by decide) ?_
        refine q_aload hX 3 d_EF_detail_66 rfl (by first | rfl | assumption) ?_
        refine r_getf hX d_EF_detail_67 fl_EF_199 (by first | assumption | exact ev_set_self _ _ _ | (simp (disch := first | assumption | decide | omega) only [ev_set_self, ev_set_ne, ev_new_self, ev_new_ne]; first | done | assumption)) rfl ?_
        refine r_if_eq hX 77 d_EF_detail_70 (by decide) (fun c70 => ?_) (fun c70 => ?_)
        · refine r_iconst (v := 0) hX d_EF_detail_77 (by decide) ?_
          refine r_iret hX hR d_EF_detail_78 rfl (by first | rfl | assumption) ?_
          exact ⟨by rw [hix]; dsimp only; rw [ef_det, if_pos (Option.some.inj c20), if_neg (by decide), if_neg (by decide), if_pos rfl, if_pos c70], rfl⟩
        · refine r_iconst (v := 1) hX d_EF_detail_73 (by decide) ?_
          refine r_goto hX 78 d_EF_detail_74 (by decide) ?_
          refine r_iret hX hR d_EF_detail_78 rfl (by first | rfl | assumption) ?_
          exact ⟨by rw [hix]; dsimp only; rw [ef_det, if_pos (Option.some.inj c20), if_neg (by decide), if_neg (by decide), if_pos rfl, if_neg c70], rfl⟩
      · subst hx
        refine r_tableIn hX 79 d_EF_detail_27 (by decide) (by decide) rfl (by decide) ?_
        refine q_aload hX 3 d_EF_detail_79 rfl (by first | rfl | assumption) ?_
        refine r_getf hX d_EF_detail_80 fl_EF_203 (by first | assumption | exact ev_set_self _ _ _ | (simp (disch := first | assumption | decide | omega) only [ev_set_self, ev_set_ne, ev_new_self, ev_new_ne]; first | done | assumption)) rfl ?_
        refine r_iret hX hR d_EF_detail_83 rfl (by first | rfl | assumption) ?_
        exact ⟨by rw [hix]; dsimp only; rw [ef_det, if_pos (Option.some.inj c20), if_neg (by decide), if_neg (by decide), if_neg (by decide), if_pos rfl], rfl⟩
      · refine r_tableOut hX 84 d_EF_detail_27 hx (by decide) ?_
        refine r_ldc hX d_EF_detail_84 m_470 ?_
        refine r_iret hX hR d_EF_detail_86 rfl (by first | rfl | assumption) ?_
        exact ⟨by rw [hix]; dsimp only; rw [ef_det, if_pos (Option.some.inj c20), if_neg h0, if_neg h1, if_neg h2, if_neg h3], rfl⟩
    · refine r_ldc hX d_EF_detail_23 m_470 ?_
      refine r_iret hX hR d_EF_detail_25 rfl (by first | rfl | assumption) ?_
      exact ⟨by rw [hix]; dsimp only; rw [ef_det, if_neg (fun z => c20 (by rw [z]))], rfl⟩
  · have he0 : w.2 100 = some (.inr (0, [.ref 101, .ref 103, .ref 105, .ref 108, .ref 112, .ref 113, .ref 116])) := he
    obtain ⟨t1, t2, t3, t4⟩ := id htr
    refine q_aload hX 0 d_EF_detail_0 rfl (by first | rfl | assumption) ?_
    refine r_getf hX d_EF_detail_1 fl_EF_31 (by first | assumption | exact ev_set_self _ _ _ | (simp (disch := first | assumption | decide | omega) only [ev_set_self, ev_set_ne, ev_new_self, ev_new_ne]; first | done | assumption)) rfl ?_
    refine q_iload hX 1 d_EF_detail_4 rfl (by first | rfl | assumption) ?_
    refine r_callV (as := [_]) hX d_EF_detail_5 lk_EF_87 htr.1 rfl rfl (Nat.le_of_ble_eq_true rfl) (by decide) 0 0 (Nat.le_refl _) (Nat.le_refl _) (c_Tr_at (G := G) htr hn hsd k) (fun v w1 hq => ?_)
    obtain ⟨rfl, hw0⟩ := hq
    rw [hw0, hat]
    refine q_astoreN hX 3 d_EF_detail_8 rfl (by decide) ?_
    refine q_aloadN hX 3 d_EF_detail_9 rfl (by first | rfl | assumption) ?_
    refine r_ifnullN hX 23 d_EF_detail_10 (by decide) ?_
    refine r_ldc hX d_EF_detail_23 m_470 ?_
    refine r_iret hX hR d_EF_detail_25 rfl (by first | rfl | assumption) ?_
    exact ⟨by rw [hix], rfl⟩
def ef_part (E : Nat → Ev_E) (PF : Nat → Nat → Int32) (ad am : Nat → Nat) (sf : Nat → Int32) (sd n j : Nat) (i : Int32) : Int32 :=
  if i.toInt < 0 then -1 else if so_fm (E j).1 = 0 then o_i (tr_ch E (ad j) i.toNatClampNeg (tr_end (el_lev E) n j - (j + 1)) (j + 1) 0) else if so_fm (E j).1 = 2 ∨ so_fm (E j).1 = 3 then el_at (am j) (PF j) i else if so_fm (E j).1 = 6 then (if i.toInt < ((E j).2.2.2 4).toInt then tr_sa sf sd ((E j).2.2.2 3 + i) else -1) else -1
theorem c_EF_part {G : Ev_G} {w : Ev_W} {n sd : Nat} {L As : Nat → Option Nat} {sf : Nat → Int32} (he : is_EF w) (htr : is_Tr w n L As sf sd) (hn : n ≤ 60) (hsd : sd ≤ 1200) {m : Nat} {ad : Nat → Nat} {E : Nat → Ev_E} {PF : Nat → Nat → Int32} {mi : Nat → Option Nat} (hes : is_Es w m L ad E PF) (hm : n ≤ m) (hok : el_ok n ad E mi) {am : Nat → Nat} (ham : el_amok n E am) (k : Int32) (i : Int32) : ev_Met G M_EF_part 2 0 0 [.ref 100, .int k, .int i] w (fun v w' => v = some (.int (match ix n k with | none => -1 | some j => ef_part E PF ad am sf sd n j i)) ∧ w' = w) := by
  refine ev_Met.of md_EF_part (Nat.le_of_ble_eq_true rfl) (fun X hX hR => ?_)
  rcases tr_at_cases hn hes hm k with ⟨j, hj, hkj, hix, hat⟩ | ⟨hix, hat⟩
  · obtain ⟨u1, u2, u3, u4⟩ := hes.1 j (by omega)
    obtain ⟨o1, o2, o3, o4⟩ := hok j hj
    have he0 : w.2 100 = some (.inr (0, [.ref 101, .ref 103, .ref 105, .ref 108, .ref 112, .ref 113, .ref 116])) := he
    obtain ⟨t1, t2, t3, t4⟩ := id htr
    refine q_aload hX 0 d_EF_part_0 rfl (by first | rfl | assumption) ?_
    refine r_getf hX d_EF_part_1 fl_EF_31 (by first | assumption | exact ev_set_self _ _ _ | (simp (disch := first | assumption | decide | omega) only [ev_set_self, ev_set_ne, ev_new_self, ev_new_ne]; first | done | assumption)) rfl ?_
    refine q_iload hX 1 d_EF_part_4 rfl (by first | rfl | assumption) ?_
    refine r_callV (as := [_]) hX d_EF_part_5 lk_EF_87 htr.1 rfl rfl (Nat.le_of_ble_eq_true rfl) (by decide) 0 0 (Nat.le_refl _) (Nat.le_refl _) (c_Tr_at (G := G) htr hn hsd k) (fun v w1 hq => ?_)
    obtain ⟨rfl, hw0⟩ := hq
    rw [hw0, hat]
    refine q_astore hX 3 d_EF_part_8 rfl (by decide) ?_
    refine q_aload hX 3 d_EF_part_9 rfl (by first | rfl | assumption) ?_
    refine r_ifnull hX d_EF_part_10 ?_
    refine q_iload hX 2 d_EF_part_13 rfl (by first | rfl | assumption) ?_
    refine r_if_ge hX 19 d_EF_part_14 (by decide) (fun c14 => ?_) (fun c14 => ?_)
    · refine q_aload hX 3 d_EF_part_19 rfl (by first | rfl | assumption) ?_
      refine r_getf hX d_EF_part_20 fl_EF_128 (by first | assumption | exact ev_set_self _ _ _ | (simp (disch := first | assumption | decide | omega) only [ev_set_self, ev_set_ne, ev_new_self, ev_new_ne]; first | done | assumption)) rfl ?_
      refine r_getE hX d_EF_part_23 o2 (q := ev_fl[1]) (by decide) m_875 ?_
      rw [show ev_fl[1].2.2.2.getD (E j).1 0 = so_fm (E j).1 from rfl]
      rcases so_fm_c (E j).1 o2 with hf | hf | hf | hf | hf | hf | hf
      · rw [hf]
        refine r_tableIn hX 68 d_EF_part_26 (by decide) (by decide) rfl (by decide) ?_
        refine q_aload hX 0 d_EF_part_68 rfl (by first | rfl | assumption) ?_
        refine r_getf hX d_EF_part_69 fl_EF_31 (by first | assumption | exact ev_set_self _ _ _ | (simp (disch := first | assumption | decide | omega) only [ev_set_self, ev_set_ne, ev_new_self, ev_new_ne]; first | done | assumption)) rfl ?_
        refine q_aload hX 3 d_EF_part_72 rfl (by first | rfl | assumption) ?_
        refine q_iload hX 2 d_EF_part_73 rfl (by first | rfl | assumption) ?_
        have hi31 : i.toNatClampNeg < 2 ^ 31 := by have := i_cl (x := i) (by rw [i_le, i_0] at c14; exact c14); have := Int32.toInt_lt i; omega
        have hie : i = nI i.toNatClampNeg := by
          obtain ⟨q, hq, e⟩ := nI_of (x := i) (by rw [i_lt, i_0]; rw [i_le, i_0] at c14; omega)
          rw [e, nI_clamp hq]
        have hcon := c_Tr_childOf (G := G) htr hn hsd hes hm hj o1 (mk_ok hes hm hok) i.toNatClampNeg hi31
        rw [← hie] at hcon
        refine r_callV (as := [_, _]) hX d_EF_part_74 lk_EF_176 t1 rfl rfl (Nat.le_of_ble_eq_true rfl) (by decide) 0 0 (Nat.le_refl _) (Nat.le_refl _) (hcon) (fun v w1 hq => ?_)
        obtain ⟨rfl, rfl⟩ := hq
        refine r_iret hX hR d_EF_part_77 rfl (by first | rfl | assumption) ?_
        exact ⟨by rw [hix]; dsimp only; rw [ef_part, if_neg (by rw [i_le, i_0] at c14; omega), if_pos hf], rfl⟩
      · rw [hf]
        refine r_tableIn hX 110 d_EF_part_26 (by decide) (by decide) rfl (by decide) ?_
        refine r_iconst (v := -1) hX d_EF_part_110 (by decide) ?_
        refine r_iret hX hR d_EF_part_111 rfl (by first | rfl | assumption) ?_
        exact ⟨by rw [hix]; dsimp only; rw [ef_part, if_neg (by rw [i_le, i_0] at c14; omega), if_neg (by rw [hf]; decide), if_neg (by rw [hf]; decide), if_neg (by rw [hf]; decide)], rfl⟩
      · rw [hf]
        refine r_tableIn hX 78 d_EF_part_26 (by decide) (by decide) rfl (by decide) ?_
        refine q_aload hX 3 d_EF_part_78 rfl (by first | rfl | assumption) ?_
        refine q_iload hX 2 d_EF_part_79 rfl (by first | rfl | assumption) ?_
        refine r_callV (as := [_]) hX d_EF_part_80 lk_EF_180 u3 rfl rfl (Nat.le_of_ble_eq_true rfl) (by decide) 0 0 (Nat.le_refl _) (Nat.le_refl _) (c_El_partAt (G := G) u3 u4 (by have := (ham j hj (by first | exact Or.inl hf | exact Or.inr hf)).2; omega) (ham j hj (by first | exact Or.inl hf | exact Or.inr hf)).1 i) (fun v w1 hq => ?_)
        obtain ⟨rfl, rfl⟩ := hq
        refine r_iret hX hR d_EF_part_83 rfl (by first | rfl | assumption) ?_
        exact ⟨by rw [hix]; dsimp only; rw [ef_part, if_neg (by rw [i_le, i_0] at c14; omega), if_neg (by rw [hf]; decide), if_pos (Or.inl hf)], rfl⟩
      · rw [hf]
        refine r_tableIn hX 78 d_EF_part_26 (by decide) (by decide) rfl (by decide) ?_
        refine q_aload hX 3 d_EF_part_78 rfl (by first | rfl | assumption) ?_
        refine q_iload hX 2 d_EF_part_79 rfl (by first | rfl | assumption) ?_
        refine r_callV (as := [_]) hX d_EF_part_80 lk_EF_180 u3 rfl rfl (Nat.le_of_ble_eq_true rfl) (by decide) 0 0 (Nat.le_refl _) (Nat.le_refl _) (c_El_partAt (G := G) u3 u4 (by have := (ham j hj (by first | exact Or.inl hf | exact Or.inr hf)).2; omega) (ham j hj (by first | exact Or.inl hf | exact Or.inr hf)).1 i) (fun v w1 hq => ?_)
        obtain ⟨rfl, rfl⟩ := hq
        refine r_iret hX hR d_EF_part_83 rfl (by first | rfl | assumption) ?_
        exact ⟨by rw [hix]; dsimp only; rw [ef_part, if_neg (by rw [i_le, i_0] at c14; omega), if_neg (by rw [hf]; decide), if_pos (Or.inr hf)], rfl⟩
      · rw [hf]
        refine r_tableIn hX 110 d_EF_part_26 (by decide) (by decide) rfl (by decide) ?_
        refine r_iconst (v := -1) hX d_EF_part_110 (by decide) ?_
        refine r_iret hX hR d_EF_part_111 rfl (by first | rfl | assumption) ?_
        exact ⟨by rw [hix]; dsimp only; rw [ef_part, if_neg (by rw [i_le, i_0] at c14; omega), if_neg (by rw [hf]; decide), if_neg (by rw [hf]; decide), if_neg (by rw [hf]; decide)], rfl⟩
      · rw [hf]
        refine r_tableIn hX 110 d_EF_part_26 (by decide) (by decide) rfl (by decide) ?_
        refine r_iconst (v := -1) hX d_EF_part_110 (by decide) ?_
        refine r_iret hX hR d_EF_part_111 rfl (by first | rfl | assumption) ?_
        exact ⟨by rw [hix]; dsimp only; rw [ef_part, if_neg (by rw [i_le, i_0] at c14; omega), if_neg (by rw [hf]; decide), if_neg (by rw [hf]; decide), if_neg (by rw [hf]; decide)], rfl⟩
      · rw [hf]
        refine r_tableIn hX 84 d_EF_part_26 (by decide) (by decide) rfl (by decide) ?_
        refine q_iload hX 2 d_EF_part_84 rfl (by first | rfl | assumption) ?_
        refine q_aload hX 3 d_EF_part_85 rfl (by first | rfl | assumption) ?_
        refine r_getf hX d_EF_part_86 fl_EF_183 (by first | assumption | exact ev_set_self _ _ _ | (simp (disch := first | assumption | decide | omega) only [ev_set_self, ev_set_ne, ev_new_self, ev_new_ne]; first | done | assumption)) rfl ?_
        refine r_icmp_ge hX 108 d_EF_part_89 (by decide) (fun c89 => ?_) (fun c89 => ?_)
        · refine r_iconst (v := -1) hX d_EF_part_108 (by decide) ?_
          refine r_iret hX hR d_EF_part_109 rfl (by first | rfl | assumption) ?_
          exact ⟨by rw [hix]; dsimp only; rw [ef_part, if_neg (by rw [i_le, i_0] at c14; omega), if_neg (by rw [hf]; decide), if_neg (by rw [hf]; decide), if_pos hf, if_neg (by rw [i_le] at c89; omega)], rfl⟩
        · refine q_aload hX 0 d_EF_part_92 rfl (by first | rfl | assumption) ?_
          refine r_getf hX d_EF_part_93 fl_EF_31 (by first | assumption | exact ev_set_self _ _ _ | (simp (disch := first | assumption | decide | omega) only [ev_set_self, ev_set_ne, ev_new_self, ev_new_ne]; first | done | assumption)) rfl ?_
          refine q_aload hX 3 d_EF_part_96 rfl (by first | rfl | assumption) ?_
          refine r_getf hX d_EF_part_97 fl_EF_186 (by first | assumption | exact ev_set_self _ _ _ | (simp (disch := first | assumption | decide | omega) only [ev_set_self, ev_set_ne, ev_new_self, ev_new_ne]; first | done | assumption)) rfl ?_
          refine q_iload hX 2 d_EF_part_100 rfl (by first | rfl | assumption) ?_
          refine r_iadd hX d_EF_part_101 ?_
          refine r_callV (as := [_]) hX d_EF_part_102 lk_EF_189 t1 rfl rfl (Nat.le_of_ble_eq_true rfl) (by decide) 0 0 (Nat.le_refl _) (Nat.le_refl _) (c_Tr_storedAt (G := G) htr hn hsd _) (fun v w1 hq => ?_)
          obtain ⟨rfl, rfl⟩ := hq
          refine r_goto hX 109 d_EF_part_105 (by decide) ?_
          refine r_iret hX hR d_EF_part_109 rfl (by first | rfl | assumption) ?_
          exact ⟨by rw [hix]; dsimp only; rw [ef_part, if_neg (by rw [i_le, i_0] at c14; omega), if_neg (by rw [hf]; decide), if_neg (by rw [hf]; decide), if_pos hf, if_pos (by rw [i_le] at c89; omega)], rfl⟩
    · refine r_iconst (v := -1) hX d_EF_part_17 (by decide) ?_
      refine r_iret hX hR d_EF_part_18 rfl (by first | rfl | assumption) ?_
      exact ⟨by rw [hix]; dsimp only; rw [ef_part, if_pos (by rw [i_le, i_0] at c14; omega)], rfl⟩
  · have he0 : w.2 100 = some (.inr (0, [.ref 101, .ref 103, .ref 105, .ref 108, .ref 112, .ref 113, .ref 116])) := he
    obtain ⟨t1, t2, t3, t4⟩ := id htr
    refine q_aload hX 0 d_EF_part_0 rfl (by first | rfl | assumption) ?_
    refine r_getf hX d_EF_part_1 fl_EF_31 (by first | assumption | exact ev_set_self _ _ _ | (simp (disch := first | assumption | decide | omega) only [ev_set_self, ev_set_ne, ev_new_self, ev_new_ne]; first | done | assumption)) rfl ?_
    refine q_iload hX 1 d_EF_part_4 rfl (by first | rfl | assumption) ?_
    refine r_callV (as := [_]) hX d_EF_part_5 lk_EF_87 htr.1 rfl rfl (Nat.le_of_ble_eq_true rfl) (by decide) 0 0 (Nat.le_refl _) (Nat.le_refl _) (c_Tr_at (G := G) htr hn hsd k) (fun v w1 hq => ?_)
    obtain ⟨rfl, hw0⟩ := hq
    rw [hw0, hat]
    refine q_astoreN hX 3 d_EF_part_8 rfl (by decide) ?_
    refine q_aloadN hX 3 d_EF_part_9 rfl (by first | rfl | assumption) ?_
    refine r_ifnullN hX 17 d_EF_part_10 (by decide) ?_
    refine r_iconst (v := -1) hX d_EF_part_17 (by decide) ?_
    refine r_iret hX hR d_EF_part_18 rfl (by first | rfl | assumption) ?_
    exact ⟨by rw [hix], rfl⟩
def ef_sum (a : Nat) (pf : Nat → Int32) (s0 : Int32) : Nat → Int32
  | 0 => s0
  | b + 1 => ef_sum a pf s0 b + el_at a pf (nI b)
def ef_smp (E : Nat → Ev_E) (PF : Nat → Nat → Int32) (am : Nat → Nat) (sf : Nat → Int32) (sd j : Nat) (y i : Int32) : Int32 :=
  if (E j).1 = 9 ∧ 0 ≤ y.toInt ∧ 0 ≤ i.toInt ∧ i.toInt < (el_at (am j) (PF j) y).toInt then tr_sa sf sd (ef_sum (am j) (PF j) ((E j).2.2.2 3) y.toNatClampNeg + i) else -1
theorem c_EF_sample {G : Ev_G} {w : Ev_W} {n sd : Nat} {L As : Nat → Option Nat} {sf : Nat → Int32} (he : is_EF w) (htr : is_Tr w n L As sf sd) (hn : n ≤ 60) (hsd : sd ≤ 1200) {m : Nat} {ad : Nat → Nat} {E : Nat → Ev_E} {PF : Nat → Nat → Int32} {mi : Nat → Option Nat} (hes : is_Es w m L ad E PF) (hm : n ≤ m) (hok : el_ok n ad E mi) {am : Nat → Nat} (ham : el_amok n E am) (k : Int32) (y i : Int32) : ev_Met G M_EF_sample 1 0 0 [.ref 100, .int k, .int y, .int i] w (fun v w' => v = some (.int (match ix n k with | none => -1 | some j => ef_smp E PF am sf sd j y i)) ∧ w' = w) := by
  refine ev_Met.of md_EF_sample (Nat.le_of_ble_eq_true rfl) (fun X hX hR => ?_)
  rcases tr_at_cases hn hes hm k with ⟨j, hj, hkj, hix, hat⟩ | ⟨hix, hat⟩
  · obtain ⟨u1, u2, u3, u4⟩ := hes.1 j (by omega)
    obtain ⟨o1, o2, o3, o4⟩ := hok j hj
    have he0 : w.2 100 = some (.inr (0, [.ref 101, .ref 103, .ref 105, .ref 108, .ref 112, .ref 113, .ref 116])) := he
    obtain ⟨t1, t2, t3, t4⟩ := id htr
    refine q_aload hX 0 d_EF_sample_0 rfl (by first | rfl | assumption) ?_
    refine r_getf hX d_EF_sample_1 fl_EF_31 (by first | assumption | exact ev_set_self _ _ _ | (simp (disch := first | assumption | decide | omega) only [ev_set_self, ev_set_ne, ev_new_self, ev_new_ne]; first | done | assumption)) rfl ?_
    refine q_iload hX 1 d_EF_sample_4 rfl (by first | rfl | assumption) ?_
    refine r_callV (as := [_]) hX d_EF_sample_5 lk_EF_87 htr.1 rfl rfl (Nat.le_of_ble_eq_true rfl) (by decide) 0 0 (Nat.le_refl _) (Nat.le_refl _) (c_Tr_at (G := G) htr hn hsd k) (fun v w1 hq => ?_)
    obtain ⟨rfl, hw0⟩ := hq
    rw [hw0, hat]
    refine r_astore hX d_EF_sample_8 (by decide) ?_
    refine r_aload hX d_EF_sample_10 (by first | rfl | assumption) ?_
    refine r_ifnull hX d_EF_sample_12 ?_
    refine r_aload hX d_EF_sample_15 (by first | rfl | assumption) ?_
    refine r_getf hX d_EF_sample_17 fl_EF_128 (by first | assumption | exact ev_set_self _ _ _ | (simp (disch := first | assumption | decide | omega) only [ev_set_self, ev_set_ne, ev_new_self, ev_new_ne]; first | done | assumption)) rfl ?_
    refine r_getsE (i := 9) hX d_EF_sample_20 (by decide) m_385 ?_
    refine r_acmp_ne (o := some (E j).1) (u := some 9) hX 44 (by intro r h; cases h; exact Or.inl o2) (by intro r h; cases h; omega) d_EF_sample_23 (by decide) (fun c23 => ?_) (fun c23 => ?_)
    · refine r_iconst (v := -1) hX d_EF_sample_44 (by decide) ?_
      refine r_iret hX hR d_EF_sample_45 rfl (by first | rfl | assumption) ?_
      exact ⟨by rw [hix]; dsimp only; rw [ef_smp, if_neg (fun z => c23 (by rw [z.1]))], rfl⟩
    · obtain ⟨hma, hma16⟩ := ham j hj (Or.inr (by rw [Option.some.inj c23]; exact so_fm9))
      refine q_iload hX 2 d_EF_sample_26 rfl (by first | rfl | assumption) ?_
      refine r_if_lt hX 44 d_EF_sample_27 (by decide) (fun c27 => ?_) (fun c27 => ?_)
      · refine r_iconst (v := -1) hX d_EF_sample_44 (by decide) ?_
        refine r_iret hX hR d_EF_sample_45 rfl (by first | rfl | assumption) ?_
        exact ⟨by rw [hix]; dsimp only; rw [ef_smp, if_neg (by rw [i_lt, i_0] at c27; omega)], rfl⟩
      · refine q_iload hX 3 d_EF_sample_30 rfl (by first | rfl | assumption) ?_
        refine r_if_lt hX 44 d_EF_sample_31 (by decide) (fun c31 => ?_) (fun c31 => ?_)
        · refine r_iconst (v := -1) hX d_EF_sample_44 (by decide) ?_
          refine r_iret hX hR d_EF_sample_45 rfl (by first | rfl | assumption) ?_
          exact ⟨by rw [hix]; dsimp only; rw [ef_smp, if_neg (by rw [i_lt, i_0] at c31; omega)], rfl⟩
        · refine q_iload hX 3 d_EF_sample_34 rfl (by first | rfl | assumption) ?_
          refine r_aload hX d_EF_sample_35 (by first | rfl | assumption) ?_
          refine q_iload hX 2 d_EF_sample_37 rfl (by first | rfl | assumption) ?_
          refine r_callV (as := [_]) hX d_EF_sample_38 lk_EF_180 u3 rfl rfl (Nat.le_of_ble_eq_true rfl) (by decide) 0 0 (Nat.le_refl _) (Nat.le_refl _) (c_El_partAt (G := G) u3 u4 (n := am j) (by omega) hma _) (fun v w1 hq => ?_)
          obtain ⟨rfl, hw⟩ := hq
          rw [hw]
          refine r_icmp_lt hX 46 d_EF_sample_41 (by decide) (fun c41 => ?_) (fun c41 => ?_)
          · obtain ⟨q, hq, hyq⟩ := nI_of (x := y) c27
            have hloop : ∀ (f b : Nat) (ls : Ev_L), b + f = q → ls.1 0 = some (.ref 100) → ls.1 2 = some (.int y) → ls.1 3 = some (.int i) → ls.1 4 = some (.ref (ad j)) → ls.1 5 = some (.int (ef_sum (am j) (PF j) ((E j).2.2.2 3) b)) → ls.1 6 = some (.int (nI b)) → ev_W G M_EF_sample X 0 0 56 ls [] w := by
              intro f
              induction f with
              | zero =>
                intro b ls e1 l0 l2 l3 l4 l5 l6
                have hb : b = q := by omega
                subst hb
                refine r_iload hX d_EF_sample_56 (by first | rfl | assumption) ?_
                refine q_iload hX 2 d_EF_sample_58 rfl (by first | rfl | assumption) ?_
                refine r_icmp_ge hX 80 d_EF_sample_59 (by decide) (fun _ => ?_) (fun c59 => absurd (by rw [hyq]; exact nI_le (Nat.le_refl _) hq) c59)
                refine q_aload hX 0 d_EF_sample_80 rfl (by first | rfl | assumption) ?_
                refine r_getf hX d_EF_sample_81 fl_EF_31 he rfl ?_
                refine r_iload hX d_EF_sample_84 (by first | rfl | assumption) ?_
                refine q_iload hX 3 d_EF_sample_86 rfl (by first | rfl | assumption) ?_
                refine r_iadd hX d_EF_sample_87 ?_
                refine r_callV (as := [_]) hX d_EF_sample_88 lk_EF_189 t1 rfl rfl (Nat.le_of_ble_eq_true rfl) (by decide) 0 0 (Nat.le_refl _) (Nat.le_refl _) (c_Tr_storedAt (G := G) htr hn hsd _) (fun v w1 hq => ?_)
                obtain ⟨rfl, rfl⟩ := hq
                refine r_iret hX hR d_EF_sample_91 rfl (by first | rfl | assumption) ?_
                exact ⟨by rw [hix]; dsimp only; rw [ef_smp, if_pos ⟨Option.some.inj c23, by rw [i_lt, i_0] at c27; omega, by rw [i_lt, i_0] at c31; omega, by rw [i_lt] at c41; exact c41⟩, hyq, nI_clamp hq], rfl⟩
              | succ f ih =>
                intro b ls e1 l0 l2 l3 l4 l5 l6
                refine r_iload hX d_EF_sample_56 (by first | rfl | assumption) ?_
                refine q_iload hX 2 d_EF_sample_58 rfl (by first | rfl | assumption) ?_
                refine r_icmp_ge hX 80 d_EF_sample_59 (by decide) (fun c59 => absurd c59 (by rw [hyq]; exact nI_ge (by omega) hq)) (fun _ => ?_)
                refine r_iload hX d_EF_sample_62 (by first | rfl | assumption) ?_
                refine r_aload hX d_EF_sample_64 (by first | rfl | assumption) ?_
                refine r_iload hX d_EF_sample_66 (by first | rfl | assumption) ?_
                refine r_callV (as := [_]) hX d_EF_sample_68 lk_EF_180 u3 rfl rfl (Nat.le_of_ble_eq_true rfl) (by decide) 0 0 (Nat.le_refl _) (Nat.le_refl _) (c_El_partAt (G := G) u3 u4 (n := am j) (by omega) hma _) (fun v w2 hq => ?_)
                obtain ⟨rfl, hw⟩ := hq
                rw [hw]
                refine r_iadd hX d_EF_sample_71 ?_
                refine r_istore hX d_EF_sample_72 (by decide) ?_
                refine r_iinc hX d_EF_sample_74 (by first | rfl | assumption) ?_
                refine r_goto hX 56 d_EF_sample_77 (by decide) ?_
                exact ih (b + 1) _ (by omega) l0 l2 l3 l4 rfl (by show some (Value.int (nI b + Int32.ofInt 1)) = _; rw [show Int32.ofInt 1 = 1 from rfl, nI_1])
            refine r_aload hX d_EF_sample_46 (by first | rfl | assumption) ?_
            refine r_getf hX d_EF_sample_48 fl_EF_186 u3 rfl ?_
            refine r_istore hX d_EF_sample_51 (by decide) ?_
            refine r_iconst (v := 0) hX d_EF_sample_53 (by decide) ?_
            refine r_istore hX d_EF_sample_54 (by decide) ?_
            exact hloop q 0 _ (by omega) rfl rfl rfl rfl rfl rfl
          · refine r_iconst (v := -1) hX d_EF_sample_44 (by decide) ?_
            refine r_iret hX hR d_EF_sample_45 rfl (by first | rfl | assumption) ?_
            exact ⟨by rw [hix]; dsimp only; rw [ef_smp, if_neg (by rw [i_lt] at c41; omega)], rfl⟩
  · have he0 : w.2 100 = some (.inr (0, [.ref 101, .ref 103, .ref 105, .ref 108, .ref 112, .ref 113, .ref 116])) := he
    obtain ⟨t1, t2, t3, t4⟩ := id htr
    refine q_aload hX 0 d_EF_sample_0 rfl (by first | rfl | assumption) ?_
    refine r_getf hX d_EF_sample_1 fl_EF_31 (by first | assumption | exact ev_set_self _ _ _ | (simp (disch := first | assumption | decide | omega) only [ev_set_self, ev_set_ne, ev_new_self, ev_new_ne]; first | done | assumption)) rfl ?_
    refine q_iload hX 1 d_EF_sample_4 rfl (by first | rfl | assumption) ?_
    refine r_callV (as := [_]) hX d_EF_sample_5 lk_EF_87 htr.1 rfl rfl (Nat.le_of_ble_eq_true rfl) (by decide) 0 0 (Nat.le_refl _) (Nat.le_refl _) (c_Tr_at (G := G) htr hn hsd k) (fun v w1 hq => ?_)
    obtain ⟨rfl, hw0⟩ := hq
    rw [hw0, hat]
    refine r_astoreN hX d_EF_sample_8 (by decide) ?_
    refine r_aloadN hX d_EF_sample_10 (by first | rfl | assumption) ?_
    refine r_ifnullN hX 44 d_EF_sample_12 (by decide) ?_
    refine r_iconst (v := -1) hX d_EF_sample_44 (by decide) ?_
    refine r_iret hX hR d_EF_sample_45 rfl (by first | rfl | assumption) ?_
    exact ⟨by rw [hix], rfl⟩
