/-! ===== the reference: value, part, sample, detail ===== -/
theorem fm_9 : ∀ s, s < 17 → (so_fm s = 3 ↔ s = 9) := by decide +kernel
theorem sc_mp {I : Nat → Int32} {A : Ev_A} {S : Ev_S} {D : Nat → Ev_D} {sf : Nat → Int32} {sd : Nat} (hm : mdl I A S D sf sd) {j : Nat} (hj : j < 2 ^ 31) : ∀ x, 0 ≤ x → x < 0 + sn S → decide (A.1 119 x = nI j) = mp_c (si S) j x := fun x _ hx => by
  unfold mp_c
  by_cases z : si S x = some j
  · rw [decide_eq_true z, decide_eq_true ((hm.ms (by omega) hj).mpr z)]
  · rw [decide_eq_false z, decide_eq_false (fun y => z ((hm.ms (by omega) hj).mp y))]
def mo_val (S : Ev_S) (j : Nat) : Int64 := if so_fm (sE S j).1 = 0 then (nI (sc_n (mp_c (si S) j) (sn S) 0)).toInt64 else (sE S j).2.2.1
def mo_part (S : Ev_S) (D : Nat → Ev_D) (sf : Nat → Int32) (sd j : Nat) (i : Int32) : Int32 :=
  if i.toInt < 0 then -1 else if so_fm (sE S j).1 = 0 then o_i (sc_c (mp_c (si S) j) (sn S) 0 i.toNatClampNeg) else if so_fm (sE S j).1 = 2 ∨ so_fm (sE S j).1 = 3 then el_at (D j).1 (sP S j) i else if so_fm (sE S j).1 = 6 then (if i.toInt < ((sE S j).2.2.2 4).toInt then tr_sa sf sd ((sE S j).2.2.2 3 + i) else -1) else -1
theorem el_at_nI {a l : Nat} {pf : Nat → Int32} (h : l < a) (ha : a ≤ 16) : el_at a pf (nI l) = pf l := by rw [el_at, nI_toInt (by omega), if_pos ⟨by omega, by omega, by omega⟩, nI_clamp (by omega)]
theorem el_at_no {a l : Nat} {pf : Nat → Int32} (h : ¬ l < a) (hl : l < 2 ^ 31) : el_at a pf (nI l) = -1 := by rw [el_at, nI_toInt hl, if_neg (fun z => h (by omega))]
theorem tr_sa_nI {sf : Nat → Int32} {sd l : Nat} (h : l < sd) (hs : sd ≤ 1200) : tr_sa sf sd (nI l) = sf l := by rw [tr_sa, nI_toInt (by omega), if_pos ⟨by omega, by omega⟩, nI_clamp (by omega)]
theorem ef_sum_nI {a fr : Nat} {pf : Nat → Int32} {sz : Nat → Nat} (h : ∀ i, i < a → pf i = nI (sz i)) (ha : a ≤ 16) : ∀ b, b ≤ a → ef_sum a pf (nI fr) b = nI (fr + sm_N sz b)
  | 0, _ => rfl
  | b + 1, hb => by rw [ef_sum, ef_sum_nI h ha b (by omega), el_at_nI (by omega) ha, h b (by omega), nI_add, sm_N, Nat.add_assoc]
theorem sm_N_le {sz : Nat → Nat} : ∀ {a b : Nat}, a ≤ b → sm_N sz a ≤ sm_N sz b
  | a, 0, h => by rw [show a = 0 by omega]; exact Nat.le_refl _
  | a, b + 1, h => by
    by_cases z : a = b + 1
    · rw [z]; exact Nat.le_refl _
    · have := sm_N_le (sz := sz) (show a ≤ b by omega); rw [sm_N]; omega
theorem c_Mo_value {G : Ev_G} {w : Ev_W} {I : Nat → Int32} {v0 : Int64} {A : Ev_A} (hM : is_M w I v0 A) {S : Ev_S} {D : Nat → Ev_D} {sf : Nat → Int32} {sd : Nat} (hm : mdl I A S D sf sd) (k : Int32) : ev_Met G M_Mo_value 1 0 0 [.ref 117, .int k] w (fun v w' => v = some (.long (match ix (sn S) k with | none => -1 | some j => mo_val S j)) ∧ w' = w) := by
  refine ev_Met.of md_Mo_value (Nat.le_of_ble_eq_true rfl) (fun X hX hR => ?_)
  obtain ⟨hc, hn, hu, hsd, hpo, hpl, hrow, hhp⟩ := id hm
  rcases ix_cases (n := sn S) (by omega) k with ⟨j, hj, rfl, hix⟩ | ⟨hix, hno⟩
  · obtain ⟨hD, hQ, hMa⟩ := hrow j hj
    obtain ⟨d1, d2, d3, d4, d5, d6, d7, d8⟩ := hD
    obtain ⟨q1, q2, q3, q4, q5, q6⟩ := hQ
    have h17 : (sE S j).1 < 17 := (hpl j hj).1
    refine q_aload hX 0 d_Mo_value_0 rfl (by first | rfl | assumption) ?_
    refine q_iload hX 1 d_Mo_value_1 rfl (by first | rfl | assumption) ?_
    refine r_callV (as := [_]) hX d_Mo_value_2 lk_Mo_89 hM.1 rfl rfl (Nat.le_of_ble_eq_true rfl) (by decide) 0 0 (Nat.le_refl _) (Nat.le_refl _) (c_Mo_isElement (G := G) hM hc hn _) (fun v w1 hq => ?_)
    obtain ⟨rfl, hw⟩ := hq
    rw [hw, hix]
    rw [show b_i (some j : Option Nat).isSome = 1 from rfl]
    refine r_if_ne hX 12 d_Mo_value_5 (by decide) (fun _ => ?_) (fun c5 => absurd c5 (by decide))
    refine q_aload hX 0 d_Mo_value_12 rfl (by first | rfl | assumption) ?_
    refine r_getf hX d_Mo_value_13 fl_Mo_7 hM.1 rfl ?_
    refine q_iload hX 1 d_Mo_value_16 rfl (by first | rfl | assumption) ?_
    refine r_ialdm (c := 118) (x := (sE S j).2.2.2 0) hX d_Mo_value_17 hM rfl rfl (by omega) q1 ?_
    refine r_callS (as := [_]) hX d_Mo_value_18 lk_Mo_82 rfl (Nat.le_of_ble_eq_true rfl) (by decide) 0 0 (Nat.le_refl _) (Nat.le_refl _) (c_Mo_kindOf (G := G) _) (fun v w1 hq => ?_)
    obtain ⟨rfl, hw⟩ := hq
    rw [hw, ← d1]
    refine q_istore hX 2 d_Mo_value_21 rfl (by decide) ?_
    refine q_iload hX 2 d_Mo_value_22 rfl (by first | rfl | assumption) ?_
    refine r_iconst (v := 1) hX d_Mo_value_23 (by decide) ?_
    refine r_icmp_ne hX 36 d_Mo_value_24 (by decide) (fun c24 => ?_) (fun c24 => ?_)
    · refine q_iload hX 2 d_Mo_value_36 rfl (by first | rfl | assumption) ?_
      refine r_if_ne hX 49 d_Mo_value_37 (by decide) (fun c37 => ?_) (fun c37 => ?_)
      · refine q_iload hX 2 d_Mo_value_49 rfl (by first | rfl | assumption) ?_
        refine r_iconst (v := 4) hX d_Mo_value_50 (by decide) ?_
        refine r_icmp_ne hX 58 d_Mo_value_51 (by decide) (fun c51 => ?_) (fun c51 => ?_)
        · have hrest : so_fm (sE S j).1 = 2 ∨ so_fm (sE S j).1 = 3 ∨ so_fm (sE S j).1 = 5 ∨ so_fm (sE S j).1 = 6 := by
            rcases so_fm_c _ h17 with h | h | h | h | h | h | h
            · exact absurd h c37
            · exact absurd h c24
            · exact Or.inl h
            · exact Or.inr (Or.inl h)
            · exact absurd h c51
            · exact Or.inr (Or.inr (Or.inl h))
            · exact Or.inr (Or.inr (Or.inr h))
          have hD640 := (d3 hrest).2
          refine q_aload hX 0 d_Mo_value_58 rfl (by first | rfl | assumption) ?_
          refine r_getf hX d_Mo_value_59 fl_Mo_20 hM.1 rfl ?_
          refine q_iload hX 1 d_Mo_value_62 rfl (by first | rfl | assumption) ?_
          refine r_ialdm (c := 121) (x := nI (D j).1) hX d_Mo_value_63 hM rfl rfl (by omega) (q3 hrest) ?_
          refine r_i2l hX d_Mo_value_64 ?_
          refine r_lret hX hR d_Mo_value_65 rfl ?_
          exact ⟨by rw [hix]; dsimp only; rw [mo_val, if_neg c37, (d3 hrest).1, nI_l (by omega)], rfl⟩
        · refine r_lconst (v := 0) hX d_Mo_value_54 (by decide) ?_
          refine r_goto hX 65 d_Mo_value_55 (by decide) ?_
          refine r_lret hX hR d_Mo_value_65 rfl ?_
          exact ⟨by rw [hix]; dsimp only; rw [mo_val, if_neg c37, d8 c51], rfl⟩
      · refine q_aload hX 0 d_Mo_value_40 rfl (by first | rfl | assumption) ?_
        refine q_iload hX 1 d_Mo_value_41 rfl (by first | rfl | assumption) ?_
        refine r_callV (as := [_]) hX d_Mo_value_42 lk_Mo_181 hM.1 rfl rfl (Nat.le_of_ble_eq_true rfl) (by decide) 0 0 (Nat.le_refl _) (Nat.le_refl _) (c_Mo_children (G := G) hM hc hn _) (fun v w1 hq => ?_)
        obtain ⟨rfl, hw⟩ := hq
        rw [hw, sc_n_cg _ _ (sc_mp hm (j := j) (by omega))]
        refine r_i2l hX d_Mo_value_45 ?_
        refine r_goto hX 65 d_Mo_value_46 (by decide) ?_
        refine r_lret hX hR d_Mo_value_65 rfl ?_
        exact ⟨by rw [hix]; dsimp only; rw [mo_val, if_pos c37], rfl⟩
    · refine q_aload hX 0 d_Mo_value_27 rfl (by first | rfl | assumption) ?_
      refine r_getf hX d_Mo_value_28 fl_Mo_16 hM.1 rfl ?_
      refine q_iload hX 1 d_Mo_value_31 rfl (by first | rfl | assumption) ?_
      refine r_laldm (x := (sE S j).2.2.1) hX d_Mo_value_32 hM rfl (by omega) (q2 c24) ?_
      refine r_goto hX 65 d_Mo_value_33 (by decide) ?_
      refine r_lret hX hR d_Mo_value_65 rfl ?_
      exact ⟨by rw [hix]; dsimp only; rw [mo_val, if_neg (by rw [c24]; decide)], rfl⟩
  · refine q_aload hX 0 d_Mo_value_0 rfl (by first | rfl | assumption) ?_
    refine q_iload hX 1 d_Mo_value_1 rfl (by first | rfl | assumption) ?_
    refine r_callV (as := [_]) hX d_Mo_value_2 lk_Mo_89 hM.1 rfl rfl (Nat.le_of_ble_eq_true rfl) (by decide) 0 0 (Nat.le_refl _) (Nat.le_refl _) (c_Mo_isElement (G := G) hM hc hn _) (fun v w1 hq => ?_)
    obtain ⟨rfl, hw⟩ := hq
    rw [hw, hix]
    rw [show b_i (none : Option Nat).isSome = 0 from rfl]
    refine r_if_ne hX 12 d_Mo_value_5 (by decide) (fun c5 => absurd rfl c5) (fun _ => ?_)
    refine r_ldc2 hX d_Mo_value_8 m_783 ?_
    refine r_lret hX hR d_Mo_value_11 rfl ?_
    exact ⟨by rw [hix], rfl⟩
theorem c_Mo_part {G : Ev_G} {w : Ev_W} {I : Nat → Int32} {v0 : Int64} {A : Ev_A} (hM : is_M w I v0 A) {S : Ev_S} {D : Nat → Ev_D} {sf : Nat → Int32} {sd : Nat} (hm : mdl I A S D sf sd) (k i : Int32) : ev_Met G M_Mo_part 1 0 0 [.ref 117, .int k, .int i] w (fun v w' => v = some (.int (match ix (sn S) k with | none => -1 | some j => mo_part S D sf sd j i)) ∧ w' = w) := by
  refine ev_Met.of md_Mo_part (Nat.le_of_ble_eq_true rfl) (fun X hX hR => ?_)
  obtain ⟨hc, hn, hu, hsd, hpo, hpl, hrow, hhp⟩ := id hm
  rcases ix_cases (n := sn S) (by omega) k with ⟨j, hj, rfl, hix⟩ | ⟨hix, hno⟩
  · obtain ⟨hD, hQ, hMa⟩ := hrow j hj
    obtain ⟨d1, d2, d3, d4, d5, d6, d7, d8⟩ := hD
    obtain ⟨q1, q2, q3, q4, q5, q6⟩ := hQ
    have h17 : (sE S j).1 < 17 := (hpl j hj).1
    refine q_aload hX 0 d_Mo_part_0 rfl (by first | rfl | assumption) ?_
    refine q_iload hX 1 d_Mo_part_1 rfl (by first | rfl | assumption) ?_
    refine r_callV (as := [_]) hX d_Mo_part_2 lk_Mo_89 hM.1 rfl rfl (Nat.le_of_ble_eq_true rfl) (by decide) 0 0 (Nat.le_refl _) (Nat.le_refl _) (c_Mo_isElement (G := G) hM hc hn _) (fun v w1 hq => ?_)
    obtain ⟨rfl, hw⟩ := hq
    rw [hw, hix]
    rw [show b_i (some j : Option Nat).isSome = 1 from rfl]
    refine r_if_eq hX 12 d_Mo_part_5 (by decide) (fun c5 => absurd c5 (by decide)) (fun _ => ?_)
    refine q_iload hX 2 d_Mo_part_8 rfl (by first | rfl | assumption) ?_
    refine r_if_ge hX 14 d_Mo_part_9 (by decide) (fun c9 => ?_) (fun c9 => ?_)
    · obtain ⟨l, hl, rfl⟩ := nI_of (x := i) (fun z => by rw [i_lt, i_0] at z; rw [i_le, i_0] at c9; omega)
      have hlt : ¬ (nI l).toInt < 0 := by rw [nI_toInt hl]; omega
      refine q_aload hX 0 d_Mo_part_14 rfl (by first | rfl | assumption) ?_
      refine r_getf hX d_Mo_part_15 fl_Mo_7 hM.1 rfl ?_
      refine q_iload hX 1 d_Mo_part_18 rfl (by first | rfl | assumption) ?_
      refine r_ialdm (c := 118) (x := (sE S j).2.2.2 0) hX d_Mo_part_19 hM rfl rfl (by omega) q1 ?_
      refine r_callS (as := [_]) hX d_Mo_part_20 lk_Mo_82 rfl (Nat.le_of_ble_eq_true rfl) (by decide) 0 0 (Nat.le_refl _) (Nat.le_refl _) (c_Mo_kindOf (G := G) _) (fun v w1 hq => ?_)
      obtain ⟨rfl, hw⟩ := hq
      rw [hw, ← d1]
      rcases so_fm_c _ h17 with hf | hf | hf | hf | hf | hf | hf
      · rw [hf]
        refine r_tableIn hX 64 d_Mo_part_23 (by decide) (by decide) rfl (by decide) ?_
        refine q_aload hX 0 d_Mo_part_64 rfl (by first | rfl | assumption) ?_
        refine q_iload hX 1 d_Mo_part_65 rfl (by first | rfl | assumption) ?_
        refine q_iload hX 2 d_Mo_part_66 rfl (by first | rfl | assumption) ?_
        refine r_callV (as := [_, _]) hX d_Mo_part_67 lk_Mo_217 hM.1 rfl rfl (Nat.le_of_ble_eq_true rfl) (by decide) 0 0 (Nat.le_refl _) (Nat.le_refl _) (c_Mo_child (G := G) hM hc hn _ l hl) (fun v w1 hq => ?_)
        obtain ⟨rfl, hw⟩ := hq
        rw [hw, sc_c_cg _ _ _ (sc_mp hm (j := j) (by omega))]
        refine r_iret hX hR d_Mo_part_70 rfl (by first | rfl | assumption) ?_
        exact ⟨by rw [hix]; dsimp only; rw [mo_part, if_neg hlt, if_pos hf, nI_clamp hl], rfl⟩
      · rw [hf]
        refine r_tableIn hX 154 d_Mo_part_23 (by decide) (by decide) rfl (by decide) ?_
        refine r_iconst (v := -1) hX d_Mo_part_154 (by decide) ?_
        refine r_iret hX hR d_Mo_part_155 rfl (by first | rfl | assumption) ?_
        exact ⟨by rw [hix]; dsimp only; rw [mo_part, if_neg hlt, if_neg (by rw [hf]; decide), if_neg (by rw [hf]; decide), if_neg (by rw [hf]; decide)], rfl⟩
      · rw [hf]
        refine r_tableIn hX 71 d_Mo_part_23 (by decide) (by decide) rfl (by decide) ?_
        refine q_iload hX 2 d_Mo_part_71 rfl (by first | rfl | assumption) ?_
        refine q_aload hX 0 d_Mo_part_72 rfl (by first | rfl | assumption) ?_
        refine r_getf hX d_Mo_part_73 fl_Mo_20 hM.1 rfl ?_
        refine q_iload hX 1 d_Mo_part_76 rfl (by first | rfl | assumption) ?_
        refine r_ialdm (c := 121) (x := nI (D j).1) hX d_Mo_part_77 hM rfl rfl (by omega) (q3 (Or.inl hf)) ?_
        refine r_icmp_ge hX 95 d_Mo_part_78 (by decide) (fun c78 => ?_) (fun c78 => ?_)
        · refine r_iconst (v := -1) hX d_Mo_part_95 (by decide) ?_
          refine r_iret hX hR d_Mo_part_96 rfl (by first | rfl | assumption) ?_
          have h640 := (d3 (Or.inl hf)).2
          have hno : ¬ l < (D j).1 := Nat.not_lt.mpr ((nI_leI (by omega) hl).mp c78)
          exact ⟨by rw [hix]; dsimp only; rw [mo_part, if_neg hlt, if_neg (by rw [hf]; decide), if_pos (Or.inl hf), el_at_no hno hl], rfl⟩
        · have hlD : l < (D j).1 := by
            have h640 := (d3 (Or.inl hf)).2
            exact Nat.lt_of_not_le (fun z => c78 (nI_le z hl))
          refine q_aload hX 0 d_Mo_part_81 rfl (by first | rfl | assumption) ?_
          refine r_getf hX d_Mo_part_82 fl_Mo_23 hM.1 rfl ?_
          refine r_bipush (v := 16) hX d_Mo_part_85 (by decide) ?_
          refine q_iload hX 1 d_Mo_part_87 rfl (by first | rfl | assumption) ?_
          refine r_imul hX d_Mo_part_88 ?_
          refine q_iload hX 2 d_Mo_part_89 rfl (by first | rfl | assumption) ?_
          refine r_iadd hX d_Mo_part_90 ?_
          refine r_ialdm (c := 122) (x := sP S j l) hX d_Mo_part_91 hM rfl (j := 16 * j + l) (by rw [show (16 : Int32) = nI 16 from rfl, nI_ml, nI_add]) (by have := d4 hf; omega) (q4 hf l hlD) ?_
          refine r_goto hX 96 d_Mo_part_92 (by decide) ?_
          refine r_iret hX hR d_Mo_part_96 rfl (by first | rfl | assumption) ?_
          exact ⟨by rw [hix]; dsimp only; rw [mo_part, if_neg hlt, if_neg (by rw [hf]; decide), if_pos (Or.inl hf), el_at_nI hlD (d4 hf)], rfl⟩
      · rw [hf]
        refine r_tableIn hX 97 d_Mo_part_23 (by decide) (by decide) rfl (by decide) ?_
        refine q_iload hX 2 d_Mo_part_97 rfl (by first | rfl | assumption) ?_
        refine q_aload hX 0 d_Mo_part_98 rfl (by first | rfl | assumption) ?_
        refine r_getf hX d_Mo_part_99 fl_Mo_20 hM.1 rfl ?_
        refine q_iload hX 1 d_Mo_part_102 rfl (by first | rfl | assumption) ?_
        refine r_ialdm (c := 121) (x := nI (D j).1) hX d_Mo_part_103 hM rfl rfl (by omega) (q3 (Or.inr (Or.inl hf))) ?_
        refine r_icmp_ge hX 121 d_Mo_part_104 (by decide) (fun c104 => ?_) (fun c104 => ?_)
        · refine r_iconst (v := -1) hX d_Mo_part_121 (by decide) ?_
          refine r_iret hX hR d_Mo_part_122 rfl (by first | rfl | assumption) ?_
          have h640 := (d3 (Or.inr (Or.inl hf))).2
          have hno : ¬ l < (D j).1 := Nat.not_lt.mpr ((nI_leI (by omega) hl).mp c104)
          exact ⟨by rw [hix]; dsimp only; rw [mo_part, if_neg hlt, if_neg (by rw [hf]; decide), if_pos (Or.inr hf), el_at_no hno hl], rfl⟩
        · have hlD : l < (D j).1 := Nat.lt_of_not_le (fun z => c104 (nI_le z hl))
          refine q_aload hX 0 d_Mo_part_107 rfl (by first | rfl | assumption) ?_
          refine r_getf hX d_Mo_part_108 fl_Mo_39 hM.1 rfl ?_
          refine r_bipush (v := 8) hX d_Mo_part_111 (by decide) ?_
          refine q_iload hX 1 d_Mo_part_113 rfl (by first | rfl | assumption) ?_
          refine r_imul hX d_Mo_part_114 ?_
          refine q_iload hX 2 d_Mo_part_115 rfl (by first | rfl | assumption) ?_
          refine r_iadd hX d_Mo_part_116 ?_
          refine r_ialdm (c := 127) (x := nI ((D j).2.2.1 l)) hX d_Mo_part_117 hM rfl (j := 8 * j + l) (by rw [show (8 : Int32) = nI 8 from rfl, nI_ml, nI_add]) (by have := d5 hf; omega) ((q5 hf).2.2.2.2 l hlD).1 ?_
          refine r_goto hX 122 d_Mo_part_118 (by decide) ?_
          refine r_iret hX hR d_Mo_part_122 rfl (by first | rfl | assumption) ?_
          exact ⟨by rw [hix]; dsimp only; rw [mo_part, if_neg hlt, if_neg (by rw [hf]; decide), if_pos (Or.inr hf), el_at_nI hlD (by have := d5 hf; omega), ((d5 hf).2.2.1 l hlD).1], rfl⟩
      · rw [hf]
        refine r_tableIn hX 154 d_Mo_part_23 (by decide) (by decide) rfl (by decide) ?_
        refine r_iconst (v := -1) hX d_Mo_part_154 (by decide) ?_
        refine r_iret hX hR d_Mo_part_155 rfl (by first | rfl | assumption) ?_
        exact ⟨by rw [hix]; dsimp only; rw [mo_part, if_neg hlt, if_neg (by rw [hf]; decide), if_neg (by rw [hf]; decide), if_neg (by rw [hf]; decide)], rfl⟩
      · rw [hf]
        refine r_tableIn hX 154 d_Mo_part_23 (by decide) (by decide) rfl (by decide) ?_
        refine r_iconst (v := -1) hX d_Mo_part_154 (by decide) ?_
        refine r_iret hX hR d_Mo_part_155 rfl (by first | rfl | assumption) ?_
        exact ⟨by rw [hix]; dsimp only; rw [mo_part, if_neg hlt, if_neg (by rw [hf]; decide), if_neg (by rw [hf]; decide), if_neg (by rw [hf]; decide)], rfl⟩
      · rw [hf]
        refine r_tableIn hX 123 d_Mo_part_23 (by decide) (by decide) rfl (by decide) ?_
        refine q_iload hX 2 d_Mo_part_123 rfl (by first | rfl | assumption) ?_
        refine q_aload hX 0 d_Mo_part_124 rfl (by first | rfl | assumption) ?_
        refine r_getf hX d_Mo_part_125 fl_Mo_20 hM.1 rfl ?_
        refine q_iload hX 1 d_Mo_part_128 rfl (by first | rfl | assumption) ?_
        refine r_ialdm (c := 121) (x := nI (D j).1) hX d_Mo_part_129 hM rfl rfl (by omega) (q3 (Or.inr (Or.inr (Or.inr hf)))) ?_
        refine r_icmp_ge hX 152 d_Mo_part_130 (by decide) (fun c130 => ?_) (fun c130 => ?_)
        · refine r_iconst (v := -1) hX d_Mo_part_152 (by decide) ?_
          refine r_iret hX hR d_Mo_part_153 rfl (by first | rfl | assumption) ?_
          have h640 := (d3 (Or.inr (Or.inr (Or.inr hf)))).2
          have hno : ¬ l < (D j).1 := Nat.not_lt.mpr ((nI_leI (by omega) hl).mp c130)
          exact ⟨by rw [hix]; dsimp only; rw [mo_part, if_neg hlt, if_neg (by rw [hf]; decide), if_neg (by rw [hf]; decide), if_pos hf, (d7 (Or.inr hf)).2.1, d6 hf, nI_toInt hl, nI_toInt (by omega), if_neg (by omega)], rfl⟩
        · have hlD : l < (D j).1 := Nat.lt_of_not_le (fun z => c130 (nI_le z hl))
          refine q_aload hX 0 d_Mo_part_133 rfl (by first | rfl | assumption) ?_
          refine r_getf hX d_Mo_part_134 fl_Mo_45 hM.1 rfl ?_
          refine q_aload hX 0 d_Mo_part_137 rfl (by first | rfl | assumption) ?_
          refine r_getf hX d_Mo_part_138 fl_Mo_42 hM.1 rfl ?_
          refine r_bipush (v := 8) hX d_Mo_part_141 (by decide) ?_
          refine q_iload hX 1 d_Mo_part_143 rfl (by first | rfl | assumption) ?_
          refine r_imul hX d_Mo_part_144 ?_
          refine r_ialdm (c := 128) (x := nI (D j).2.2.2) hX d_Mo_part_145 hM rfl (j := 8 * j) (by rw [show (8 : Int32) = nI 8 from rfl, nI_ml]) (by omega) (q6 hf) ?_
          refine q_iload hX 2 d_Mo_part_146 rfl (by first | rfl | assumption) ?_
          refine r_iadd hX d_Mo_part_147 ?_
          refine r_ialdm (c := 129) (x := sf ((D j).2.2.2 + l)) hX d_Mo_part_148 hM rfl (j := (D j).2.2.2 + l) (by rw [nI_add]) (by have := d7 (Or.inr hf); have := d6 hf; omega) (hhp _ (by have := d7 (Or.inr hf); have := d6 hf; omega)) ?_
          refine r_goto hX 153 d_Mo_part_149 (by decide) ?_
          refine r_iret hX hR d_Mo_part_153 rfl (by first | rfl | assumption) ?_
          have h640 := (d3 (Or.inr (Or.inr (Or.inr hf)))).2
          have hfd := d7 (Or.inr hf)
          have h66 := d6 hf
          exact ⟨by rw [hix]; dsimp only; rw [mo_part, if_neg hlt, if_neg (by rw [hf]; decide), if_neg (by rw [hf]; decide), if_pos hf, hfd.2.1, h66, nI_toInt hl, nI_toInt (by omega), if_pos (by omega), hfd.1, nI_add, tr_sa_nI (by omega) hsd], rfl⟩
    · refine r_iconst (v := -1) hX d_Mo_part_12 (by decide) ?_
      refine r_iret hX hR d_Mo_part_13 rfl (by first | rfl | assumption) ?_
      exact ⟨by rw [hix]; dsimp only; rw [mo_part, if_pos (by rw [i_le, i_0] at c9; omega)], rfl⟩
  · refine q_aload hX 0 d_Mo_part_0 rfl (by first | rfl | assumption) ?_
    refine q_iload hX 1 d_Mo_part_1 rfl (by first | rfl | assumption) ?_
    refine r_callV (as := [_]) hX d_Mo_part_2 lk_Mo_89 hM.1 rfl rfl (Nat.le_of_ble_eq_true rfl) (by decide) 0 0 (Nat.le_refl _) (Nat.le_refl _) (c_Mo_isElement (G := G) hM hc hn _) (fun v w1 hq => ?_)
    obtain ⟨rfl, hw⟩ := hq
    rw [hw, hix]
    rw [show b_i (none : Option Nat).isSome = 0 from rfl]
    refine r_if_eq hX 12 d_Mo_part_5 (by decide) (fun _ => ?_) (fun c5 => absurd rfl c5)
    refine r_iconst (v := -1) hX d_Mo_part_12 (by decide) ?_
    refine r_iret hX hR d_Mo_part_13 rfl (by first | rfl | assumption) ?_
    exact ⟨by rw [hix], rfl⟩
theorem c_Mo_sample {G : Ev_G} {w : Ev_W} {I : Nat → Int32} {v0 : Int64} {A : Ev_A} (hM : is_M w I v0 A) {S : Ev_S} {D : Nat → Ev_D} {sf : Nat → Int32} {sd : Nat} (hm : mdl I A S D sf sd) (k y i : Int32) : ev_Met G M_Mo_sample 2 0 0 [.ref 117, .int k, .int y, .int i] w (fun v w' => v = some (.int (match ix (sn S) k with | none => -1 | some j => ef_smp (sE S) (sP S) (fun q => (D q).1) sf sd j y i)) ∧ w' = w) := by
  refine ev_Met.of md_Mo_sample (Nat.le_of_ble_eq_true rfl) (fun X hX hR => ?_)
  obtain ⟨hc, hn, hu, hsd, hpo, hpl, hrow, hhp⟩ := id hm
  rcases ix_cases (n := sn S) (by omega) k with ⟨j, hj, rfl, hix⟩ | ⟨hix, hno⟩
  · obtain ⟨hD, hQ, hMa⟩ := hrow j hj
    obtain ⟨d1, d2, d3, d4, d5, d6, d7, d8⟩ := hD
    obtain ⟨q1, q2, q3, q4, q5, q6⟩ := hQ
    have h17 : (sE S j).1 < 17 := (hpl j hj).1
    by_cases hf : so_fm (sE S j).1 = 3
    · refine q_aload hX 0 d_Mo_sample_0 rfl (by first | rfl | assumption) ?_
      refine q_iload hX 1 d_Mo_sample_1 rfl (by first | rfl | assumption) ?_
      refine r_iconst (v := 3) hX d_Mo_sample_2 (by decide) ?_
      refine r_callV (as := [_, _]) hX d_Mo_sample_3 lk_Mo_199 hM.1 rfl rfl (Nat.le_of_ble_eq_true rfl) (by decide) 0 0 (Nat.le_refl _) (Nat.le_refl _) (c_Mo_isKind (G := G) hM hc hn _ 3) (fun v w1 hq => ?_)
      obtain ⟨rfl, hw⟩ := hq
      rw [hw, mo_ik, hix]
      dsimp only
      rw [decide_eq_true (show so_fm (so_of (A.1 118 j)) = 3 from by rw [q1, ← d1]; exact hf), show b_i true = 1 from rfl]
      refine r_if_eq hX 42 d_Mo_sample_6 (by decide) (fun c6 => absurd c6 (by decide)) (fun _ => ?_)
      refine q_iload hX 2 d_Mo_sample_9 rfl (by first | rfl | assumption) ?_
      refine r_if_lt hX 42 d_Mo_sample_10 (by decide) (fun c10 => ?_) (fun c10 => ?_)
      · refine r_iconst (v := -1) hX d_Mo_sample_42 (by decide) ?_
        refine r_iret hX hR d_Mo_sample_43 rfl (by first | rfl | assumption) ?_
        exact ⟨by rw [hix]; dsimp only; rw [ef_smp, if_neg (fun z => by have := z.2.1; rw [i_lt, i_0] at c10; omega)], rfl⟩
      · obtain ⟨m, hm31, rfl⟩ := nI_of (x := y) (fun z => c10 z)
        have h640 := (d3 (Or.inr (Or.inl hf))).2
        refine q_iload hX 2 d_Mo_sample_13 rfl (by first | rfl | assumption) ?_
        refine q_aload hX 0 d_Mo_sample_14 rfl (by first | rfl | assumption) ?_
        refine r_getf hX d_Mo_sample_15 fl_Mo_20 hM.1 rfl ?_
        refine q_iload hX 1 d_Mo_sample_18 rfl (by first | rfl | assumption) ?_
        refine r_ialdm (c := 121) (x := nI (D j).1) hX d_Mo_sample_19 hM rfl rfl (by omega) (q3 (Or.inr (Or.inl hf))) ?_
        refine r_icmp_ge hX 42 d_Mo_sample_20 (by decide) (fun c20 => ?_) (fun c20 => ?_)
        · refine r_iconst (v := -1) hX d_Mo_sample_42 (by decide) ?_
          refine r_iret hX hR d_Mo_sample_43 rfl (by first | rfl | assumption) ?_
          have hno : ¬ m < (D j).1 := Nat.not_lt.mpr ((nI_leI (by omega) hm31).mp c20)
          exact ⟨by rw [hix]; dsimp only; rw [ef_smp, if_neg (fun z => by have h1 := z.2.2.2; rw [el_at_no hno hm31, show (-1 : Int32).toInt = -1 from rfl] at h1; have := z.2.2.1; omega)], rfl⟩
        · have hmD : m < (D j).1 := Nat.lt_of_not_le (fun z => c20 (nI_le z hm31))
          refine q_iload hX 3 d_Mo_sample_23 rfl (by first | rfl | assumption) ?_
          refine r_if_lt hX 42 d_Mo_sample_24 (by decide) (fun c24 => ?_) (fun c24 => ?_)
          · refine r_iconst (v := -1) hX d_Mo_sample_42 (by decide) ?_
            refine r_iret hX hR d_Mo_sample_43 rfl (by first | rfl | assumption) ?_
            exact ⟨by rw [hix]; dsimp only; rw [ef_smp, if_neg (fun z => by have := z.2.2.1; rw [i_lt, i_0] at c24; omega)], rfl⟩
          · obtain ⟨l, hl31, rfl⟩ := nI_of (x := i) (fun z => c24 z)
            refine q_iload hX 3 d_Mo_sample_27 rfl (by first | rfl | assumption) ?_
            refine q_aload hX 0 d_Mo_sample_28 rfl (by first | rfl | assumption) ?_
            refine r_getf hX d_Mo_sample_29 fl_Mo_39 hM.1 rfl ?_
            refine r_bipush (v := 8) hX d_Mo_sample_32 (by decide) ?_
            refine q_iload hX 1 d_Mo_sample_34 rfl (by first | rfl | assumption) ?_
            refine r_imul hX d_Mo_sample_35 ?_
            refine q_iload hX 2 d_Mo_sample_36 rfl (by first | rfl | assumption) ?_
            refine r_iadd hX d_Mo_sample_37 ?_
            refine r_ialdm (c := 127) (x := nI ((D j).2.2.1 m)) hX d_Mo_sample_38 hM rfl (j := 8 * j + m) (by rw [show (8 : Int32) = nI 8 from rfl, nI_ml, nI_add]) (by have := d5 hf; omega) ((q5 hf).2.2.2.2 m hmD).1 ?_
            refine r_icmp_lt hX 44 d_Mo_sample_39 (by decide) (fun c39 => ?_) (fun c39 => ?_)
            · have hz := ((d5 hf).2.2.1 m hmD).2
              have hls : l < (D j).2.2.1 m := (nI_ltI hl31 (by omega)).mp c39
              have h7 := d7 (Or.inl hf)
              have h5 := (d5 hf).2.2.2.1
              have hle := sm_N_le (sz := (D j).2.2.1) (show m + 1 ≤ (D j).1 by omega)
              rw [sm_N] at hle
              have hin : (D j).2.2.2 + sm_N (D j).2.2.1 m + l < sd := by omega
              refine q_aload hX 0 d_Mo_sample_44 rfl (by first | rfl | assumption) ?_
              refine r_getf hX d_Mo_sample_45 fl_Mo_45 hM.1 rfl ?_
              refine q_aload hX 0 d_Mo_sample_48 rfl (by first | rfl | assumption) ?_
              refine r_getf hX d_Mo_sample_49 fl_Mo_42 hM.1 rfl ?_
              refine r_bipush (v := 8) hX d_Mo_sample_52 (by decide) ?_
              refine q_iload hX 1 d_Mo_sample_54 rfl (by first | rfl | assumption) ?_
              refine r_imul hX d_Mo_sample_55 ?_
              refine q_iload hX 2 d_Mo_sample_56 rfl (by first | rfl | assumption) ?_
              refine r_iadd hX d_Mo_sample_57 ?_
              refine r_ialdm (c := 128) (x := nI ((D j).2.2.2 + sm_N (D j).2.2.1 m)) hX d_Mo_sample_58 hM rfl (j := 8 * j + m) (by rw [show (8 : Int32) = nI 8 from rfl, nI_ml, nI_add]) (by have := d5 hf; omega) ((q5 hf).2.2.2.2 m hmD).2 ?_
              refine q_iload hX 3 d_Mo_sample_59 rfl (by first | rfl | assumption) ?_
              refine r_iadd hX d_Mo_sample_60 ?_
              refine r_ialdm (c := 129) (x := sf ((D j).2.2.2 + sm_N (D j).2.2.1 m + l)) hX d_Mo_sample_61 hM rfl (j := (D j).2.2.2 + sm_N (D j).2.2.1 m + l) (by rw [nI_add]) (by omega) (hhp _ hin) ?_
              refine r_iret hX hR d_Mo_sample_62 rfl (by first | rfl | assumption) ?_
              have hel : el_at (D j).1 (sP S j) (nI m) = nI ((D j).2.2.1 m) := (el_at_nI hmD (by have := d5 hf; omega)).trans ((d5 hf).2.2.1 m hmD).1
              have hcl : (nI m).toNatClampNeg = m := nI_clamp hm31
              have hs9 : (sE S j).1 = 9 := (fm_9 _ h17).mp hf
              exact ⟨by rw [hix]; dsimp only; rw [ef_smp, if_pos ⟨hs9, by rw [nI_toInt hm31]; omega, by rw [nI_toInt hl31]; omega, by rw [hel]; exact i_lt.mp c39⟩, h7.1, hcl, ef_sum_nI (fun i hi => ((d5 hf).2.2.1 i hi).1) (by have := d5 hf; omega) m (by omega), nI_add, tr_sa_nI hin hsd], rfl⟩
            · refine r_iconst (v := -1) hX d_Mo_sample_42 (by decide) ?_
              refine r_iret hX hR d_Mo_sample_43 rfl (by first | rfl | assumption) ?_
              have hel : el_at (D j).1 (sP S j) (nI m) = nI ((D j).2.2.1 m) := (el_at_nI hmD (by have := d5 hf; omega)).trans ((d5 hf).2.2.1 m hmD).1
              exact ⟨by rw [hix]; dsimp only; rw [ef_smp, if_neg (fun z => by exact c39 (i_lt.mpr (by have h1 := z.2.2.2; rw [hel] at h1; exact h1)))], rfl⟩
    · refine q_aload hX 0 d_Mo_sample_0 rfl (by first | rfl | assumption) ?_
      refine q_iload hX 1 d_Mo_sample_1 rfl (by first | rfl | assumption) ?_
      refine r_iconst (v := 3) hX d_Mo_sample_2 (by decide) ?_
      refine r_callV (as := [_, _]) hX d_Mo_sample_3 lk_Mo_199 hM.1 rfl rfl (Nat.le_of_ble_eq_true rfl) (by decide) 0 0 (Nat.le_refl _) (Nat.le_refl _) (c_Mo_isKind (G := G) hM hc hn _ 3) (fun v w1 hq => ?_)
      obtain ⟨rfl, hw⟩ := hq
      rw [hw, mo_ik, hix]
      dsimp only
      rw [decide_eq_false (show ¬ so_fm (so_of (A.1 118 j)) = 3 from by rw [q1, ← d1]; exact hf), show b_i false = 0 from rfl]
      refine r_if_eq hX 42 d_Mo_sample_6 (by decide) (fun _ => ?_) (fun c6 => absurd rfl c6)
      refine r_iconst (v := -1) hX d_Mo_sample_42 (by decide) ?_
      refine r_iret hX hR d_Mo_sample_43 rfl (by first | rfl | assumption) ?_
      exact ⟨by rw [hix]; dsimp only; rw [ef_smp, if_neg (fun z => by exact hf ((fm_9 _ h17).mpr z.1))], rfl⟩
  · refine q_aload hX 0 d_Mo_sample_0 rfl (by first | rfl | assumption) ?_
    refine q_iload hX 1 d_Mo_sample_1 rfl (by first | rfl | assumption) ?_
    refine r_iconst (v := 3) hX d_Mo_sample_2 (by decide) ?_
    refine r_callV (as := [_, _]) hX d_Mo_sample_3 lk_Mo_199 hM.1 rfl rfl (Nat.le_of_ble_eq_true rfl) (by decide) 0 0 (Nat.le_refl _) (Nat.le_refl _) (c_Mo_isKind (G := G) hM hc hn _ 3) (fun v w1 hq => ?_)
    obtain ⟨rfl, hw⟩ := hq
    rw [hw, mo_ik, hix]
    dsimp only
    rw [show b_i false = 0 from rfl]
    refine r_if_eq hX 42 d_Mo_sample_6 (by decide) (fun _ => ?_) (fun c6 => absurd rfl c6)
    refine r_iconst (v := -1) hX d_Mo_sample_42 (by decide) ?_
    refine r_iret hX hR d_Mo_sample_43 rfl (by first | rfl | assumption) ?_
    exact ⟨by rw [hix], rfl⟩
theorem c_Mo_detail {G : Ev_G} {w : Ev_W} {I : Nat → Int32} {v0 : Int64} {A : Ev_A} (hM : is_M w I v0 A) {S : Ev_S} {D : Nat → Ev_D} {sf : Nat → Int32} {sd : Nat} (hm : mdl I A S D sf sd) (k x : Int32) : ev_Met G M_Mo_detail 2 0 0 [.ref 117, .int k, .int x] w (fun v w' => v = some (.int (match ix (sn S) k with | none => -65536 | some j => ef_det (sE S) j x)) ∧ w' = w) := by
  refine ev_Met.of md_Mo_detail (Nat.le_of_ble_eq_true rfl) (fun X hX hR => ?_)
  obtain ⟨hc, hn, hu, hsd, hpo, hpl, hrow, hhp⟩ := id hm
  rcases ix_cases (n := sn S) (by omega) k with ⟨j, hj, rfl, hix⟩ | ⟨hix, hno⟩
  · obtain ⟨hD, hQ, hMa⟩ := hrow j hj
    obtain ⟨d1, d2, d3, d4, d5, d6, d7, d8⟩ := hD
    obtain ⟨q1, q2, q3, q4, q5, q6⟩ := hQ
    have h17 : (sE S j).1 < 17 := (hpl j hj).1
    by_cases hf : so_fm (sE S j).1 = 3
    · have hs9 : (sE S j).1 = 9 := (fm_9 _ h17).mp hf
      refine q_aload hX 0 d_Mo_detail_0 rfl (by first | rfl | assumption) ?_
      refine q_iload hX 1 d_Mo_detail_1 rfl (by first | rfl | assumption) ?_
      refine r_iconst (v := 3) hX d_Mo_detail_2 (by decide) ?_
      refine r_callV (as := [_, _]) hX d_Mo_detail_3 lk_Mo_199 hM.1 rfl rfl (Nat.le_of_ble_eq_true rfl) (by decide) 0 0 (Nat.le_refl _) (Nat.le_refl _) (c_Mo_isKind (G := G) hM hc hn _ 3) (fun v w1 hq => ?_)
      obtain ⟨rfl, hw⟩ := hq
      rw [hw, mo_ik, hix]
      dsimp only
      rw [decide_eq_true (show so_fm (so_of (A.1 118 j)) = 3 from by rw [q1, ← d1]; exact hf), show b_i true = 1 from rfl]
      refine r_if_eq hX 18 d_Mo_detail_6 (by decide) (fun c6 => absurd c6 (by decide)) (fun _ => ?_)
      refine q_iload hX 2 d_Mo_detail_9 rfl (by first | rfl | assumption) ?_
      refine r_if_lt hX 18 d_Mo_detail_10 (by decide) (fun c10 => ?_) (fun c10 => ?_)
      · refine r_ldc hX d_Mo_detail_18 m_799 ?_
        refine r_iret hX hR d_Mo_detail_20 rfl (by first | rfl | assumption) ?_
        exact ⟨by rw [hix]; dsimp only; rw [ef_det, if_pos hs9, if_neg (fun z => by subst z; exact absurd c10 (by decide)), if_neg (fun z => by subst z; exact absurd c10 (by decide)), if_neg (fun z => by subst z; exact absurd c10 (by decide)), if_neg (fun z => by subst z; exact absurd c10 (by decide))], rfl⟩
      · refine q_iload hX 2 d_Mo_detail_13 rfl (by first | rfl | assumption) ?_
        refine r_iconst (v := 3) hX d_Mo_detail_14 (by decide) ?_
        refine r_icmp_le hX 21 d_Mo_detail_15 (by decide) (fun c15 => ?_) (fun c15 => ?_)
        · refine q_iload hX 2 d_Mo_detail_21 rfl (by first | rfl | assumption) ?_
          refine r_if_ne hX 34 d_Mo_detail_22 (by decide) (fun c22 => ?_) (fun c22 => ?_)
          · refine q_iload hX 2 d_Mo_detail_34 rfl (by first | rfl | assumption) ?_
            refine r_iconst (v := 1) hX d_Mo_detail_35 (by decide) ?_
            refine r_icmp_ne hX 48 d_Mo_detail_36 (by decide) (fun c36 => ?_) (fun c36 => ?_)
            · refine q_iload hX 2 d_Mo_detail_48 rfl (by first | rfl | assumption) ?_
              refine r_iconst (v := 2) hX d_Mo_detail_49 (by decide) ?_
              refine r_icmp_ne hX 70 d_Mo_detail_50 (by decide) (fun c50 => ?_) (fun c50 => ?_)
              · refine q_aload hX 0 d_Mo_detail_70 rfl (by first | rfl | assumption) ?_
                refine r_getf hX d_Mo_detail_71 fl_Mo_36 hM.1 rfl ?_
                refine q_iload hX 1 d_Mo_detail_74 rfl (by first | rfl | assumption) ?_
                refine r_ialdm (c := 126) (x := (sE S j).2.2.2 8) hX d_Mo_detail_75 hM rfl rfl (by omega) (q5 hf).2.2.2.1 ?_
                refine r_iret hX hR d_Mo_detail_76 rfl (by first | rfl | assumption) ?_
                exact ⟨by rw [hix]; dsimp only; rw [ef_det, if_pos hs9, if_neg c22, if_neg c36, if_neg c50, if_pos (by rw [i_le, show (3 : Int32).toInt = 3 from rfl] at c15; rw [i_lt, i_0] at c10; have h0 : x.toInt ≠ 0 := fun z => c22 (Int32.toInt_inj.mp z); have h1 : x.toInt ≠ 1 := fun z => c36 (Int32.toInt_inj.mp z); have h2 : x.toInt ≠ 2 := fun z => c50 (Int32.toInt_inj.mp z); exact Int32.toInt_inj.mp (show x.toInt = 3 by omega))], rfl⟩
              · refine q_aload hX 0 d_Mo_detail_53 rfl (by first | rfl | assumption) ?_
                refine r_getf hX d_Mo_detail_54 fl_Mo_32 hM.1 rfl ?_
                refine q_iload hX 1 d_Mo_detail_57 rfl (by first | rfl | assumption) ?_
                refine r_zaldm (c := 125) (x := (sE S j).2.2.2 7) hX d_Mo_detail_58 hM rfl rfl (by omega) (q5 hf).2.2.1 ?_
                refine r_if_eq hX 66 d_Mo_detail_59 (by decide) (fun c59 => ?_) (fun c59 => ?_)
                · refine r_iconst (v := 0) hX d_Mo_detail_66 (by decide) ?_
                  refine r_goto hX 76 d_Mo_detail_67 (by decide) ?_
                  refine r_iret hX hR d_Mo_detail_76 rfl (by first | rfl | assumption) ?_
                  exact ⟨by rw [hix]; dsimp only; rw [ef_det, if_pos hs9, if_neg c22, if_neg c36, if_pos c50, if_pos c59], rfl⟩
                · refine r_iconst (v := 1) hX d_Mo_detail_62 (by decide) ?_
                  refine r_goto hX 76 d_Mo_detail_63 (by decide) ?_
                  refine r_iret hX hR d_Mo_detail_76 rfl (by first | rfl | assumption) ?_
                  exact ⟨by rw [hix]; dsimp only; rw [ef_det, if_pos hs9, if_neg c22, if_neg c36, if_pos c50, if_neg c59], rfl⟩
            · refine q_aload hX 0 d_Mo_detail_39 rfl (by first | rfl | assumption) ?_
              refine r_getf hX d_Mo_detail_40 fl_Mo_29 hM.1 rfl ?_
              refine q_iload hX 1 d_Mo_detail_43 rfl (by first | rfl | assumption) ?_
              refine r_ialdm (c := 124) (x := (sE S j).2.2.2 6) hX d_Mo_detail_44 hM rfl rfl (by omega) (q5 hf).2.1 ?_
              refine r_goto hX 76 d_Mo_detail_45 (by decide) ?_
              refine r_iret hX hR d_Mo_detail_76 rfl (by first | rfl | assumption) ?_
              exact ⟨by rw [hix]; dsimp only; rw [ef_det, if_pos hs9, if_neg c22, if_pos c36], rfl⟩
          · refine q_aload hX 0 d_Mo_detail_25 rfl (by first | rfl | assumption) ?_
            refine r_getf hX d_Mo_detail_26 fl_Mo_26 hM.1 rfl ?_
            refine q_iload hX 1 d_Mo_detail_29 rfl (by first | rfl | assumption) ?_
            refine r_ialdm (c := 123) (x := (sE S j).2.2.2 5) hX d_Mo_detail_30 hM rfl rfl (by omega) (q5 hf).1 ?_
            refine r_goto hX 76 d_Mo_detail_31 (by decide) ?_
            refine r_iret hX hR d_Mo_detail_76 rfl (by first | rfl | assumption) ?_
            exact ⟨by rw [hix]; dsimp only; rw [ef_det, if_pos hs9, if_pos c22], rfl⟩
        · refine r_ldc hX d_Mo_detail_18 m_799 ?_
          refine r_iret hX hR d_Mo_detail_20 rfl (by first | rfl | assumption) ?_
          exact ⟨by rw [hix]; dsimp only; rw [ef_det, if_pos hs9, if_neg (fun z => by subst z; exact absurd (by decide) c15), if_neg (fun z => by subst z; exact absurd (by decide) c15), if_neg (fun z => by subst z; exact absurd (by decide) c15), if_neg (fun z => by subst z; exact absurd (by decide) c15)], rfl⟩
    · refine q_aload hX 0 d_Mo_detail_0 rfl (by first | rfl | assumption) ?_
      refine q_iload hX 1 d_Mo_detail_1 rfl (by first | rfl | assumption) ?_
      refine r_iconst (v := 3) hX d_Mo_detail_2 (by decide) ?_
      refine r_callV (as := [_, _]) hX d_Mo_detail_3 lk_Mo_199 hM.1 rfl rfl (Nat.le_of_ble_eq_true rfl) (by decide) 0 0 (Nat.le_refl _) (Nat.le_refl _) (c_Mo_isKind (G := G) hM hc hn _ 3) (fun v w1 hq => ?_)
      obtain ⟨rfl, hw⟩ := hq
      rw [hw, mo_ik, hix]
      dsimp only
      rw [decide_eq_false (show ¬ so_fm (so_of (A.1 118 j)) = 3 from by rw [q1, ← d1]; exact hf), show b_i false = 0 from rfl]
      refine r_if_eq hX 18 d_Mo_detail_6 (by decide) (fun _ => ?_) (fun c6 => absurd rfl c6)
      refine r_ldc hX d_Mo_detail_18 m_799 ?_
      refine r_iret hX hR d_Mo_detail_20 rfl (by first | rfl | assumption) ?_
      exact ⟨by rw [hix]; dsimp only; rw [ef_det, if_neg (fun z => hf ((fm_9 _ h17).mpr z))], rfl⟩
  · refine q_aload hX 0 d_Mo_detail_0 rfl (by first | rfl | assumption) ?_
    refine q_iload hX 1 d_Mo_detail_1 rfl (by first | rfl | assumption) ?_
    refine r_iconst (v := 3) hX d_Mo_detail_2 (by decide) ?_
    refine r_callV (as := [_, _]) hX d_Mo_detail_3 lk_Mo_199 hM.1 rfl rfl (Nat.le_of_ble_eq_true rfl) (by decide) 0 0 (Nat.le_refl _) (Nat.le_refl _) (c_Mo_isKind (G := G) hM hc hn _ 3) (fun v w1 hq => ?_)
    obtain ⟨rfl, hw⟩ := hq
    rw [hw, mo_ik, hix]
    dsimp only
    rw [show b_i false = 0 from rfl]
    refine r_if_eq hX 18 d_Mo_detail_6 (by decide) (fun _ => ?_) (fun c6 => absurd rfl c6)
    refine r_ldc hX d_Mo_detail_18 m_799 ?_
    refine r_iret hX hR d_Mo_detail_20 rfl (by first | rfl | assumption) ?_
    exact ⟨by rw [hix], rfl⟩
