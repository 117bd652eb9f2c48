/-! ===== the reference: make ===== -/
theorem fm_16 : ∀ s, s < 17 → (so_fm s = 6 ↔ s = 16) := by decide +kernel
theorem fm_14 : ∀ s, s < 17 → (so_fm s = 4 ↔ s = 14) := by decide +kernel
theorem fm_15 : ∀ s, s < 17 → (so_fm s = 5 ↔ s = 15) := by decide +kernel
def mk_bad (S : Ev_S) (s : Nat) (mo : Option Nat) : Prop := s = 9 ∨ s = 16 ∨ mk_may (sE S) (sn S) s mo = false
def mk_rng (s : Nat) (x : Int64) : Prop := s = 15 ∧ (x.toInt < 0 ∨ 64 < x.toInt)
def mm_post (w : Ev_W) (I : Nat → Int32) (v0 : Int64) (A : Ev_A) (S : Ev_S) (mo : Option Nat) (id : Int32) (x : Int64) (v : Option Value) (w' : Ev_W) : Prop :=
  (mk_bad S (so_of id) mo ∧ v = some (.int (-4)) ∧ w' = w) ∨ (¬ mk_bad S (so_of id) mo ∧ mk_rng (so_of id) x ∧ v = some (.int (-7)) ∧ w' = w) ∨ (¬ mk_bad S (so_of id) mo ∧ ¬ mk_rng (so_of id) x ∧ sn S = 60 ∧ v = some (.int (-6)) ∧ w' = w) ∨
  (¬ mk_bad S (so_of id) mo ∧ ¬ mk_rng (so_of id) x ∧ sn S < 60 ∧ v = some (.int (nI (mk_p (sE S) (sn S) mo))) ∧ ∃ A1, is_M w' (upd I 0 (nI (sn S + 1))) v0 (aset A1 121 (mk_p (sE S) (sn S) mo) (if so_of id = 15 then x.toInt32 else 0)) ∧ mo_sm w w' ∧ in_ok A A1 (sn S) (mk_p (sE S) (sn S) mo) mo (si S) id x)
set_option maxHeartbeats 1000000 in
theorem c_Mo_make {G : Ev_G} {w : Ev_W} {I : Nat → Int32} {v0 : Int64} {A : Ev_A} (hM : is_M w I v0 A) {S : Ev_S} {D : Nat → Ev_D} {sf : Nat → Int32} {sd : Nat} (hm : mdl I A S D sf sd) {mo : Option Nat} (hmo : ∀ j, mo = some j → j < sn S) (id : Int32) (x : Int64) : ev_Met G M_Mo_make 3 0 0 [.ref 117, .int (o_i mo), .int id, .long x] w (mm_post w I v0 A S mo id x) := by
  refine ev_Met.of md_Mo_make (Nat.le_of_ble_eq_true rfl) (fun X hX hR => ?_)
  obtain ⟨hc, hn, hu, hsd, hpo, hpl, hrow, hhp⟩ := (show mdl I A S D sf sd from hm)
  have hmas : ∀ x, x < sn S → A.1 119 x = o_i (si S x) := fun x hx => (hrow x hx).2.2
  have h17 := so_of_lt id
  have hs : mo_sm w w := mo_sm.rf
  cases mo with
  | none =>
    have hst : mo_st (so_of id) 0 = so_fits (so_of id) 1 := by rw [mo_st, if_pos rfl]
    refine q_iload hX 1 d_Mo_make_0 rfl (by first | rfl | assumption) ?_
    refine r_iconst (v := -1) hX d_Mo_make_1 (by decide) ?_
    refine r_icmp_eq hX 15 d_Mo_make_2 (by decide) (fun _ => ?_) (fun c2 => absurd rfl c2)
    refine q_iload hX 2 d_Mo_make_15 rfl (by first | rfl | assumption) ?_
    refine r_callS (as := [_]) hX d_Mo_make_16 lk_Mo_82 rfl (Nat.le_of_ble_eq_true rfl) (by decide) 0 0 (Nat.le_refl _) (Nat.le_refl _) (c_Mo_kindOf (G := G) _) (fun v w1 hq => ?_)
    obtain ⟨rfl, hw⟩ := hq
    rw [hw]
    refine r_istore hX d_Mo_make_19 (by decide) ?_
    refine q_iload hX 1 d_Mo_make_21 rfl (by first | rfl | assumption) ?_
    refine r_if_ge hX 29 d_Mo_make_22 (by decide) (fun c22 => absurd c22 (by decide)) (fun _ => ?_)
    refine r_iconst (v := 0) hX d_Mo_make_25 (by decide) ?_
    refine r_goto hX 35 d_Mo_make_26 (by decide) ?_
    refine r_istore hX d_Mo_make_35 (by decide) ?_
    refine r_iload hX d_Mo_make_37 (by first | rfl | assumption) ?_
    refine r_iconst (v := 3) hX d_Mo_make_39 (by decide) ?_
    refine r_icmp_eq hX 73 d_Mo_make_40 (by decide) (fun c40 => ?_) (fun c40 => ?_)
    · refine r_bipush (v := -4) hX d_Mo_make_73 (by decide) ?_
      refine r_iret hX hR d_Mo_make_75 rfl (by first | rfl | assumption) ?_
      exact Or.inl ⟨Or.inl ((fm_9 _ h17).mp c40), rfl, rfl⟩
    · refine r_iload hX d_Mo_make_43 (by first | rfl | assumption) ?_
      refine r_bipush (v := 6) hX d_Mo_make_45 (by decide) ?_
      refine r_icmp_eq hX 73 d_Mo_make_47 (by decide) (fun c47 => ?_) (fun c47 => ?_)
      · refine r_bipush (v := -4) hX d_Mo_make_73 (by decide) ?_
        refine r_iret hX hR d_Mo_make_75 rfl (by first | rfl | assumption) ?_
        exact Or.inl ⟨Or.inr (Or.inl ((fm_16 _ h17).mp c47)), rfl, rfl⟩
      · refine q_iload hX 2 d_Mo_make_50 rfl (by first | rfl | assumption) ?_
        refine r_iload hX d_Mo_make_51 (by first | rfl | assumption) ?_
        refine r_callS (as := [_, _]) hX d_Mo_make_53 lk_Mo_178 rfl (Nat.le_of_ble_eq_true rfl) (by decide) 0 0 (Nat.le_refl _) (Nat.le_refl _) (c_Mo_stands (G := G) _ _) (fun v w1 hq => ?_)
        obtain ⟨rfl, hw⟩ := hq
        rw [hw, hst]
        refine r_if_eq hX 73 d_Mo_make_56 (by decide) (fun c56 => ?_) (fun c56 => ?_)
        · refine r_bipush (v := -4) hX d_Mo_make_73 (by decide) ?_
          refine r_iret hX hR d_Mo_make_75 rfl (by first | rfl | assumption) ?_
          have hz : so_fits (so_of id) 1 = false := by
            cases hz : so_fits (so_of id) 1 with
            | false => rfl
            | true => rw [hz] at c56; exact absurd c56 (by decide)
          exact Or.inl ⟨Or.inr (Or.inr hz), rfl, rfl⟩
        · refine r_iload hX d_Mo_make_59 (by first | rfl | assumption) ?_
          refine r_iconst (v := 4) hX d_Mo_make_61 (by decide) ?_
          refine r_icmp_ne hX 76 d_Mo_make_62 (by decide) (fun c62 => ?_) (fun c62 => ?_)
          · have hz : so_fits (so_of id) 1 = true := by
              cases hz : so_fits (so_of id) 1 with
              | true => rfl
              | false => rw [hz] at c56; exact absurd rfl c56
            have hnb : ¬ mk_bad S (so_of id) none := fun z => by
              rcases z with z | z | z
              · exact c40 ((fm_9 _ h17).mpr z)
              · exact c47 ((fm_16 _ h17).mpr z)
              · have z : so_fits (so_of id) 1 = false := z
                rw [hz] at z; cases z
            have hpin : (mk_p (sE S) (sn S) none) ≤ sn S := mk_pn hmo
            refine r_iload hX d_Mo_make_76 (by first | rfl | assumption) ?_
            refine r_iconst (v := 5) hX d_Mo_make_78 (by decide) ?_
            refine r_icmp_ne hX 99 d_Mo_make_79 (by decide) (fun c79 => ?_) (fun c79 => ?_)
            · refine q_aload hX 0 d_Mo_make_99 rfl (by first | rfl | assumption) ?_
              refine r_getm (J := 0) (x := nI (sn S)) hX d_Mo_make_100 fl_Mo_86 hM hc rfl ?_
              refine r_bipush (v := 60) hX d_Mo_make_103 (by decide) ?_
              refine r_icmp_ne hX 111 d_Mo_make_105 (by decide) (fun c105 => ?_) (fun c105 => ?_)
              · have hlt : sn S < 60 := by
                  have : sn S ≠ 60 := fun z => c105 (by rw [z]; rfl)
                  omega
                refine q_aload hX 0 d_Mo_make_111 rfl (by first | rfl | assumption) ?_
                refine q_iload hX 1 d_Mo_make_112 rfl (by first | rfl | assumption) ?_
                refine q_iload hX 2 d_Mo_make_113 rfl (by first | rfl | assumption) ?_
                refine q_lload hX 3 d_Mo_make_114 rfl (by first | rfl | assumption) ?_
                refine r_callV (as := [_, _, _]) hX d_Mo_make_115 lk_Mo_195 hM.1 rfl rfl (Nat.le_of_ble_eq_true rfl) (by decide) 0 0 (Nat.le_refl _) (Nat.le_refl _) (c_Mo_insert (G := G) hM hc hlt hmas hpo (mo := none) hmo id x) (fun v w hq => ?_)
                obtain ⟨rfl, A1, hM, hs2, hin⟩ := hq
                have hs := hs.tr hs2
                refine r_istore hX d_Mo_make_118 (by decide) ?_
                refine q_aload hX 0 d_Mo_make_120 rfl (by first | rfl | assumption) ?_
                refine r_getf hX d_Mo_make_121 fl_Mo_20 hM.1 rfl ?_
                refine r_iload hX d_Mo_make_124 (by first | rfl | assumption) ?_
                refine r_iload hX d_Mo_make_126 (by first | rfl | assumption) ?_
                refine r_iconst (v := 5) hX d_Mo_make_128 (by decide) ?_
                refine r_icmp_ne hX 137 d_Mo_make_129 (by decide) (fun c129 => ?_) (fun c129 => ?_)
                · refine r_iconst (v := 0) hX d_Mo_make_137 (by decide) ?_
                  refine r_iastm (c := 121) hX d_Mo_make_138 hM hs rfl (j := (mk_p (sE S) (sn S) none)) rfl (by omega) (fun w hM hs => ?_)
                  refine r_iload hX d_Mo_make_139 (by first | rfl | assumption) ?_
                  refine r_iret hX hR d_Mo_make_141 rfl (by first | rfl | assumption) ?_
                  exact Or.inr (Or.inr (Or.inr ⟨hnb, (fun z => c79 ((fm_15 _ h17).mpr z.1)), hlt, rfl, A1, by rw [if_neg (fun z => c129 ((fm_15 _ h17).mpr z))]; exact hM, hs, hin⟩))
                · refine q_lload hX 3 d_Mo_make_132 rfl (by first | rfl | assumption) ?_
                  refine r_l2i hX d_Mo_make_133 ?_
                  refine r_goto hX 138 d_Mo_make_134 (by decide) ?_
                  refine r_iastm (c := 121) hX d_Mo_make_138 hM hs rfl (j := (mk_p (sE S) (sn S) none)) rfl (by omega) (fun w hM hs => ?_)
                  refine r_iload hX d_Mo_make_139 (by first | rfl | assumption) ?_
                  refine r_iret hX hR d_Mo_make_141 rfl (by first | rfl | assumption) ?_
                  exact Or.inr (Or.inr (Or.inr ⟨hnb, (fun z => c79 ((fm_15 _ h17).mpr z.1)), hlt, rfl, A1, by rw [if_pos ((fm_15 _ h17).mp c129)]; exact hM, hs, hin⟩))
              · refine r_bipush (v := -6) hX d_Mo_make_108 (by decide) ?_
                refine r_iret hX hR d_Mo_make_110 rfl (by first | rfl | assumption) ?_
                exact Or.inr (Or.inr (Or.inl ⟨hnb, (fun z => c79 ((fm_15 _ h17).mpr z.1)), (nI_eq (b := 60) (by omega) (by decide)).mp c105, rfl, rfl⟩))
            · refine q_lload hX 3 d_Mo_make_82 rfl (by first | rfl | assumption) ?_
              refine r_lconst (v := 0) hX d_Mo_make_83 (by decide) ?_
              refine r_lcmp hX d_Mo_make_84 ?_
              refine r_if_lt hX 96 d_Mo_make_85 (by decide) (fun c85 => ?_) (fun c85 => ?_)
              · refine r_bipush (v := -7) hX d_Mo_make_96 (by decide) ?_
                refine r_iret hX hR d_Mo_make_98 rfl (by first | rfl | assumption) ?_
                exact Or.inr (Or.inl ⟨hnb, ⟨(fm_15 _ h17).mp c79, Or.inl (l_lt0.mp c85)⟩, rfl, rfl⟩)
              · refine q_lload hX 3 d_Mo_make_88 rfl (by first | rfl | assumption) ?_
                refine r_ldc2 hX d_Mo_make_89 m_737 ?_
                refine r_lcmp hX d_Mo_make_92 ?_
                refine r_if_le hX 99 d_Mo_make_93 (by decide) (fun c93 => ?_) (fun c93 => ?_)
                · refine q_aload hX 0 d_Mo_make_99 rfl (by first | rfl | assumption) ?_
                  refine r_getm (J := 0) (x := nI (sn S)) hX d_Mo_make_100 fl_Mo_86 hM hc rfl ?_
                  refine r_bipush (v := 60) hX d_Mo_make_103 (by decide) ?_
                  refine r_icmp_ne hX 111 d_Mo_make_105 (by decide) (fun c105 => ?_) (fun c105 => ?_)
                  · have hlt : sn S < 60 := by
                      have : sn S ≠ 60 := fun z => c105 (by rw [z]; rfl)
                      omega
                    refine q_aload hX 0 d_Mo_make_111 rfl (by first | rfl | assumption) ?_
                    refine q_iload hX 1 d_Mo_make_112 rfl (by first | rfl | assumption) ?_
                    refine q_iload hX 2 d_Mo_make_113 rfl (by first | rfl | assumption) ?_
                    refine q_lload hX 3 d_Mo_make_114 rfl (by first | rfl | assumption) ?_
                    refine r_callV (as := [_, _, _]) hX d_Mo_make_115 lk_Mo_195 hM.1 rfl rfl (Nat.le_of_ble_eq_true rfl) (by decide) 0 0 (Nat.le_refl _) (Nat.le_refl _) (c_Mo_insert (G := G) hM hc hlt hmas hpo (mo := none) hmo id x) (fun v w hq => ?_)
                    obtain ⟨rfl, A1, hM, hs2, hin⟩ := hq
                    have hs := hs.tr hs2
                    refine r_istore hX d_Mo_make_118 (by decide) ?_
                    refine q_aload hX 0 d_Mo_make_120 rfl (by first | rfl | assumption) ?_
                    refine r_getf hX d_Mo_make_121 fl_Mo_20 hM.1 rfl ?_
                    refine r_iload hX d_Mo_make_124 (by first | rfl | assumption) ?_
                    refine r_iload hX d_Mo_make_126 (by first | rfl | assumption) ?_
                    refine r_iconst (v := 5) hX d_Mo_make_128 (by decide) ?_
                    refine r_icmp_ne hX 137 d_Mo_make_129 (by decide) (fun c129 => ?_) (fun c129 => ?_)
                    · refine r_iconst (v := 0) hX d_Mo_make_137 (by decide) ?_
                      refine r_iastm (c := 121) hX d_Mo_make_138 hM hs rfl (j := (mk_p (sE S) (sn S) none)) rfl (by omega) (fun w hM hs => ?_)
                      refine r_iload hX d_Mo_make_139 (by first | rfl | assumption) ?_
                      refine r_iret hX hR d_Mo_make_141 rfl (by first | rfl | assumption) ?_
                      exact Or.inr (Or.inr (Or.inr ⟨hnb, (fun z => by have h1 := Int.not_lt.mp (fun y => c85 (l_lt0.mpr y)); have h2 := l_le0.mp c93; rw [show (0 : Int64).toInt = 0 from rfl] at h1; rw [show (64 : Int64).toInt = 64 from rfl] at h2; rcases z.2 with y | y <;> omega), hlt, rfl, A1, by rw [if_neg (fun z => c129 ((fm_15 _ h17).mpr z))]; exact hM, hs, hin⟩))
                    · refine q_lload hX 3 d_Mo_make_132 rfl (by first | rfl | assumption) ?_
                      refine r_l2i hX d_Mo_make_133 ?_
                      refine r_goto hX 138 d_Mo_make_134 (by decide) ?_
                      refine r_iastm (c := 121) hX d_Mo_make_138 hM hs rfl (j := (mk_p (sE S) (sn S) none)) rfl (by omega) (fun w hM hs => ?_)
                      refine r_iload hX d_Mo_make_139 (by first | rfl | assumption) ?_
                      refine r_iret hX hR d_Mo_make_141 rfl (by first | rfl | assumption) ?_
                      exact Or.inr (Or.inr (Or.inr ⟨hnb, (fun z => by have h1 := Int.not_lt.mp (fun y => c85 (l_lt0.mpr y)); have h2 := l_le0.mp c93; rw [show (0 : Int64).toInt = 0 from rfl] at h1; rw [show (64 : Int64).toInt = 64 from rfl] at h2; rcases z.2 with y | y <;> omega), hlt, rfl, A1, by rw [if_pos ((fm_15 _ h17).mp c129)]; exact hM, hs, hin⟩))
                  · refine r_bipush (v := -6) hX d_Mo_make_108 (by decide) ?_
                    refine r_iret hX hR d_Mo_make_110 rfl (by first | rfl | assumption) ?_
                    exact Or.inr (Or.inr (Or.inl ⟨hnb, (fun z => by have h1 := Int.not_lt.mp (fun y => c85 (l_lt0.mpr y)); have h2 := l_le0.mp c93; rw [show (0 : Int64).toInt = 0 from rfl] at h1; rw [show (64 : Int64).toInt = 64 from rfl] at h2; rcases z.2 with y | y <;> omega), (nI_eq (b := 60) (by omega) (by decide)).mp c105, rfl, rfl⟩))
                · refine r_bipush (v := -7) hX d_Mo_make_96 (by decide) ?_
                  refine r_iret hX hR d_Mo_make_98 rfl (by first | rfl | assumption) ?_
                  exact Or.inr (Or.inl ⟨hnb, ⟨(fm_15 _ h17).mp c79, Or.inr (by have h2 := Int.not_le.mp (fun y => c93 (l_le0.mpr y)); rw [show (64 : Int64).toInt = 64 from rfl] at h2; omega)⟩, rfl, rfl⟩)
          · rw [(fm_14 _ h17).mp c62] at c56
            exact absurd rfl c56
  | some j =>
    have hj := hmo j rfl
    have hst : mo_st (so_of id) ((sE S j).2.2.2 0) = so_fits (so_of id) (so_in (sE S j).1) := by
      have h1 := (hrow j hj).1.2.1
      rw [mo_st, if_neg (fun z => by rw [z] at h1; exact absurd h1 (by decide)), ← (hrow j hj).1.1]
    show ev_W G M_Mo_make X 0 0 0 (ev_in [.ref 117, .int (nI j), .int id, .long x]) [] w
    refine q_iload hX 1 d_Mo_make_0 rfl (by first | rfl | assumption) ?_
    refine r_iconst (v := -1) hX d_Mo_make_1 (by decide) ?_
    refine r_icmp_eq hX 15 d_Mo_make_2 (by decide) (fun c2 => absurd c2 (fun z => nI_nm1 (j := j) (by omega) z.symm)) (fun _ => ?_)
    refine q_aload hX 0 d_Mo_make_5 rfl (by first | rfl | assumption) ?_
    refine q_iload hX 1 d_Mo_make_6 rfl (by first | rfl | assumption) ?_
    refine r_callV (as := [_]) hX d_Mo_make_7 lk_Mo_89 hM.1 rfl rfl (Nat.le_of_ble_eq_true rfl) (by decide) 0 0 (Nat.le_refl _) (Nat.le_refl _) (c_Mo_isElement (G := G) hM hc hn _) (fun v w1 hq => ?_)
    obtain ⟨rfl, hw⟩ := hq
    rw [hw, ix_nI hj (by omega)]
    rw [show b_i (some j).isSome = 1 from rfl]
    refine r_if_ne hX 15 d_Mo_make_10 (by decide) (fun _ => ?_) (fun c10 => absurd c10 (by decide))
    refine q_iload hX 2 d_Mo_make_15 rfl (by first | rfl | assumption) ?_
    refine r_callS (as := [_]) hX d_Mo_make_16 lk_Mo_82 rfl (Nat.le_of_ble_eq_true rfl) (by decide) 0 0 (Nat.le_refl _) (Nat.le_refl _) (c_Mo_kindOf (G := G) _) (fun v w1 hq => ?_)
    obtain ⟨rfl, hw⟩ := hq
    rw [hw]
    refine r_istore hX d_Mo_make_19 (by decide) ?_
    refine q_iload hX 1 d_Mo_make_21 rfl (by first | rfl | assumption) ?_
    refine r_if_ge hX 29 d_Mo_make_22 (by decide) (fun _ => ?_) (fun c22 => absurd (nI_le (a := 0) (Nat.zero_le j) (by omega)) c22)
    refine q_aload hX 0 d_Mo_make_29 rfl (by first | rfl | assumption) ?_
    refine r_getf hX d_Mo_make_30 fl_Mo_7 hM.1 rfl ?_
    refine q_iload hX 1 d_Mo_make_33 rfl (by first | rfl | assumption) ?_
    refine r_ialdm (c := 118) (x := (sE S j).2.2.2 0) hX d_Mo_make_34 hM rfl rfl (by omega) (hrow j hj).2.1.1 ?_
    refine r_istore hX d_Mo_make_35 (by decide) ?_
    refine r_iload hX d_Mo_make_37 (by first | rfl | assumption) ?_
    refine r_iconst (v := 3) hX d_Mo_make_39 (by decide) ?_
    refine r_icmp_eq hX 73 d_Mo_make_40 (by decide) (fun c40 => ?_) (fun c40 => ?_)
    · refine r_bipush (v := -4) hX d_Mo_make_73 (by decide) ?_
      refine r_iret hX hR d_Mo_make_75 rfl (by first | rfl | assumption) ?_
      exact Or.inl ⟨Or.inl ((fm_9 _ h17).mp c40), rfl, rfl⟩
    · refine r_iload hX d_Mo_make_43 (by first | rfl | assumption) ?_
      refine r_bipush (v := 6) hX d_Mo_make_45 (by decide) ?_
      refine r_icmp_eq hX 73 d_Mo_make_47 (by decide) (fun c47 => ?_) (fun c47 => ?_)
      · refine r_bipush (v := -4) hX d_Mo_make_73 (by decide) ?_
        refine r_iret hX hR d_Mo_make_75 rfl (by first | rfl | assumption) ?_
        exact Or.inl ⟨Or.inr (Or.inl ((fm_16 _ h17).mp c47)), rfl, rfl⟩
      · refine q_iload hX 2 d_Mo_make_50 rfl (by first | rfl | assumption) ?_
        refine r_iload hX d_Mo_make_51 (by first | rfl | assumption) ?_
        refine r_callS (as := [_, _]) hX d_Mo_make_53 lk_Mo_178 rfl (Nat.le_of_ble_eq_true rfl) (by decide) 0 0 (Nat.le_refl _) (Nat.le_refl _) (c_Mo_stands (G := G) _ _) (fun v w1 hq => ?_)
        obtain ⟨rfl, hw⟩ := hq
        rw [hw, hst]
        refine r_if_eq hX 73 d_Mo_make_56 (by decide) (fun c56 => ?_) (fun c56 => ?_)
        · refine r_bipush (v := -4) hX d_Mo_make_73 (by decide) ?_
          refine r_iret hX hR d_Mo_make_75 rfl (by first | rfl | assumption) ?_
          have hz : so_fits (so_of id) (so_in (sE S j).1) = false := by
            cases hz : so_fits (so_of id) (so_in (sE S j).1) with
            | false => rfl
            | true => rw [hz] at c56; exact absurd c56 (by decide)
          exact Or.inl ⟨Or.inr (Or.inr (by show tr_may _ _ _ _ = false; rw [tr_may, show ((ev_fl[3]).2.2.2).getD (sE S j).1 0 = so_in (sE S j).1 from rfl, hz]; rfl)), rfl, rfl⟩
        · refine r_iload hX d_Mo_make_59 (by first | rfl | assumption) ?_
          refine r_iconst (v := 4) hX d_Mo_make_61 (by decide) ?_
          refine r_icmp_ne hX 76 d_Mo_make_62 (by decide) (fun c62 => ?_) (fun c62 => ?_)
          · have hz : so_fits (so_of id) (so_in (sE S j).1) = true := by
              cases hz : so_fits (so_of id) (so_in (sE S j).1) with
              | true => rfl
              | false => rw [hz] at c56; exact absurd rfl c56
            have hnb : ¬ mk_bad S (so_of id) (some j) := fun z => by
              rcases z with z | z | z
              · exact c40 ((fm_9 _ h17).mpr z)
              · exact c47 ((fm_16 _ h17).mpr z)
              · have z : tr_may (sE S) (sn S) (so_of id) j = false := z
                rw [tr_may, show ((ev_fl[3]).2.2.2).getD (sE S j).1 0 = so_in (sE S j).1 from rfl, hz, Bool.true_and] at z
                rw [decide_eq_false (fun y => c62 ((fm_14 _ h17).mpr y))] at z; cases z
            have hpin : (mk_p (sE S) (sn S) (some j)) ≤ sn S := mk_pn hmo
            refine r_iload hX d_Mo_make_76 (by first | rfl | assumption) ?_
            refine r_iconst (v := 5) hX d_Mo_make_78 (by decide) ?_
            refine r_icmp_ne hX 99 d_Mo_make_79 (by decide) (fun c79 => ?_) (fun c79 => ?_)
            · refine q_aload hX 0 d_Mo_make_99 rfl (by first | rfl | assumption) ?_
              refine r_getm (J := 0) (x := nI (sn S)) hX d_Mo_make_100 fl_Mo_86 hM hc rfl ?_
              refine r_bipush (v := 60) hX d_Mo_make_103 (by decide) ?_
              refine r_icmp_ne hX 111 d_Mo_make_105 (by decide) (fun c105 => ?_) (fun c105 => ?_)
              · have hlt : sn S < 60 := by
                  have : sn S ≠ 60 := fun z => c105 (by rw [z]; rfl)
                  omega
                refine q_aload hX 0 d_Mo_make_111 rfl (by first | rfl | assumption) ?_
                refine q_iload hX 1 d_Mo_make_112 rfl (by first | rfl | assumption) ?_
                refine q_iload hX 2 d_Mo_make_113 rfl (by first | rfl | assumption) ?_
                refine q_lload hX 3 d_Mo_make_114 rfl (by first | rfl | assumption) ?_
                refine r_callV (as := [_, _, _]) hX d_Mo_make_115 lk_Mo_195 hM.1 rfl rfl (Nat.le_of_ble_eq_true rfl) (by decide) 0 0 (Nat.le_refl _) (Nat.le_refl _) (c_Mo_insert (G := G) hM hc hlt hmas hpo (mo := (some j)) hmo id x) (fun v w hq => ?_)
                obtain ⟨rfl, A1, hM, hs2, hin⟩ := hq
                have hs := hs.tr hs2
                refine r_istore hX d_Mo_make_118 (by decide) ?_
                refine q_aload hX 0 d_Mo_make_120 rfl (by first | rfl | assumption) ?_
                refine r_getf hX d_Mo_make_121 fl_Mo_20 hM.1 rfl ?_
                refine r_iload hX d_Mo_make_124 (by first | rfl | assumption) ?_
                refine r_iload hX d_Mo_make_126 (by first | rfl | assumption) ?_
                refine r_iconst (v := 5) hX d_Mo_make_128 (by decide) ?_
                refine r_icmp_ne hX 137 d_Mo_make_129 (by decide) (fun c129 => ?_) (fun c129 => ?_)
                · refine r_iconst (v := 0) hX d_Mo_make_137 (by decide) ?_
                  refine r_iastm (c := 121) hX d_Mo_make_138 hM hs rfl (j := (mk_p (sE S) (sn S) (some j))) rfl (by omega) (fun w hM hs => ?_)
                  refine r_iload hX d_Mo_make_139 (by first | rfl | assumption) ?_
                  refine r_iret hX hR d_Mo_make_141 rfl (by first | rfl | assumption) ?_
                  exact Or.inr (Or.inr (Or.inr ⟨hnb, (fun z => c79 ((fm_15 _ h17).mpr z.1)), hlt, rfl, A1, by rw [if_neg (fun z => c129 ((fm_15 _ h17).mpr z))]; exact hM, hs, hin⟩))
                · refine q_lload hX 3 d_Mo_make_132 rfl (by first | rfl | assumption) ?_
                  refine r_l2i hX d_Mo_make_133 ?_
                  refine r_goto hX 138 d_Mo_make_134 (by decide) ?_
                  refine r_iastm (c := 121) hX d_Mo_make_138 hM hs rfl (j := (mk_p (sE S) (sn S) (some j))) rfl (by omega) (fun w hM hs => ?_)
                  refine r_iload hX d_Mo_make_139 (by first | rfl | assumption) ?_
                  refine r_iret hX hR d_Mo_make_141 rfl (by first | rfl | assumption) ?_
                  exact Or.inr (Or.inr (Or.inr ⟨hnb, (fun z => c79 ((fm_15 _ h17).mpr z.1)), hlt, rfl, A1, by rw [if_pos ((fm_15 _ h17).mp c129)]; exact hM, hs, hin⟩))
              · refine r_bipush (v := -6) hX d_Mo_make_108 (by decide) ?_
                refine r_iret hX hR d_Mo_make_110 rfl (by first | rfl | assumption) ?_
                exact Or.inr (Or.inr (Or.inl ⟨hnb, (fun z => c79 ((fm_15 _ h17).mpr z.1)), (nI_eq (b := 60) (by omega) (by decide)).mp c105, rfl, rfl⟩))
            · refine q_lload hX 3 d_Mo_make_82 rfl (by first | rfl | assumption) ?_
              refine r_lconst (v := 0) hX d_Mo_make_83 (by decide) ?_
              refine r_lcmp hX d_Mo_make_84 ?_
              refine r_if_lt hX 96 d_Mo_make_85 (by decide) (fun c85 => ?_) (fun c85 => ?_)
              · refine r_bipush (v := -7) hX d_Mo_make_96 (by decide) ?_
                refine r_iret hX hR d_Mo_make_98 rfl (by first | rfl | assumption) ?_
                exact Or.inr (Or.inl ⟨hnb, ⟨(fm_15 _ h17).mp c79, Or.inl (l_lt0.mp c85)⟩, rfl, rfl⟩)
              · refine q_lload hX 3 d_Mo_make_88 rfl (by first | rfl | assumption) ?_
                refine r_ldc2 hX d_Mo_make_89 m_737 ?_
                refine r_lcmp hX d_Mo_make_92 ?_
                refine r_if_le hX 99 d_Mo_make_93 (by decide) (fun c93 => ?_) (fun c93 => ?_)
                · refine q_aload hX 0 d_Mo_make_99 rfl (by first | rfl | assumption) ?_
                  refine r_getm (J := 0) (x := nI (sn S)) hX d_Mo_make_100 fl_Mo_86 hM hc rfl ?_
                  refine r_bipush (v := 60) hX d_Mo_make_103 (by decide) ?_
                  refine r_icmp_ne hX 111 d_Mo_make_105 (by decide) (fun c105 => ?_) (fun c105 => ?_)
                  · have hlt : sn S < 60 := by
                      have : sn S ≠ 60 := fun z => c105 (by rw [z]; rfl)
                      omega
                    refine q_aload hX 0 d_Mo_make_111 rfl (by first | rfl | assumption) ?_
                    refine q_iload hX 1 d_Mo_make_112 rfl (by first | rfl | assumption) ?_
                    refine q_iload hX 2 d_Mo_make_113 rfl (by first | rfl | assumption) ?_
                    refine q_lload hX 3 d_Mo_make_114 rfl (by first | rfl | assumption) ?_
                    refine r_callV (as := [_, _, _]) hX d_Mo_make_115 lk_Mo_195 hM.1 rfl rfl (Nat.le_of_ble_eq_true rfl) (by decide) 0 0 (Nat.le_refl _) (Nat.le_refl _) (c_Mo_insert (G := G) hM hc hlt hmas hpo (mo := (some j)) hmo id x) (fun v w hq => ?_)
                    obtain ⟨rfl, A1, hM, hs2, hin⟩ := hq
                    have hs := hs.tr hs2
                    refine r_istore hX d_Mo_make_118 (by decide) ?_
                    refine q_aload hX 0 d_Mo_make_120 rfl (by first | rfl | assumption) ?_
                    refine r_getf hX d_Mo_make_121 fl_Mo_20 hM.1 rfl ?_
                    refine r_iload hX d_Mo_make_124 (by first | rfl | assumption) ?_
                    refine r_iload hX d_Mo_make_126 (by first | rfl | assumption) ?_
                    refine r_iconst (v := 5) hX d_Mo_make_128 (by decide) ?_
                    refine r_icmp_ne hX 137 d_Mo_make_129 (by decide) (fun c129 => ?_) (fun c129 => ?_)
                    · refine r_iconst (v := 0) hX d_Mo_make_137 (by decide) ?_
                      refine r_iastm (c := 121) hX d_Mo_make_138 hM hs rfl (j := (mk_p (sE S) (sn S) (some j))) rfl (by omega) (fun w hM hs => ?_)
                      refine r_iload hX d_Mo_make_139 (by first | rfl | assumption) ?_
                      refine r_iret hX hR d_Mo_make_141 rfl (by first | rfl | assumption) ?_
                      exact Or.inr (Or.inr (Or.inr ⟨hnb, (fun z => by have h1 := Int.not_lt.mp (fun y => c85 (l_lt0.mpr y)); have h2 := l_le0.mp c93; rw [show (0 : Int64).toInt = 0 from rfl] at h1; rw [show (64 : Int64).toInt = 64 from rfl] at h2; rcases z.2 with y | y <;> omega), hlt, rfl, A1, by rw [if_neg (fun z => c129 ((fm_15 _ h17).mpr z))]; exact hM, hs, hin⟩))
                    · refine q_lload hX 3 d_Mo_make_132 rfl (by first | rfl | assumption) ?_
                      refine r_l2i hX d_Mo_make_133 ?_
                      refine r_goto hX 138 d_Mo_make_134 (by decide) ?_
                      refine r_iastm (c := 121) hX d_Mo_make_138 hM hs rfl (j := (mk_p (sE S) (sn S) (some j))) rfl (by omega) (fun w hM hs => ?_)
                      refine r_iload hX d_Mo_make_139 (by first | rfl | assumption) ?_
                      refine r_iret hX hR d_Mo_make_141 rfl (by first | rfl | assumption) ?_
                      exact Or.inr (Or.inr (Or.inr ⟨hnb, (fun z => by have h1 := Int.not_lt.mp (fun y => c85 (l_lt0.mpr y)); have h2 := l_le0.mp c93; rw [show (0 : Int64).toInt = 0 from rfl] at h1; rw [show (64 : Int64).toInt = 64 from rfl] at h2; rcases z.2 with y | y <;> omega), hlt, rfl, A1, by rw [if_pos ((fm_15 _ h17).mp c129)]; exact hM, hs, hin⟩))
                  · refine r_bipush (v := -6) hX d_Mo_make_108 (by decide) ?_
                    refine r_iret hX hR d_Mo_make_110 rfl (by first | rfl | assumption) ?_
                    exact Or.inr (Or.inr (Or.inl ⟨hnb, (fun z => by have h1 := Int.not_lt.mp (fun y => c85 (l_lt0.mpr y)); have h2 := l_le0.mp c93; rw [show (0 : Int64).toInt = 0 from rfl] at h1; rw [show (64 : Int64).toInt = 64 from rfl] at h2; rcases z.2 with y | y <;> omega), (nI_eq (b := 60) (by omega) (by decide)).mp c105, rfl, rfl⟩))
                · refine r_bipush (v := -7) hX d_Mo_make_96 (by decide) ?_
                  refine r_iret hX hR d_Mo_make_98 rfl (by first | rfl | assumption) ?_
                  exact Or.inr (Or.inl ⟨hnb, ⟨(fm_15 _ h17).mp c79, Or.inr (by have h2 := Int.not_le.mp (fun y => c93 (l_le0.mpr y)); rw [show (64 : Int64).toInt = 64 from rfl] at h2; omega)⟩, rfl, rfl⟩)
          · refine q_aload hX 0 d_Mo_make_65 rfl (by first | rfl | assumption) ?_
            refine q_iload hX 1 d_Mo_make_66 rfl (by first | rfl | assumption) ?_
            refine r_callV (as := [_]) hX d_Mo_make_67 lk_Mo_181 hM.1 rfl rfl (Nat.le_of_ble_eq_true rfl) (by decide) 0 0 (Nat.le_refl _) (Nat.le_refl _) (c_Mo_children (G := G) hM hc hn _) (fun v w1 hq => ?_)
            obtain ⟨rfl, hw⟩ := hq
            rw [hw, sc_n_cg _ _ (sc_mp hm (j := j) (by omega))]
            refine r_if_le hX 76 d_Mo_make_70 (by decide) (fun c70 => ?_) (fun c70 => ?_)
            · have hz : so_fits (so_of id) (so_in (sE S j).1) = true := by
                cases hz : so_fits (so_of id) (so_in (sE S j).1) with
                | true => rfl
                | false => rw [hz] at c56; exact absurd rfl c56
              have hnb : ¬ mk_bad S (so_of id) (some j) := fun z => by
                rcases z with z | z | z
                · exact c40 ((fm_9 _ h17).mpr z)
                · exact c47 ((fm_16 _ h17).mpr z)
                · have z : tr_may (sE S) (sn S) (so_of id) j = false := z
                  rw [tr_may, show ((ev_fl[3]).2.2.2).getD (sE S j).1 0 = so_in (sE S j).1 from rfl, hz, Bool.true_and] at z
                  have hle := sc_n_le (mp_c (si S) j) (sn S) 0
                  have hnp : ¬ j + 1 < tr_end (el_lev (sE S)) (sn S) j := fun y => by
                    have h1 := (ch_pos hn hpo hj).mpr y
                    exact absurd c70 (nI_nle h1 (by omega))
                  rw [decide_eq_false hnp, Bool.and_false] at z; cases z
              have hpin : (mk_p (sE S) (sn S) (some j)) ≤ sn S := mk_pn hmo
              refine r_iload hX d_Mo_make_76 (by first | rfl | assumption) ?_
              refine r_iconst (v := 5) hX d_Mo_make_78 (by decide) ?_
              refine r_icmp_ne hX 99 d_Mo_make_79 (by decide) (fun c79 => ?_) (fun c79 => ?_)
              · refine q_aload hX 0 d_Mo_make_99 rfl (by first | rfl | assumption) ?_
                refine r_getm (J := 0) (x := nI (sn S)) hX d_Mo_make_100 fl_Mo_86 hM hc rfl ?_
                refine r_bipush (v := 60) hX d_Mo_make_103 (by decide) ?_
                refine r_icmp_ne hX 111 d_Mo_make_105 (by decide) (fun c105 => ?_) (fun c105 => ?_)
                · have hlt : sn S < 60 := by
                    have : sn S ≠ 60 := fun z => c105 (by rw [z]; rfl)
                    omega
                  refine q_aload hX 0 d_Mo_make_111 rfl (by first | rfl | assumption) ?_
                  refine q_iload hX 1 d_Mo_make_112 rfl (by first | rfl | assumption) ?_
                  refine q_iload hX 2 d_Mo_make_113 rfl (by first | rfl | assumption) ?_
                  refine q_lload hX 3 d_Mo_make_114 rfl (by first | rfl | assumption) ?_
                  refine r_callV (as := [_, _, _]) hX d_Mo_make_115 lk_Mo_195 hM.1 rfl rfl (Nat.le_of_ble_eq_true rfl) (by decide) 0 0 (Nat.le_refl _) (Nat.le_refl _) (c_Mo_insert (G := G) hM hc hlt hmas hpo (mo := (some j)) hmo id x) (fun v w hq => ?_)
                  obtain ⟨rfl, A1, hM, hs2, hin⟩ := hq
                  have hs := hs.tr hs2
                  refine r_istore hX d_Mo_make_118 (by decide) ?_
                  refine q_aload hX 0 d_Mo_make_120 rfl (by first | rfl | assumption) ?_
                  refine r_getf hX d_Mo_make_121 fl_Mo_20 hM.1 rfl ?_
                  refine r_iload hX d_Mo_make_124 (by first | rfl | assumption) ?_
                  refine r_iload hX d_Mo_make_126 (by first | rfl | assumption) ?_
                  refine r_iconst (v := 5) hX d_Mo_make_128 (by decide) ?_
                  refine r_icmp_ne hX 137 d_Mo_make_129 (by decide) (fun c129 => ?_) (fun c129 => ?_)
                  · refine r_iconst (v := 0) hX d_Mo_make_137 (by decide) ?_
                    refine r_iastm (c := 121) hX d_Mo_make_138 hM hs rfl (j := (mk_p (sE S) (sn S) (some j))) rfl (by omega) (fun w hM hs => ?_)
                    refine r_iload hX d_Mo_make_139 (by first | rfl | assumption) ?_
                    refine r_iret hX hR d_Mo_make_141 rfl (by first | rfl | assumption) ?_
                    exact Or.inr (Or.inr (Or.inr ⟨hnb, (fun z => c79 ((fm_15 _ h17).mpr z.1)), hlt, rfl, A1, by rw [if_neg (fun z => c129 ((fm_15 _ h17).mpr z))]; exact hM, hs, hin⟩))
                  · refine q_lload hX 3 d_Mo_make_132 rfl (by first | rfl | assumption) ?_
                    refine r_l2i hX d_Mo_make_133 ?_
                    refine r_goto hX 138 d_Mo_make_134 (by decide) ?_
                    refine r_iastm (c := 121) hX d_Mo_make_138 hM hs rfl (j := (mk_p (sE S) (sn S) (some j))) rfl (by omega) (fun w hM hs => ?_)
                    refine r_iload hX d_Mo_make_139 (by first | rfl | assumption) ?_
                    refine r_iret hX hR d_Mo_make_141 rfl (by first | rfl | assumption) ?_
                    exact Or.inr (Or.inr (Or.inr ⟨hnb, (fun z => c79 ((fm_15 _ h17).mpr z.1)), hlt, rfl, A1, by rw [if_pos ((fm_15 _ h17).mp c129)]; exact hM, hs, hin⟩))
                · refine r_bipush (v := -6) hX d_Mo_make_108 (by decide) ?_
                  refine r_iret hX hR d_Mo_make_110 rfl (by first | rfl | assumption) ?_
                  exact Or.inr (Or.inr (Or.inl ⟨hnb, (fun z => c79 ((fm_15 _ h17).mpr z.1)), (nI_eq (b := 60) (by omega) (by decide)).mp c105, rfl, rfl⟩))
              · refine q_lload hX 3 d_Mo_make_82 rfl (by first | rfl | assumption) ?_
                refine r_lconst (v := 0) hX d_Mo_make_83 (by decide) ?_
                refine r_lcmp hX d_Mo_make_84 ?_
                refine r_if_lt hX 96 d_Mo_make_85 (by decide) (fun c85 => ?_) (fun c85 => ?_)
                · refine r_bipush (v := -7) hX d_Mo_make_96 (by decide) ?_
                  refine r_iret hX hR d_Mo_make_98 rfl (by first | rfl | assumption) ?_
                  exact Or.inr (Or.inl ⟨hnb, ⟨(fm_15 _ h17).mp c79, Or.inl (l_lt0.mp c85)⟩, rfl, rfl⟩)
                · refine q_lload hX 3 d_Mo_make_88 rfl (by first | rfl | assumption) ?_
                  refine r_ldc2 hX d_Mo_make_89 m_737 ?_
                  refine r_lcmp hX d_Mo_make_92 ?_
                  refine r_if_le hX 99 d_Mo_make_93 (by decide) (fun c93 => ?_) (fun c93 => ?_)
                  · refine q_aload hX 0 d_Mo_make_99 rfl (by first | rfl | assumption) ?_
                    refine r_getm (J := 0) (x := nI (sn S)) hX d_Mo_make_100 fl_Mo_86 hM hc rfl ?_
                    refine r_bipush (v := 60) hX d_Mo_make_103 (by decide) ?_
                    refine r_icmp_ne hX 111 d_Mo_make_105 (by decide) (fun c105 => ?_) (fun c105 => ?_)
                    · have hlt : sn S < 60 := by
                        have : sn S ≠ 60 := fun z => c105 (by rw [z]; rfl)
                        omega
                      refine q_aload hX 0 d_Mo_make_111 rfl (by first | rfl | assumption) ?_
                      refine q_iload hX 1 d_Mo_make_112 rfl (by first | rfl | assumption) ?_
                      refine q_iload hX 2 d_Mo_make_113 rfl (by first | rfl | assumption) ?_
                      refine q_lload hX 3 d_Mo_make_114 rfl (by first | rfl | assumption) ?_
                      refine r_callV (as := [_, _, _]) hX d_Mo_make_115 lk_Mo_195 hM.1 rfl rfl (Nat.le_of_ble_eq_true rfl) (by decide) 0 0 (Nat.le_refl _) (Nat.le_refl _) (c_Mo_insert (G := G) hM hc hlt hmas hpo (mo := (some j)) hmo id x) (fun v w hq => ?_)
                      obtain ⟨rfl, A1, hM, hs2, hin⟩ := hq
                      have hs := hs.tr hs2
                      refine r_istore hX d_Mo_make_118 (by decide) ?_
                      refine q_aload hX 0 d_Mo_make_120 rfl (by first | rfl | assumption) ?_
                      refine r_getf hX d_Mo_make_121 fl_Mo_20 hM.1 rfl ?_
                      refine r_iload hX d_Mo_make_124 (by first | rfl | assumption) ?_
                      refine r_iload hX d_Mo_make_126 (by first | rfl | assumption) ?_
                      refine r_iconst (v := 5) hX d_Mo_make_128 (by decide) ?_
                      refine r_icmp_ne hX 137 d_Mo_make_129 (by decide) (fun c129 => ?_) (fun c129 => ?_)
                      · refine r_iconst (v := 0) hX d_Mo_make_137 (by decide) ?_
                        refine r_iastm (c := 121) hX d_Mo_make_138 hM hs rfl (j := (mk_p (sE S) (sn S) (some j))) rfl (by omega) (fun w hM hs => ?_)
                        refine r_iload hX d_Mo_make_139 (by first | rfl | assumption) ?_
                        refine r_iret hX hR d_Mo_make_141 rfl (by first | rfl | assumption) ?_
                        exact Or.inr (Or.inr (Or.inr ⟨hnb, (fun z => by have h1 := Int.not_lt.mp (fun y => c85 (l_lt0.mpr y)); have h2 := l_le0.mp c93; rw [show (0 : Int64).toInt = 0 from rfl] at h1; rw [show (64 : Int64).toInt = 64 from rfl] at h2; rcases z.2 with y | y <;> omega), hlt, rfl, A1, by rw [if_neg (fun z => c129 ((fm_15 _ h17).mpr z))]; exact hM, hs, hin⟩))
                      · refine q_lload hX 3 d_Mo_make_132 rfl (by first | rfl | assumption) ?_
                        refine r_l2i hX d_Mo_make_133 ?_
                        refine r_goto hX 138 d_Mo_make_134 (by decide) ?_
                        refine r_iastm (c := 121) hX d_Mo_make_138 hM hs rfl (j := (mk_p (sE S) (sn S) (some j))) rfl (by omega) (fun w hM hs => ?_)
                        refine r_iload hX d_Mo_make_139 (by first | rfl | assumption) ?_
                        refine r_iret hX hR d_Mo_make_141 rfl (by first | rfl | assumption) ?_
                        exact Or.inr (Or.inr (Or.inr ⟨hnb, (fun z => by have h1 := Int.not_lt.mp (fun y => c85 (l_lt0.mpr y)); have h2 := l_le0.mp c93; rw [show (0 : Int64).toInt = 0 from rfl] at h1; rw [show (64 : Int64).toInt = 64 from rfl] at h2; rcases z.2 with y | y <;> omega), hlt, rfl, A1, by rw [if_pos ((fm_15 _ h17).mp c129)]; exact hM, hs, hin⟩))
                    · refine r_bipush (v := -6) hX d_Mo_make_108 (by decide) ?_
                      refine r_iret hX hR d_Mo_make_110 rfl (by first | rfl | assumption) ?_
                      exact Or.inr (Or.inr (Or.inl ⟨hnb, (fun z => by have h1 := Int.not_lt.mp (fun y => c85 (l_lt0.mpr y)); have h2 := l_le0.mp c93; rw [show (0 : Int64).toInt = 0 from rfl] at h1; rw [show (64 : Int64).toInt = 64 from rfl] at h2; rcases z.2 with y | y <;> omega), (nI_eq (b := 60) (by omega) (by decide)).mp c105, rfl, rfl⟩))
                  · refine r_bipush (v := -7) hX d_Mo_make_96 (by decide) ?_
                    refine r_iret hX hR d_Mo_make_98 rfl (by first | rfl | assumption) ?_
                    exact Or.inr (Or.inl ⟨hnb, ⟨(fm_15 _ h17).mp c79, Or.inr (by have h2 := Int.not_le.mp (fun y => c93 (l_le0.mpr y)); rw [show (64 : Int64).toInt = 64 from rfl] at h2; omega)⟩, rfl, rfl⟩)
            · refine r_bipush (v := -4) hX d_Mo_make_73 (by decide) ?_
              refine r_iret hX hR d_Mo_make_75 rfl (by first | rfl | assumption) ?_
              have h14 := (fm_14 _ h17).mp c62
              have hle := sc_n_le (mp_c (si S) j) (sn S) 0
              have hpos : j + 1 < tr_end (el_lev (sE S)) (sn S) j := (ch_pos hn hpo hj).mp (Nat.pos_of_ne_zero (fun z => c70 (by rw [z]; decide)))
              exact Or.inl ⟨Or.inr (Or.inr (by show tr_may _ _ _ _ = false; rw [tr_may, decide_eq_true h14, decide_eq_true hpos]; simp)), rfl, rfl⟩
theorem c_Mo_makeX {G : Ev_G} {w : Ev_W} {I : Nat → Int32} {v0 : Int64} {A : Ev_A} (hM : is_M w I v0 A) {S : Ev_S} {D : Nat → Ev_D} {sf : Nat → Int32} {sd : Nat} (hm : mdl I A S D sf sd) (k id : Int32) (hk1 : k ≠ -1) (hix : ix (sn S) k = none) (x : Int64) : ev_Met G M_Mo_make 1 0 0 [.ref 117, .int k, .int id, .long x] w (fun v w' => v = some (.int (-1)) ∧ w' = w) := by
  refine ev_Met.of md_Mo_make (Nat.le_of_ble_eq_true rfl) (fun X hX hR => ?_)
  obtain ⟨hc, hn, hu, hsd, hpo, hpl, hrow, hhp⟩ := (show mdl I A S D sf sd from hm)
  have hmas : ∀ x, x < sn S → A.1 119 x = o_i (si S x) := fun x hx => (hrow x hx).2.2
  refine q_iload hX 1 d_Mo_make_0 rfl (by first | rfl | assumption) ?_
  refine r_iconst (v := -1) hX d_Mo_make_1 (by decide) ?_
  refine r_icmp_eq hX 15 d_Mo_make_2 (by decide) (fun c2 => absurd c2 hk1) (fun _ => ?_)
  refine q_aload hX 0 d_Mo_make_5 rfl (by first | rfl | assumption) ?_
  refine q_iload hX 1 d_Mo_make_6 rfl (by first | rfl | assumption) ?_
  refine r_callV (as := [_]) hX d_Mo_make_7 lk_Mo_89 hM.1 rfl rfl (Nat.le_of_ble_eq_true rfl) (by decide) 0 0 (Nat.le_refl _) (Nat.le_refl _) (c_Mo_isElement (G := G) hM hc hn _) (fun v w1 hq => ?_)
  obtain ⟨rfl, hw⟩ := hq
  rw [hw, hix]
  rw [show b_i (none : Option Nat).isSome = 0 from rfl]
  refine r_if_ne hX 15 d_Mo_make_10 (by decide) (fun c10 => absurd rfl c10) (fun _ => ?_)
  refine r_iconst (v := -1) hX d_Mo_make_13 (by decide) ?_
  refine r_iret hX hR d_Mo_make_14 rfl (by first | rfl | assumption) ?_
  exact ⟨rfl, rfl⟩
