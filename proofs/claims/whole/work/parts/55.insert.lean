/-! ===== the reference: insert ===== -/
/-- the rows with a new one at p -/
def in_ok (A A' : Ev_A) (n p : Nat) (mo : Option Nat) (mi : Nat → Option Nat) (id : Int32) (x : Int64) : Prop := (∀ i, i < p → ro_c0 A' i A i) ∧ (∀ i, p < i → i ≤ n → ro_c0 A' i A (i - 1)) ∧ (∀ i, i ≤ n → A'.1 119 i = o_i (mi_ins p n mo mi i)) ∧ A'.1 118 p = id ∧ A'.2 p = x ∧ A'.1 121 p = 0 ∧ ∀ q, q ∉ mv_l → A'.1 q = A.1 q
theorem ro_c0.st9 {A B : Ev_A} {i f k : Nat} {x : Int32} (h : ro_c0 B i A f) : ro_c0 (aset B 119 k x) i A f := by
  obtain ⟨h1, h2, h3, h4, h5, h6, h7, h8, h9⟩ := h
  refine ⟨?_, h2, ?_, ?_, ?_, fun z => ?_, ?_, fun j hj => ?_, fun j hj => ⟨?_, ?_⟩⟩
  · rw [aset_ne _ _ _ (by decide)]; exact h1
  · rw [aset_ne _ _ _ (by decide)]; exact h3
  · rw [aset_ne _ _ _ (by decide)]; exact h4
  · rw [aset_ne _ _ _ (by decide)]; exact h5
  · rw [aset_ne _ _ _ (by decide)]; exact h6 z
  · rw [aset_ne _ _ _ (by decide)]; exact h7
  · rw [aset_ne _ _ _ (by decide)]; exact h8 j hj
  · rw [aset_ne _ _ _ (by decide)]; exact (h9 j hj).1
  · rw [aset_ne _ _ _ (by decide)]; exact (h9 j hj).2
theorem ro_c0.stp {A B : Ev_A} {i f p : Nat} {a b c : Int32} {x : Int64} (h : ro_c0 B i A f) (hp : i ≠ p) : ro_c0 (aset (vset (aset (aset B 118 p a) 119 p b) p x) 121 p c) i A f := by
  obtain ⟨h1, h2, h3, h4, h5, h6, h7, h8, h9⟩ := h
  have e : ∀ q, q ≠ 118 → q ≠ 119 → q ≠ 121 → (aset (vset (aset (aset B 118 p a) 119 p b) p x) 121 p c).1 q = B.1 q := fun q g1 g2 g3 => by simp [aset, vset, g1, g2, g3]
  refine ⟨?_, ?_, ?_, ?_, ?_, fun z => ?_, ?_, fun j hj => ?_, fun j hj => ⟨?_, ?_⟩⟩
  · rw [← h1]; simp [aset, vset, upd, hp]
  · rw [← h2]; simp [aset, vset, vp_updL, hp]
  · rw [← h3]; simp [aset, vset, upd, hp]
  · rw [e 123 (by decide) (by decide) (by decide)]; exact h4
  · rw [e 124 (by decide) (by decide) (by decide)]; exact h5
  · rw [e 125 (by decide) (by decide) (by decide)]; exact h6 z
  · rw [e 126 (by decide) (by decide) (by decide)]; exact h7
  · rw [e 122 (by decide) (by decide) (by decide)]; exact h8 j hj
  · rw [e 127 (by decide) (by decide) (by decide)]; exact (h9 j hj).1
  · rw [e 128 (by decide) (by decide) (by decide)]; exact (h9 j hj).2
theorem c_Mo_insert {G : Ev_G} {w : Ev_W} {I : Nat → Int32} {v0 : Int64} {A : Ev_A} (hM : is_M w I v0 A) {n : Nat} (hc : I 0 = nI n) (hn : n < 60) {E : Nat → Ev_E} {mi : Nat → Option Nat} (hmas : ∀ x, x < n → A.1 119 x = o_i (mi x)) (hpo : is_po n E mi) {mo : Option Nat} (hmo : ∀ j, mo = some j → j < n) (id : Int32) (x : Int64) : ev_Met G M_Mo_insert 2 0 0 [.ref 117, .int (o_i mo), .int id, .long x] w (fun v w' => v = some (.int (nI (mk_p E n mo))) ∧ ∃ A', is_M w' (upd I 0 (nI (n + 1))) v0 A' ∧ mo_sm w w' ∧ in_ok A A' n (mk_p E n mo) mo mi id x) := by
  refine ev_Met.of md_Mo_insert (Nat.le_of_ble_eq_true rfl) (fun X hX hR => ?_)
  have hpn : mk_p E n mo ≤ n := mk_pn hmo
  have loop : ∀ (t k : Nat) (A1 : Ev_A) (w1 : Ev_W) (ls : Ev_L), (mk_p E n mo) + t = k → k ≤ n → is_M w1 I v0 A1 → mo_sm w w1 → (∀ i, k < i → i ≤ n → ro_c0 A1 i A (i - 1) ∧ A1.1 119 i = o_i (mi_ins (mk_p E n mo) n mo mi i)) → (∀ i, i ≤ k → ro_c0 A1 i A i ∧ A1.1 119 i = A.1 119 i) → (∀ q, q ∉ mv_l → A1.1 q = A.1 q) → ls.1 0 = some (.ref 117) → ls.1 1 = some (.int (o_i mo)) → ls.1 2 = some (.int id) → ls.2 3 = some x → ls.1 5 = some (.int (nI (mk_p E n mo))) → ls.1 6 = some (.int (nI k)) → ev_W G M_Mo_insert X 0 0 13 ls [] w1 := by
    intro t
    induction t with
    | zero =>
      intro k A1 w ls e1 hkn hM hs g1 g2 g3 l0 l1 l2 l3 l5 l6
      have e1 : (mk_p E n mo) = k := e1
      subst e1
      refine r_iload hX d_Mo_insert_13 (by first | rfl | assumption) ?_
      refine r_iload hX d_Mo_insert_15 (by first | rfl | assumption) ?_
      refine r_icmp_le hX 74 d_Mo_insert_17 (by decide) (fun _ => ?_) (fun c17 => absurd (nI_le (Nat.le_refl _) (by omega)) c17)
      refine q_aload hX 0 d_Mo_insert_74 rfl (by first | rfl | assumption) ?_
      refine r_dup hX d_Mo_insert_75 rfl ?_
      refine r_getm (J := 0) (x := nI n) hX d_Mo_insert_76 fl_Mo_86 hM hc rfl ?_
      refine r_iconst (v := 1) hX d_Mo_insert_79 (by decide) ?_
      refine r_iadd hX d_Mo_insert_80 ?_
      refine r_putm (J := 0) hX d_Mo_insert_81 fp_Mo_86 hM hs rfl rfl (Nat.le_of_ble_eq_true rfl) rfl (fun w hM hs => ?_)
      rw [nI_1] at hM
      refine q_aload hX 0 d_Mo_insert_84 rfl (by first | rfl | assumption) ?_
      refine r_getf hX d_Mo_insert_85 fl_Mo_7 hM.1 rfl ?_
      refine r_iload hX d_Mo_insert_88 (by first | rfl | assumption) ?_
      refine q_iload hX 2 d_Mo_insert_90 rfl (by first | rfl | assumption) ?_
      refine r_iastm (c := 118) hX d_Mo_insert_91 hM hs rfl rfl (by omega) (fun w hM hs => ?_)
      refine q_aload hX 0 d_Mo_insert_92 rfl (by first | rfl | assumption) ?_
      refine r_getf hX d_Mo_insert_93 fl_Mo_13 hM.1 rfl ?_
      refine r_iload hX d_Mo_insert_96 (by first | rfl | assumption) ?_
      refine q_iload hX 1 d_Mo_insert_98 rfl (by first | rfl | assumption) ?_
      refine r_iastm (c := 119) hX d_Mo_insert_99 hM hs rfl rfl (by omega) (fun w hM hs => ?_)
      refine q_aload hX 0 d_Mo_insert_100 rfl (by first | rfl | assumption) ?_
      refine r_getf hX d_Mo_insert_101 fl_Mo_16 hM.1 rfl ?_
      refine r_iload hX d_Mo_insert_104 (by first | rfl | assumption) ?_
      refine q_lload hX 3 d_Mo_insert_106 rfl (by first | rfl | assumption) ?_
      refine r_lastm hX d_Mo_insert_107 hM hs rfl (by omega) (fun w hM hs => ?_)
      refine q_aload hX 0 d_Mo_insert_108 rfl (by first | rfl | assumption) ?_
      refine r_getf hX d_Mo_insert_109 fl_Mo_20 hM.1 rfl ?_
      refine r_iload hX d_Mo_insert_112 (by first | rfl | assumption) ?_
      refine r_iconst (v := 0) hX d_Mo_insert_114 (by decide) ?_
      refine r_iastm (c := 121) hX d_Mo_insert_115 hM hs rfl rfl (by omega) (fun w hM hs => ?_)
      refine r_iload hX d_Mo_insert_116 (by first | rfl | assumption) ?_
      refine r_iret hX hR d_Mo_insert_118 rfl (by first | rfl | assumption) ?_
      refine ⟨rfl, _, hM, hs, fun i hi => ((g2 i (by omega)).1).stp (by omega), fun i h1 h2 => ((g1 i (by omega) h2).1).stp (by omega), fun i hi => ?_, ?_, ?_, ?_, fun q hq => ?_⟩
      · by_cases z : i = mk_p E n mo
        · rw [z, miI_at]; simp [aset, vset, upd]
        · rw [show (aset (vset (aset (aset A1 118 (mk_p E n mo) id) 119 (mk_p E n mo) (o_i mo)) (mk_p E n mo) x) 121 (mk_p E n mo) 0).1 119 i = A1.1 119 i from by simp [aset, vset, upd, z]]
          by_cases y : i < mk_p E n mo
          · rw [(g2 i (by omega)).2, hmas i (by omega), miI_lo y]
          · exact (g1 i (by omega) hi).2
      · simp [aset, vset, upd]
      · simp [aset, vset, upd, vp_updL]
      · simp [aset, vset, upd]
      · have hq2 := hq
        unfold mv_l at hq2
        simp only [List.mem_cons, List.not_mem_nil, or_false, not_or] at hq2
        rw [show (aset (vset (aset (aset A1 118 (mk_p E n mo) id) 119 (mk_p E n mo) (o_i mo)) (mk_p E n mo) x) 121 (mk_p E n mo) 0).1 q = A1.1 q from by simp [aset, vset, hq2]]
        exact g3 q hq
    | succ t ih =>
      intro k A1 w ls e1 hkn hM hs g1 g2 g3 l0 l1 l2 l3 l5 l6
      have hk1 : nI k - 1 = nI (k - 1) := nI_1m (by omega)
      have hold : A1.1 119 (k - 1) = o_i (mi (k - 1)) := by rw [(g2 (k - 1) (by omega)).2, hmas _ (by omega)]
      refine r_iload hX d_Mo_insert_13 (by first | rfl | assumption) ?_
      refine r_iload hX d_Mo_insert_15 (by first | rfl | assumption) ?_
      refine r_icmp_le hX 74 d_Mo_insert_17 (by decide) (fun c17 => absurd ((nI_leI (by omega) (by omega)).mp c17) (by omega)) (fun _ => ?_)
      refine q_aload hX 0 d_Mo_insert_20 rfl (by first | rfl | assumption) ?_
      refine r_iload hX d_Mo_insert_21 (by first | rfl | assumption) ?_
      refine r_iconst (v := 1) hX d_Mo_insert_23 (by decide) ?_
      refine r_isub hX d_Mo_insert_24 ?_
      rw [hk1]
      refine r_iload hX d_Mo_insert_25 (by first | rfl | assumption) ?_
      refine r_callV (as := [_, _]) hX d_Mo_insert_27 lk_Mo_100 hM.1 rfl rfl (Nat.le_of_ble_eq_true rfl) (by decide) 0 0 (Nat.le_refl _) (Nat.le_refl _) (c_Mo_move (G := G) hM (f := k - 1) (t := k) (by omega) (by omega) (by omega)) (fun v w hq => ?_)
      obtain ⟨rfl, A2, hM, hs2, mv1, mv2, mv3, mv4⟩ := hq
      have hs := hs.tr hs2
      refine q_aload hX 0 d_Mo_insert_30 rfl (by first | rfl | assumption) ?_
      refine r_getf hX d_Mo_insert_31 fl_Mo_13 hM.1 rfl ?_
      refine r_iload hX d_Mo_insert_34 (by first | rfl | assumption) ?_
      refine q_aload hX 0 d_Mo_insert_36 rfl (by first | rfl | assumption) ?_
      refine r_getf hX d_Mo_insert_37 fl_Mo_13 hM.1 rfl ?_
      refine r_iload hX d_Mo_insert_40 (by first | rfl | assumption) ?_
      refine r_ialdm (c := 119) (x := o_i (mi (k - 1))) hX d_Mo_insert_42 hM rfl rfl (by omega) (mv2.trans hold) ?_
      refine r_iload hX d_Mo_insert_43 (by first | rfl | assumption) ?_
      refine r_icmp_lt hX 60 d_Mo_insert_45 (by decide) (fun c45 => ?_) (fun c45 => ?_)
      · refine q_aload hX 0 d_Mo_insert_60 rfl (by first | rfl | assumption) ?_
        refine r_getf hX d_Mo_insert_61 fl_Mo_13 hM.1 rfl ?_
        refine r_iload hX d_Mo_insert_64 (by first | rfl | assumption) ?_
        refine r_ialdm (c := 119) (x := o_i (mi (k - 1))) hX d_Mo_insert_66 hM rfl rfl (by omega) (mv2.trans hold) ?_
        refine r_iastm (c := 119) hX d_Mo_insert_67 hM hs rfl rfl (by omega) (fun w hM hs => ?_)
        refine r_iinc hX d_Mo_insert_68 (by first | rfl | assumption) ?_
        refine r_goto hX 13 d_Mo_insert_71 (by decide) ?_
        refine ih (k - 1) _ w _ (by omega) (by omega) hM hs (fun i h1 h2 => ?_) (fun i h1 => ?_) (fun q hq => ?_) l0 l1 l2 l3 l5 (by show some (Value.int (nI k + Int32.ofInt (-1))) = _; rw [nI_m1 (by omega)])
        · by_cases z : i = k
          · subst z
            refine ⟨(mv1.tr (g2 (i - 1) (by omega)).1).st9, ?_⟩
            rw [aset_self, miI_hi (by omega) h2]
            cases hm : mi (i - 1) with
            | none => rfl
            | some j =>
              have hjl := ((hpo (i - 1) (by omega)).2.2.2 j hm).1
              rw [hm] at c45
              show nI j = nI (if j < _ then j else j + 1)
              rw [if_pos ((nI_ltI (by omega) (by omega)).mp c45)]
          · have := g1 i (by omega) h2
            exact ⟨((mv3 i z).1.tr this.1).st9, by rw [aset_off _ _ _ _ _ _ (Or.inr z), (mv3 i z).2]; exact this.2⟩
        · have z : i ≠ k := by omega
          have := g2 i (by omega)
          exact ⟨((mv3 i z).1.tr this.1).st9, by rw [aset_off _ _ _ _ _ _ (Or.inr z), (mv3 i z).2]; exact this.2⟩
        · rw [aset_ne _ _ _ (fun z => hq (by rw [z]; decide)), mv4 q hq]; exact g3 q hq
      · refine q_aload hX 0 d_Mo_insert_48 rfl (by first | rfl | assumption) ?_
        refine r_getf hX d_Mo_insert_49 fl_Mo_13 hM.1 rfl ?_
        refine r_iload hX d_Mo_insert_52 (by first | rfl | assumption) ?_
        refine r_ialdm (c := 119) (x := o_i (mi (k - 1))) hX d_Mo_insert_54 hM rfl rfl (by omega) (mv2.trans hold) ?_
        refine r_iconst (v := 1) hX d_Mo_insert_55 (by decide) ?_
        refine r_iadd hX d_Mo_insert_56 ?_
        refine r_goto hX 67 d_Mo_insert_57 (by decide) ?_
        refine r_iastm (c := 119) hX d_Mo_insert_67 hM hs rfl rfl (by omega) (fun w hM hs => ?_)
        refine r_iinc hX d_Mo_insert_68 (by first | rfl | assumption) ?_
        refine r_goto hX 13 d_Mo_insert_71 (by decide) ?_
        refine ih (k - 1) _ w _ (by omega) (by omega) hM hs (fun i h1 h2 => ?_) (fun i h1 => ?_) (fun q hq => ?_) l0 l1 l2 l3 l5 (by show some (Value.int (nI k + Int32.ofInt (-1))) = _; rw [nI_m1 (by omega)])
        · by_cases z : i = k
          · subst z
            refine ⟨(mv1.tr (g2 (i - 1) (by omega)).1).st9, ?_⟩
            rw [aset_self, miI_hi (by omega) h2]
            cases hm : mi (i - 1) with
            | none =>
              rw [hm] at c45
              exact absurd (by rw [i_lt, nI_toInt (by omega)]; show (-1 : Int) < _; omega) c45
            | some j =>
              have hjl := ((hpo (i - 1) (by omega)).2.2.2 j hm).1
              rw [hm] at c45
              show nI j + 1 = nI (if j < _ then j else j + 1)
              rw [if_neg (fun z => c45 (nI_lt z (by omega))), nI_1]
          · have := g1 i (by omega) h2
            exact ⟨((mv3 i z).1.tr this.1).st9, by rw [aset_off _ _ _ _ _ _ (Or.inr z), (mv3 i z).2]; exact this.2⟩
        · have z : i ≠ k := by omega
          have := g2 i (by omega)
          exact ⟨((mv3 i z).1.tr this.1).st9, by rw [aset_off _ _ _ _ _ _ (Or.inr z), (mv3 i z).2]; exact this.2⟩
        · rw [aset_ne _ _ _ (fun z => hq (by rw [z]; decide)), mv4 q hq]; exact g3 q hq
  have hs : mo_sm w w := mo_sm.rf
  refine q_aload hX 0 d_Mo_insert_0 rfl (by first | rfl | assumption) ?_
  refine q_iload hX 1 d_Mo_insert_1 rfl (by first | rfl | assumption) ?_
  refine r_callV (as := [_]) hX d_Mo_insert_2 lk_Mo_97 hM.1 rfl rfl (Nat.le_of_ble_eq_true rfl) (by decide) 0 0 (Nat.le_refl _) (Nat.le_refl _) (c_Mo_behind (G := G) hM hc (by omega) hmas hpo hmo) (fun v w1 hq => ?_)
  obtain ⟨rfl, hw⟩ := hq
  rw [hw]
  refine r_istore hX d_Mo_insert_5 (by decide) ?_
  refine q_aload hX 0 d_Mo_insert_7 rfl (by first | rfl | assumption) ?_
  refine r_getm (J := 0) (x := nI n) hX d_Mo_insert_8 fl_Mo_86 hM hc rfl ?_
  refine r_istore hX d_Mo_insert_11 (by decide) ?_
  exact loop (n - (mk_p E n mo)) n A w _ (by omega) (Nat.le_refl _) hM hs (fun i h1 h2 => by omega) (fun i _ => ⟨ro_c0.rf, rfl⟩) (fun _ _ => rfl) rfl rfl rfl rfl rfl rfl
