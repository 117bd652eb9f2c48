/-! ===== the reference: move, insert ===== -/
/-- row t of A' is row f of A, but for the master -/
def ro_c0 (A' : Ev_A) (t : Nat) (A : Ev_A) (f : Nat) : Prop := A'.1 118 t = A.1 118 f ∧ A'.2 t = A.2 f ∧ A'.1 121 t = A.1 121 f ∧ A'.1 123 t = A.1 123 f ∧ A'.1 124 t = A.1 124 f ∧ (A.1 125 f = 0 ∨ A.1 125 f = 1 → A'.1 125 t = A.1 125 f) ∧ A'.1 126 t = A.1 126 f ∧ (∀ i, i < 16 → A'.1 122 (16 * t + i) = A.1 122 (16 * f + i)) ∧ ∀ i, i < 8 → A'.1 127 (8 * t + i) = A.1 127 (8 * f + i) ∧ A'.1 128 (8 * t + i) = A.1 128 (8 * f + i)
theorem ro_c0.rf {A : Ev_A} {t : Nat} : ro_c0 A t A t := ⟨rfl, rfl, rfl, rfl, rfl, fun _ => rfl, rfl, fun _ _ => rfl, fun _ _ => ⟨rfl, rfl⟩⟩
theorem ro_c0.tr {A B C : Ev_A} {a b c : Nat} (h : ro_c0 A a B b) (k : ro_c0 B b C c) : ro_c0 A a C c := by
  obtain ⟨h1, h2, h3, h4, h5, h6, h7, h8, h9⟩ := h
  obtain ⟨k1, k2, k3, k4, k5, k6, k7, k8, k9⟩ := k
  exact ⟨h1.trans k1, h2.trans k2, h3.trans k3, h4.trans k4, h5.trans k5, fun z => by rw [h6 (by rw [k6 z]; exact z), k6 z], h7.trans k7, fun i hi => (h8 i hi).trans (k8 i hi), fun i hi => ⟨(h9 i hi).1.trans (k9 i hi).1, (h9 i hi).2.trans (k9 i hi).2⟩⟩
/-- a copied row is a row for the same element -/
theorem mq.cp {A A' : Ev_A} {f t : Nat} {E : Ev_E} {pf : Nat → Int32} {D : Ev_D} {sd : Nat} (h : ro_c0 A' t A f) (hd : el_D E pf D sd) (k : mq A f E pf D) : mq A' t E pf D := by
  obtain ⟨h1, h2, h3, h4, h5, h6, h7, h8, h9⟩ := h
  obtain ⟨k1, k2, k3, k4, k5, k6⟩ := k
  obtain ⟨d1, d2, d3, d4, d5, d6, d7, d8⟩ := hd
  refine ⟨h1.trans k1, fun z => h2.trans (k2 z), fun z => h3.trans (k3 z), fun z i hi => (h8 i (by have := d4 z; omega)).trans (k4 z i hi), fun z => ?_, fun z => ?_⟩
  · obtain ⟨g1, g2, g3, g4, g5⟩ := k5 z
    obtain ⟨e1, e2, e3, e4, e5, e6, e7, e8, e9, e10, e11⟩ := d5 z
    exact ⟨h4.trans g1, h5.trans g2, by rw [h6 (by rw [g3]; exact e9)]; exact g3, h7.trans g4, fun i hi => ⟨(h9 i (by omega)).1.trans (g5 i hi).1, (h9 i (by omega)).2.trans (g5 i hi).2⟩⟩
  · have := (h9 0 (by decide)).2; rw [Nat.add_zero, Nat.add_zero] at this; rw [this]; exact k6 z
theorem r_zastn {G : Ev_G} {M : Ev_M} {d : Nat} {X : Ev_X} {bc bs pc : Nat} {ls : Ev_L} {st : List Value} {w w0 : Ev_W} {I : Nat → Int32} {v : Int64} {A : Ev_A} (hX : ev_C G M d X) {c n j : Nat} {i x : Int32} (hd : decode M.2.2.1 pc = .ok (.bastore, 1)) (hM : is_M w I v A) (hs : mo_sm w0 w) (hc : mo_ty c = some (2, n)) (hi : i = nI j) (hj : j < n) (kk : ∀ w2, is_M w2 I v (aset A c j (x &&& 1)) → mo_sm w0 w2 → ev_W G M X bc bs (pc + 1) ls st w2) : ev_W G M X bc bs pc ls (.int x :: .int i :: .ref c :: st) w := by
  have h1 := mo_ty_c hc
  subst hi
  refine r_zast hX hd (hM.2.1 c 2 n hc) (by omega) rfl (vp_in_nI hj (by omega)) ?_
  rw [nI_clamp (by omega)]
  exact kk _ (hM.st hc j (x &&& 1)) (hs.st (by omega))
def mv_l : List Nat := [118, 119, 121, 122, 123, 124, 125, 126, 127, 128]
def mv_ok (A A' : Ev_A) (f t : Nat) : Prop := ro_c0 A' t A f ∧ A'.1 119 t = A.1 119 f ∧ (∀ i, i ≠ t → ro_c0 A' i A i ∧ A'.1 119 i = A.1 119 i) ∧ ∀ q, q ∉ mv_l → A'.1 q = A.1 q
/-- the part that has no loop -/
def mv_8 (A B : Ev_A) (f t : Nat) : Prop := (∀ i, i ≠ t → B.1 118 i = A.1 118 i ∧ B.1 119 i = A.1 119 i ∧ B.2 i = A.2 i ∧ B.1 121 i = A.1 121 i ∧ B.1 123 i = A.1 123 i ∧ B.1 124 i = A.1 124 i ∧ B.1 125 i = A.1 125 i ∧ B.1 126 i = A.1 126 i) ∧ (B.1 118 t = A.1 118 f ∧ B.1 119 t = A.1 119 f ∧ B.2 t = A.2 f ∧ B.1 121 t = A.1 121 f ∧ B.1 123 t = A.1 123 f ∧ B.1 124 t = A.1 124 f ∧ B.1 125 t = A.1 125 f &&& 1 ∧ B.1 126 t = A.1 126 f) ∧ ∀ q, q ∉ [118, 119, 121, 123, 124, 125, 126] → B.1 q = A.1 q
theorem mv_8_of (A : Ev_A) (f t : Nat) (hft : f ≠ t) : mv_8 A (aset (aset (aset (aset (aset (vset (aset (aset A 118 t (A.1 118 f)) 119 t (A.1 119 f)) t (A.2 f)) 121 t (A.1 121 f)) 123 t (A.1 123 f)) 124 t (A.1 124 f)) 125 t (A.1 125 f &&& 1)) 126 t (A.1 126 f)) f t := by
  refine ⟨fun i hi => ?_, ?_, fun q hq => ?_⟩
  · simp [aset, vset, upd, vp_updL, hi]
  · simp [aset, vset, upd, vp_updL]
  · simp only [List.mem_cons, List.not_mem_nil, or_false, not_or] at hq
    simp [aset, vset, hq]
theorem c_Mo_move {G : Ev_G} {w : Ev_W} {I : Nat → Int32} {v0 : Int64} {A : Ev_A} (hM : is_M w I v0 A) {f t : Nat} (hf : f < 61) (ht : t < 61) (hft : f ≠ t) : ev_Met G M_Mo_move 0 0 0 [.ref 117, .int (nI f), .int (nI t)] w (fun v w' => v = none ∧ ∃ A', is_M w' I v0 A' ∧ mo_sm w w' ∧ mv_ok A A' f t) := by
  refine ev_Met.of md_Mo_move (Nat.le_of_ble_eq_true rfl) (fun X hX hR => ?_)
  have loop2 : ∀ (B C : Ev_A), mv_8 A B f t → (∀ q, q ≠ 122 → C.1 q = B.1 q) → C.2 = B.2 → (∀ i, i < 16 → C.1 122 (16 * t + i) = A.1 122 (16 * f + i)) → (∀ x, x < 16 * t ∨ 16 * t + 16 ≤ x → C.1 122 x = A.1 122 x) → ∀ (k i : Nat) (A1 : Ev_A) (w1 : Ev_W) (ls : Ev_L), i + k = 8 → is_M w1 I v0 A1 → mo_sm w w1 → (∀ q, q ≠ 127 → q ≠ 128 → A1.1 q = C.1 q) → A1.2 = C.2 → (∀ x, x < i → A1.1 127 (8 * t + x) = A.1 127 (8 * f + x) ∧ A1.1 128 (8 * t + x) = A.1 128 (8 * f + x)) → (∀ x, x < 8 * t ∨ 8 * t + 8 ≤ x → A1.1 127 x = A.1 127 x ∧ A1.1 128 x = A.1 128 x) → ls.1 0 = some (.ref 117) → ls.1 1 = some (.int (nI f)) → ls.1 2 = some (.int (nI t)) → ls.1 3 = some (.int (nI i)) → ev_W G M_Mo_move X 0 0 134 ls [] w1 := by
    intro B C hB hC1 hC2 hC3 hC4 k
    induction k with
    | zero =>
      intro i A1 w ls e1 hM hs g1 g2 g3 g4 l0 l1 l2 l3
      have e1 : i = 8 := e1
      subst e1
      refine q_iload hX 3 d_Mo_move_134 rfl (by first | rfl | assumption) ?_
      refine r_bipush (v := 8) hX d_Mo_move_135 (by decide) ?_
      refine r_icmp_ge hX 190 d_Mo_move_137 (by decide) (fun _ => ?_) (fun c137 => absurd (by decide) c137)
      refine r_vret hX hR d_Mo_move_190 rfl ?_
      refine ⟨rfl, A1, hM, hs, ?_⟩
      obtain ⟨b1, b2, b3⟩ := hB
      have hq : ∀ q, q ≠ 122 → q ≠ 127 → q ≠ 128 → A1.1 q = B.1 q := fun q h1 h2 h3 => (g1 q h2 h3).trans (hC1 q h1)
      have hv : A1.2 = B.2 := g2.trans hC2
      have h22 : A1.1 122 = C.1 122 := g1 122 (by decide) (by decide)
      refine ⟨⟨?_, ?_, ?_, ?_, ?_, fun z => ?_, ?_, fun x hx => ?_, fun x hx => ?_⟩, ?_, fun x hx => ⟨⟨?_, ?_, ?_, ?_, ?_, fun _ => ?_, ?_, fun y hy => ?_, fun y hy => ?_⟩, ?_⟩, fun q hq2 => ?_⟩
      · rw [hq 118 (by decide) (by decide) (by decide)]; exact b2.1
      · rw [hv]; exact b2.2.2.1
      · rw [hq 121 (by decide) (by decide) (by decide)]; exact b2.2.2.2.1
      · rw [hq 123 (by decide) (by decide) (by decide)]; exact b2.2.2.2.2.1
      · rw [hq 124 (by decide) (by decide) (by decide)]; exact b2.2.2.2.2.2.1
      · rw [hq 125 (by decide) (by decide) (by decide), b2.2.2.2.2.2.2.1]; rcases z with z | z <;> rw [z] <;> rfl
      · rw [hq 126 (by decide) (by decide) (by decide)]; exact b2.2.2.2.2.2.2.2
      · rw [h22]; exact hC3 x hx
      · exact g3 x hx
      · rw [hq 119 (by decide) (by decide) (by decide)]; exact b2.2.1
      · rw [hq 118 (by decide) (by decide) (by decide)]; exact (b1 x hx).1
      · rw [hv]; exact (b1 x hx).2.2.1
      · rw [hq 121 (by decide) (by decide) (by decide)]; exact (b1 x hx).2.2.2.1
      · rw [hq 123 (by decide) (by decide) (by decide)]; exact (b1 x hx).2.2.2.2.1
      · rw [hq 124 (by decide) (by decide) (by decide)]; exact (b1 x hx).2.2.2.2.2.1
      · rw [hq 125 (by decide) (by decide) (by decide)]; exact (b1 x hx).2.2.2.2.2.2.1
      · rw [hq 126 (by decide) (by decide) (by decide)]; exact (b1 x hx).2.2.2.2.2.2.2
      · rw [h22]; exact hC4 _ (by omega)
      · exact g4 _ (by omega)
      · rw [hq 119 (by decide) (by decide) (by decide)]; exact (b1 x hx).2.1
      · unfold mv_l at hq2
        simp only [List.mem_cons, List.not_mem_nil, or_false, not_or] at hq2
        rw [hq q (by omega) (by omega) (by omega)]
        exact b3 q (by simp only [List.mem_cons, List.not_mem_nil, or_false, not_or]; omega)
    | succ k ih =>
      intro i A1 w ls e1 hM hs g1 g2 g3 g4 l0 l1 l2 l3
      refine q_iload hX 3 d_Mo_move_134 rfl (by first | rfl | assumption) ?_
      refine r_bipush (v := 8) hX d_Mo_move_135 (by decide) ?_
      refine r_icmp_ge hX 190 d_Mo_move_137 (by decide) (fun c137 => absurd c137 (nI_ge (a := i) (b := 8) (by omega) (by decide))) (fun _ => ?_)
      refine q_aload hX 0 d_Mo_move_140 rfl (by first | rfl | assumption) ?_
      refine r_getf hX d_Mo_move_141 fl_Mo_39 hM.1 rfl ?_
      refine r_bipush (v := 8) hX d_Mo_move_144 (by decide) ?_
      refine q_iload hX 2 d_Mo_move_146 rfl (by first | rfl | assumption) ?_
      refine r_imul hX d_Mo_move_147 ?_
      refine q_iload hX 3 d_Mo_move_148 rfl (by first | rfl | assumption) ?_
      refine r_iadd hX d_Mo_move_149 ?_
      refine q_aload hX 0 d_Mo_move_150 rfl (by first | rfl | assumption) ?_
      refine r_getf hX d_Mo_move_151 fl_Mo_39 hM.1 rfl ?_
      refine r_bipush (v := 8) hX d_Mo_move_154 (by decide) ?_
      refine q_iload hX 1 d_Mo_move_156 rfl (by first | rfl | assumption) ?_
      refine r_imul hX d_Mo_move_157 ?_
      refine q_iload hX 3 d_Mo_move_158 rfl (by first | rfl | assumption) ?_
      refine r_iadd hX d_Mo_move_159 ?_
      refine r_ialdm (c := 127) (x := A.1 127 (8 * f + i)) hX d_Mo_move_160 hM rfl (j := 8 * f + i) (by rw [show (8 : Int32) = nI 8 from rfl, nI_ml, nI_add]) (by omega) (g4 _ (by omega)).1 ?_
      refine r_iastm (c := 127) hX d_Mo_move_161 hM hs rfl (j := 8 * t + i) (by rw [show (8 : Int32) = nI 8 from rfl, nI_ml, nI_add]) (by omega) (fun w hM hs => ?_)
      refine q_aload hX 0 d_Mo_move_162 rfl (by first | rfl | assumption) ?_
      refine r_getf hX d_Mo_move_163 fl_Mo_42 hM.1 rfl ?_
      refine r_bipush (v := 8) hX d_Mo_move_166 (by decide) ?_
      refine q_iload hX 2 d_Mo_move_168 rfl (by first | rfl | assumption) ?_
      refine r_imul hX d_Mo_move_169 ?_
      refine q_iload hX 3 d_Mo_move_170 rfl (by first | rfl | assumption) ?_
      refine r_iadd hX d_Mo_move_171 ?_
      refine q_aload hX 0 d_Mo_move_172 rfl (by first | rfl | assumption) ?_
      refine r_getf hX d_Mo_move_173 fl_Mo_42 hM.1 rfl ?_
      refine r_bipush (v := 8) hX d_Mo_move_176 (by decide) ?_
      refine q_iload hX 1 d_Mo_move_178 rfl (by first | rfl | assumption) ?_
      refine r_imul hX d_Mo_move_179 ?_
      refine q_iload hX 3 d_Mo_move_180 rfl (by first | rfl | assumption) ?_
      refine r_iadd hX d_Mo_move_181 ?_
      refine r_ialdm (c := 128) (x := A.1 128 (8 * f + i)) hX d_Mo_move_182 hM rfl (j := 8 * f + i) (by rw [show (8 : Int32) = nI 8 from rfl, nI_ml, nI_add]) (by omega) ((congrFun (aset_ne _ _ _ (by decide)) _).trans (g4 _ (by omega)).2) ?_
      refine r_iastm (c := 128) hX d_Mo_move_183 hM hs rfl (j := 8 * t + i) (by rw [show (8 : Int32) = nI 8 from rfl, nI_ml, nI_add]) (by omega) (fun w hM hs => ?_)
      refine r_iinc hX d_Mo_move_184 (by first | rfl | assumption) ?_
      refine r_goto hX 134 d_Mo_move_187 (by decide) ?_
      refine ih (i + 1) _ w _ (by omega) hM hs (fun q h1 h2 => ?_) g2 (fun x hx => ?_) (fun x hx => ?_) l0 l1 l2 (by show some (Value.int (nI i + Int32.ofInt 1)) = _; rw [show Int32.ofInt 1 = 1 from rfl, nI_1])
      · rw [aset_ne _ _ _ h2, aset_ne _ _ _ h1]; exact g1 q h1 h2
      · by_cases z : x = i
        · subst z
          exact ⟨by rw [aset_ne _ _ _ (by decide), aset_self], by rw [aset_self]⟩
        · have := g3 x (by omega)
          exact ⟨by rw [aset_ne _ _ _ (by decide), aset_off _ _ _ _ _ _ (Or.inr (by omega))]; exact this.1, by rw [aset_off _ _ _ _ _ _ (Or.inr (by omega)), aset_ne _ _ _ (by decide)]; exact this.2⟩
      · have := g4 x hx
        exact ⟨by rw [aset_ne _ _ _ (by decide), aset_off _ _ _ _ _ _ (Or.inr (by omega))]; exact this.1, by rw [aset_off _ _ _ _ _ _ (Or.inr (by omega)), aset_ne _ _ _ (by decide)]; exact this.2⟩
  have loop1 : ∀ (B : Ev_A), mv_8 A B f t → ∀ (k i : Nat) (A1 : Ev_A) (w1 : Ev_W) (ls : Ev_L), i + k = 16 → is_M w1 I v0 A1 → mo_sm w w1 → (∀ q, q ≠ 122 → A1.1 q = B.1 q) → A1.2 = B.2 → (∀ x, x < i → A1.1 122 (16 * t + x) = A.1 122 (16 * f + x)) → (∀ x, x < 16 * t ∨ 16 * t + 16 ≤ x → A1.1 122 x = A.1 122 x) → ls.1 0 = some (.ref 117) → ls.1 1 = some (.int (nI f)) → ls.1 2 = some (.int (nI t)) → ls.1 3 = some (.int (nI i)) → ev_W G M_Mo_move X 0 0 98 ls [] w1 := by
    intro B hB k
    induction k with
    | zero =>
      intro i A1 w ls e1 hM hs g1 g2 g3 g4 l0 l1 l2 l3
      have e1 : i = 16 := e1
      subst e1
      have h27 : A1.1 127 = A.1 127 := (g1 127 (by decide)).trans (hB.2.2 127 (by decide))
      have h28 : A1.1 128 = A.1 128 := (g1 128 (by decide)).trans (hB.2.2 128 (by decide))
      refine q_iload hX 3 d_Mo_move_98 rfl (by first | rfl | assumption) ?_
      refine r_bipush (v := 16) hX d_Mo_move_99 (by decide) ?_
      refine r_icmp_ge hX 132 d_Mo_move_101 (by decide) (fun _ => ?_) (fun c101 => absurd (by decide) c101)
      refine r_iconst (v := 0) hX d_Mo_move_132 (by decide) ?_
      refine q_istore hX 3 d_Mo_move_133 rfl (by decide) ?_
      exact loop2 B A1 hB g1 g2 g3 g4 8 0 A1 w _ rfl hM hs (fun _ _ _ => rfl) rfl (fun x hx => by omega) (fun x _ => by rw [h27, h28]; exact ⟨rfl, rfl⟩) l0 l1 l2 rfl
    | succ k ih =>
      intro i A1 w ls e1 hM hs g1 g2 g3 g4 l0 l1 l2 l3
      refine q_iload hX 3 d_Mo_move_98 rfl (by first | rfl | assumption) ?_
      refine r_bipush (v := 16) hX d_Mo_move_99 (by decide) ?_
      refine r_icmp_ge hX 132 d_Mo_move_101 (by decide) (fun c101 => absurd c101 (nI_ge (a := i) (b := 16) (by omega) (by decide))) (fun _ => ?_)
      refine q_aload hX 0 d_Mo_move_104 rfl (by first | rfl | assumption) ?_
      refine r_getf hX d_Mo_move_105 fl_Mo_23 hM.1 rfl ?_
      refine r_bipush (v := 16) hX d_Mo_move_108 (by decide) ?_
      refine q_iload hX 2 d_Mo_move_110 rfl (by first | rfl | assumption) ?_
      refine r_imul hX d_Mo_move_111 ?_
      refine q_iload hX 3 d_Mo_move_112 rfl (by first | rfl | assumption) ?_
      refine r_iadd hX d_Mo_move_113 ?_
      refine q_aload hX 0 d_Mo_move_114 rfl (by first | rfl | assumption) ?_
      refine r_getf hX d_Mo_move_115 fl_Mo_23 hM.1 rfl ?_
      refine r_bipush (v := 16) hX d_Mo_move_118 (by decide) ?_
      refine q_iload hX 1 d_Mo_move_120 rfl (by first | rfl | assumption) ?_
      refine r_imul hX d_Mo_move_121 ?_
      refine q_iload hX 3 d_Mo_move_122 rfl (by first | rfl | assumption) ?_
      refine r_iadd hX d_Mo_move_123 ?_
      refine r_ialdm (c := 122) (x := A.1 122 (16 * f + i)) hX d_Mo_move_124 hM rfl (j := 16 * f + i) (by rw [show (16 : Int32) = nI 16 from rfl, nI_ml, nI_add]) (by omega) (g4 _ (by omega)) ?_
      refine r_iastm (c := 122) hX d_Mo_move_125 hM hs rfl (j := 16 * t + i) (by rw [show (16 : Int32) = nI 16 from rfl, nI_ml, nI_add]) (by omega) (fun w hM hs => ?_)
      refine r_iinc hX d_Mo_move_126 (by first | rfl | assumption) ?_
      refine r_goto hX 98 d_Mo_move_129 (by decide) ?_
      refine ih (i + 1) _ w _ (by omega) hM hs (fun q h1 => ?_) g2 (fun x hx => ?_) (fun x hx => ?_) l0 l1 l2 (by show some (Value.int (nI i + Int32.ofInt 1)) = _; rw [show Int32.ofInt 1 = 1 from rfl, nI_1])
      · rw [aset_ne _ _ _ h1]; exact g1 q h1
      · by_cases z : x = i
        · subst z; rw [aset_self]
        · rw [aset_off _ _ _ _ _ _ (Or.inr (by omega))]; exact g3 x (by omega)
      · rw [aset_off _ _ _ _ _ _ (Or.inr (by omega))]; exact g4 x hx
  have hs : mo_sm w w := mo_sm.rf
  refine q_aload hX 0 d_Mo_move_0 rfl (by first | rfl | assumption) ?_
  refine r_getf hX d_Mo_move_1 fl_Mo_7 hM.1 rfl ?_
  refine q_iload hX 2 d_Mo_move_4 rfl (by first | rfl | assumption) ?_
  refine q_aload hX 0 d_Mo_move_5 rfl (by first | rfl | assumption) ?_
  refine r_getf hX d_Mo_move_6 fl_Mo_7 hM.1 rfl ?_
  refine q_iload hX 1 d_Mo_move_9 rfl (by first | rfl | assumption) ?_
  refine r_ialdm (c := 118) (x := A.1 118 f) hX d_Mo_move_10 hM rfl rfl (by omega) rfl ?_
  refine r_iastm (c := 118) hX d_Mo_move_11 hM hs rfl rfl (by omega) (fun w hM hs => ?_)
  refine q_aload hX 0 d_Mo_move_12 rfl (by first | rfl | assumption) ?_
  refine r_getf hX d_Mo_move_13 fl_Mo_13 hM.1 rfl ?_
  refine q_iload hX 2 d_Mo_move_16 rfl (by first | rfl | assumption) ?_
  refine q_aload hX 0 d_Mo_move_17 rfl (by first | rfl | assumption) ?_
  refine r_getf hX d_Mo_move_18 fl_Mo_13 hM.1 rfl ?_
  refine q_iload hX 1 d_Mo_move_21 rfl (by first | rfl | assumption) ?_
  refine r_ialdm (c := 119) (x := A.1 119 f) hX d_Mo_move_22 hM rfl rfl (by omega) rfl ?_
  refine r_iastm (c := 119) hX d_Mo_move_23 hM hs rfl rfl (by omega) (fun w hM hs => ?_)
  refine q_aload hX 0 d_Mo_move_24 rfl (by first | rfl | assumption) ?_
  refine r_getf hX d_Mo_move_25 fl_Mo_16 hM.1 rfl ?_
  refine q_iload hX 2 d_Mo_move_28 rfl (by first | rfl | assumption) ?_
  refine q_aload hX 0 d_Mo_move_29 rfl (by first | rfl | assumption) ?_
  refine r_getf hX d_Mo_move_30 fl_Mo_16 hM.1 rfl ?_
  refine q_iload hX 1 d_Mo_move_33 rfl (by first | rfl | assumption) ?_
  refine r_laldm (x := A.2 f) hX d_Mo_move_34 hM rfl (by omega) rfl ?_
  refine r_lastm hX d_Mo_move_35 hM hs rfl (by omega) (fun w hM hs => ?_)
  refine q_aload hX 0 d_Mo_move_36 rfl (by first | rfl | assumption) ?_
  refine r_getf hX d_Mo_move_37 fl_Mo_20 hM.1 rfl ?_
  refine q_iload hX 2 d_Mo_move_40 rfl (by first | rfl | assumption) ?_
  refine q_aload hX 0 d_Mo_move_41 rfl (by first | rfl | assumption) ?_
  refine r_getf hX d_Mo_move_42 fl_Mo_20 hM.1 rfl ?_
  refine q_iload hX 1 d_Mo_move_45 rfl (by first | rfl | assumption) ?_
  refine r_ialdm (c := 121) (x := A.1 121 f) hX d_Mo_move_46 hM rfl rfl (by omega) rfl ?_
  refine r_iastm (c := 121) hX d_Mo_move_47 hM hs rfl rfl (by omega) (fun w hM hs => ?_)
  refine q_aload hX 0 d_Mo_move_48 rfl (by first | rfl | assumption) ?_
  refine r_getf hX d_Mo_move_49 fl_Mo_26 hM.1 rfl ?_
  refine q_iload hX 2 d_Mo_move_52 rfl (by first | rfl | assumption) ?_
  refine q_aload hX 0 d_Mo_move_53 rfl (by first | rfl | assumption) ?_
  refine r_getf hX d_Mo_move_54 fl_Mo_26 hM.1 rfl ?_
  refine q_iload hX 1 d_Mo_move_57 rfl (by first | rfl | assumption) ?_
  refine r_ialdm (c := 123) (x := A.1 123 f) hX d_Mo_move_58 hM rfl rfl (by omega) rfl ?_
  refine r_iastm (c := 123) hX d_Mo_move_59 hM hs rfl rfl (by omega) (fun w hM hs => ?_)
  refine q_aload hX 0 d_Mo_move_60 rfl (by first | rfl | assumption) ?_
  refine r_getf hX d_Mo_move_61 fl_Mo_29 hM.1 rfl ?_
  refine q_iload hX 2 d_Mo_move_64 rfl (by first | rfl | assumption) ?_
  refine q_aload hX 0 d_Mo_move_65 rfl (by first | rfl | assumption) ?_
  refine r_getf hX d_Mo_move_66 fl_Mo_29 hM.1 rfl ?_
  refine q_iload hX 1 d_Mo_move_69 rfl (by first | rfl | assumption) ?_
  refine r_ialdm (c := 124) (x := A.1 124 f) hX d_Mo_move_70 hM rfl rfl (by omega) rfl ?_
  refine r_iastm (c := 124) hX d_Mo_move_71 hM hs rfl rfl (by omega) (fun w hM hs => ?_)
  refine q_aload hX 0 d_Mo_move_72 rfl (by first | rfl | assumption) ?_
  refine r_getf hX d_Mo_move_73 fl_Mo_32 hM.1 rfl ?_
  refine q_iload hX 2 d_Mo_move_76 rfl (by first | rfl | assumption) ?_
  refine q_aload hX 0 d_Mo_move_77 rfl (by first | rfl | assumption) ?_
  refine r_getf hX d_Mo_move_78 fl_Mo_32 hM.1 rfl ?_
  refine q_iload hX 1 d_Mo_move_81 rfl (by first | rfl | assumption) ?_
  refine r_zaldm (c := 125) (x := A.1 125 f) hX d_Mo_move_82 hM rfl rfl (by omega) rfl ?_
  refine r_zastn (c := 125) hX d_Mo_move_83 hM hs rfl rfl (by omega) (fun w hM hs => ?_)
  refine q_aload hX 0 d_Mo_move_84 rfl (by first | rfl | assumption) ?_
  refine r_getf hX d_Mo_move_85 fl_Mo_36 hM.1 rfl ?_
  refine q_iload hX 2 d_Mo_move_88 rfl (by first | rfl | assumption) ?_
  refine q_aload hX 0 d_Mo_move_89 rfl (by first | rfl | assumption) ?_
  refine r_getf hX d_Mo_move_90 fl_Mo_36 hM.1 rfl ?_
  refine q_iload hX 1 d_Mo_move_93 rfl (by first | rfl | assumption) ?_
  refine r_ialdm (c := 126) (x := A.1 126 f) hX d_Mo_move_94 hM rfl rfl (by omega) rfl ?_
  refine r_iastm (c := 126) hX d_Mo_move_95 hM hs rfl rfl (by omega) (fun w hM hs => ?_)
  refine r_iconst (v := 0) hX d_Mo_move_96 (by decide) ?_
  refine q_istore hX 3 d_Mo_move_97 rfl (by decide) ?_
  exact loop1 _ (mv_8_of A f t hft) 16 0 _ w _ rfl hM hs (fun _ _ => rfl) rfl (fun x hx => by omega) (fun x _ => rfl) rfl rfl rfl rfl
