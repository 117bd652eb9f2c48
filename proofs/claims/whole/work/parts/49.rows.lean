/-! ===== the reference: its rows, and what only looks at them ===== -/
/-- amount, stored size, sizes of frames, where stored -/
abbrev Ev_D : Type := Nat × Nat × (Nat → Nat) × Nat
/-- what an element's data are in the class -/
def el_D (E : Ev_E) (pf : Nat → Int32) (D : Ev_D) (sd : Nat) : Prop :=
  E.1 = so_of (E.2.2.2 0) ∧ 0 < (E.2.2.2 0).toInt ∧ (so_fm E.1 = 2 ∨ so_fm E.1 = 3 ∨ so_fm E.1 = 5 ∨ so_fm E.1 = 6 → E.2.2.1 = lN D.1 ∧ D.1 ≤ 640) ∧ (so_fm E.1 = 2 → D.1 ≤ 16) ∧
  (so_fm E.1 = 3 → 1 ≤ D.1 ∧ D.1 ≤ 8 ∧ (∀ i, i < D.1 → pf i = nI (D.2.2.1 i) ∧ D.2.2.1 i ≤ 640) ∧ D.2.1 = sm_N D.2.2.1 D.1 ∧ 1 ≤ (E.2.2.2 5).toInt ∧ (E.2.2.2 5).toInt ≤ 126 ∧ -32768 ≤ (E.2.2.2 6).toInt ∧ (E.2.2.2 6).toInt ≤ 32767 ∧ (E.2.2.2 7 = 0 ∨ E.2.2.2 7 = 1) ∧ 0 ≤ (E.2.2.2 8).toInt ∧ (E.2.2.2 8).toInt ≤ 3) ∧
  (so_fm E.1 = 6 → D.2.1 = D.1) ∧ (so_fm E.1 = 3 ∨ so_fm E.1 = 6 → E.2.2.2 3 = nI D.2.2.2 ∧ E.2.2.2 4 = nI D.2.1 ∧ D.2.2.2 + D.2.1 ≤ sd) ∧ (so_fm E.1 = 4 → E.2.2.1 = 0)
/-- the reference's row for it -/
def mq (A : Ev_A) (k : Nat) (E : Ev_E) (pf : Nat → Int32) (D : Ev_D) : Prop :=
  A.1 118 k = E.2.2.2 0 ∧ (so_fm E.1 = 1 → A.2 k = E.2.2.1) ∧ (so_fm E.1 = 2 ∨ so_fm E.1 = 3 ∨ so_fm E.1 = 5 ∨ so_fm E.1 = 6 → A.1 121 k = nI D.1) ∧ (so_fm E.1 = 2 → ∀ i, i < D.1 → A.1 122 (16 * k + i) = pf i) ∧
  (so_fm E.1 = 3 → A.1 123 k = E.2.2.2 5 ∧ A.1 124 k = E.2.2.2 6 ∧ A.1 125 k = E.2.2.2 7 ∧ A.1 126 k = E.2.2.2 8 ∧ ∀ i, i < D.1 → A.1 127 (8 * k + i) = nI (D.2.2.1 i) ∧ A.1 128 (8 * k + i) = nI (D.2.2.2 + sm_N D.2.2.1 i)) ∧ (so_fm E.1 = 6 → A.1 128 (8 * k) = nI D.2.2.2)
def mdl (I : Nat → Int32) (A : Ev_A) (S : Ev_S) (D : Nat → Ev_D) (sf : Nat → Int32) (sd : Nat) : Prop :=
  I 0 = nI (sn S) ∧ sn S ≤ 60 ∧ I 1 = nI sd ∧ sd ≤ 1200 ∧ is_po (sn S) (sE S) (si S) ∧ pl_ok (sn S) (sE S) (si S) ∧ (∀ k, k < sn S → el_D (sE S k) (sP S k) (D k) sd ∧ mq A k (sE S k) (sP S k) (D k) ∧ A.1 119 k = o_i (si S k)) ∧ ∀ j, j < sd → A.1 129 j = sf j
def mo_is (A : Ev_A) (n : Nat) (k id : Int32) : Bool := match ix n k with
  | none => false
  | some j => decide (A.1 118 j = id)
def mo_ik (A : Ev_A) (n : Nat) (k kd : Int32) : Bool := match ix n k with
  | none => false
  | some j => decide (so_fm (so_of (A.1 118 j)) = kd)
theorem nI_m1 {l : Nat} (h : 0 < l) : nI l + Int32.ofInt (-1) = nI (l - 1) := by rw [i_dec, nI_1m h]
theorem nI_nm1 {j : Nat} (hj : j < 2 ^ 31) : ¬ (-1 : Int32) = nI j := fun h => by
  have h2 : (-1 : Int32).toInt = (nI j).toInt := by rw [h]
  rw [nI_toInt hj, show (-1 : Int32).toInt = -1 from rfl] at h2
  omega
theorem o_i_eq {o : Option Nat} {j : Nat} (hj : j < 2 ^ 31) (ho : ∀ x, o = some x → x < 2 ^ 31) : o_i o = nI j ↔ o = some j := by
  cases o with
  | none =>
    constructor
    · intro h
      have h2 : (-1 : Int32).toInt = (nI j).toInt := by rw [← h]; rfl
      rw [nI_toInt hj] at h2
      exact absurd h2 (by rw [show (-1 : Int32).toInt = -1 from rfl]; omega)
    · intro h; cases h
  | some x => exact ⟨fun h => by rw [(nI_eq (ho x rfl) hj).mp h], fun h => by cases h; rfl⟩
theorem ix_nI {n j : Nat} (hj : j < n) (hn : n < 2 ^ 31) : ix n (nI j) = some j := by rw [ix, nI_toInt (by omega), if_pos ⟨by omega, by omega⟩, nI_clamp (by omega)]
theorem tg_iff {tg : Int32} {s : Nat} (hs : s < 16) : tg = so_tg s ↔ so_of tg = s := by
  constructor
  · intro h; subst h
    have : ∀ s, s < 16 → so_of (so_tg s) = s := by decide +kernel
    exact this s hs
  · intro h
    rcases so_of_tg tg with ⟨t, h1, h2, h3⟩ | ⟨h1, h2⟩
    · rw [h2, ← h, h3]
    · omega
theorem c_Mo_isElement {G : Ev_G} {w : Ev_W} {I : Nat → Int32} {v0 : Int64} {A : Ev_A} (hM : is_M w I v0 A) {n : Nat} (hc : I 0 = nI n) (hn : n ≤ 60) (k : Int32) : ev_Met G M_Mo_isElement 0 0 0 [.ref 117, .int k] w (fun v w' => v = some (.int (b_i (ix n k).isSome)) ∧ w' = w) := by
  refine ev_Met.of md_Mo_isElement (Nat.le_of_ble_eq_true rfl) (fun X hX hR => ?_)
  rcases ix_cases (n := n) (by omega) k with ⟨j, hj, rfl, hix⟩ | ⟨hix, hno⟩
  · refine q_iload hX 1 d_Mo_isElement_0 rfl (by first | rfl | assumption) ?_
    refine r_if_lt hX 16 d_Mo_isElement_1 (by decide) (fun c1 => absurd c1 (nI_pos (by omega))) (fun _ => ?_)
    refine q_iload hX 1 d_Mo_isElement_4 rfl (by first | rfl | assumption) ?_
    refine q_aload hX 0 d_Mo_isElement_5 rfl (by first | rfl | assumption) ?_
    refine r_getm (J := 0) (x := nI n) hX d_Mo_isElement_6 fl_Mo_86 hM hc rfl ?_
    refine r_icmp_ge hX 16 d_Mo_isElement_9 (by decide) (fun c9 => absurd c9 (nI_ge hj (by omega))) (fun _ => ?_)
    refine r_iconst (v := 1) hX d_Mo_isElement_12 (by decide) ?_
    refine r_goto hX 17 d_Mo_isElement_13 (by decide) ?_
    refine r_iret hX hR d_Mo_isElement_17 rfl (by first | rfl | assumption) ?_
    exact ⟨by rw [hix]; rfl, rfl⟩
  · refine q_iload hX 1 d_Mo_isElement_0 rfl (by first | rfl | assumption) ?_
    refine r_if_lt hX 16 d_Mo_isElement_1 (by decide) (fun c1 => ?_) (fun c1 => ?_)
    · refine r_iconst (v := 0) hX d_Mo_isElement_16 (by decide) ?_
      refine r_iret hX hR d_Mo_isElement_17 rfl (by first | rfl | assumption) ?_
      exact ⟨by rw [hix]; rfl, rfl⟩
    · refine q_iload hX 1 d_Mo_isElement_4 rfl (by first | rfl | assumption) ?_
      refine q_aload hX 0 d_Mo_isElement_5 rfl (by first | rfl | assumption) ?_
      refine r_getm (J := 0) (x := nI n) hX d_Mo_isElement_6 fl_Mo_86 hM hc rfl ?_
      refine r_icmp_ge hX 16 d_Mo_isElement_9 (by decide) (fun c9 => ?_) (fun c9 => ?_)
      · refine r_iconst (v := 0) hX d_Mo_isElement_16 (by decide) ?_
        refine r_iret hX hR d_Mo_isElement_17 rfl (by first | rfl | assumption) ?_
        exact ⟨by rw [hix]; rfl, rfl⟩
      · refine r_iconst (v := 1) hX d_Mo_isElement_12 (by decide) ?_
        refine r_goto hX 17 d_Mo_isElement_13 (by decide) ?_
        refine r_iret hX hR d_Mo_isElement_17 rfl (by first | rfl | assumption) ?_
        exact absurd ⟨by rw [i_lt, i_0] at c1; omega, by rw [i_le, nI_toInt (by omega)] at c9; omega⟩ hno
theorem c_Mo_is {G : Ev_G} {w : Ev_W} {I : Nat → Int32} {v0 : Int64} {A : Ev_A} (hM : is_M w I v0 A) {n : Nat} (hc : I 0 = nI n) (hn : n ≤ 60) (k id : Int32) : ev_Met G M_Mo_is 1 0 0 [.ref 117, .int k, .int id] w (fun v w' => v = some (.int (b_i (mo_is A n k id))) ∧ w' = w) := by
  refine ev_Met.of md_Mo_is (Nat.le_of_ble_eq_true rfl) (fun X hX hR => ?_)
  rcases ix_cases (n := n) (by omega) k with ⟨j, hj, rfl, hix⟩ | ⟨hix, hno⟩
  · refine q_aload hX 0 d_Mo_is_0 rfl (by first | rfl | assumption) ?_
    refine q_iload hX 1 d_Mo_is_1 rfl (by first | rfl | assumption) ?_
    refine r_callV (as := [_]) hX d_Mo_is_2 lk_Mo_89 hM.1 rfl rfl (Nat.le_of_ble_eq_true rfl) (by decide) 0 0 (Nat.le_refl _) (Nat.le_refl _) (c_Mo_isElement (G := G) hM hc hn _) (fun v w1 hq => ?_)
    obtain ⟨rfl, hw⟩ := hq
    rw [hw, hix]
    rw [show b_i (some j).isSome = 1 from rfl]
    refine r_if_eq hX 22 d_Mo_is_5 (by decide) (fun c5 => absurd c5 (by decide)) (fun _ => ?_)
    refine q_aload hX 0 d_Mo_is_8 rfl (by first | rfl | assumption) ?_
    refine r_getf hX d_Mo_is_9 fl_Mo_7 hM.1 rfl ?_
    refine q_iload hX 1 d_Mo_is_12 rfl (by first | rfl | assumption) ?_
    refine r_ialdm (c := 118) (x := _) hX d_Mo_is_13 hM rfl rfl (by omega) rfl ?_
    refine q_iload hX 2 d_Mo_is_14 rfl (by first | rfl | assumption) ?_
    refine r_icmp_ne hX 22 d_Mo_is_15 (by decide) (fun c15 => ?_) (fun c15 => ?_)
    · refine r_iconst (v := 0) hX d_Mo_is_22 (by decide) ?_
      refine r_iret hX hR d_Mo_is_23 rfl (by first | rfl | assumption) ?_
      exact ⟨by rw [mo_is, hix]; dsimp only; rw [decide_eq_false c15]; rfl, rfl⟩
    · refine r_iconst (v := 1) hX d_Mo_is_18 (by decide) ?_
      refine r_goto hX 23 d_Mo_is_19 (by decide) ?_
      refine r_iret hX hR d_Mo_is_23 rfl (by first | rfl | assumption) ?_
      exact ⟨by rw [mo_is, hix]; dsimp only; rw [decide_eq_true c15]; rfl, rfl⟩
  · refine q_aload hX 0 d_Mo_is_0 rfl (by first | rfl | assumption) ?_
    refine q_iload hX 1 d_Mo_is_1 rfl (by first | rfl | assumption) ?_
    refine r_callV (as := [_]) hX d_Mo_is_2 lk_Mo_89 hM.1 rfl rfl (Nat.le_of_ble_eq_true rfl) (by decide) 0 0 (Nat.le_refl _) (Nat.le_refl _) (c_Mo_isElement (G := G) hM hc hn _) (fun v w1 hq => ?_)
    obtain ⟨rfl, hw⟩ := hq
    rw [hw, hix]
    rw [show b_i (none : Option Nat).isSome = 0 from rfl]
    refine r_if_eq hX 22 d_Mo_is_5 (by decide) (fun _ => ?_) (fun c5 => absurd rfl c5)
    refine r_iconst (v := 0) hX d_Mo_is_22 (by decide) ?_
    refine r_iret hX hR d_Mo_is_23 rfl (by first | rfl | assumption) ?_
    exact ⟨by rw [mo_is, hix]; rfl, rfl⟩
theorem c_Mo_isKind {G : Ev_G} {w : Ev_W} {I : Nat → Int32} {v0 : Int64} {A : Ev_A} (hM : is_M w I v0 A) {n : Nat} (hc : I 0 = nI n) (hn : n ≤ 60) (k kd : Int32) : ev_Met G M_Mo_isKind 1 0 0 [.ref 117, .int k, .int kd] w (fun v w' => v = some (.int (b_i (mo_ik A n k kd))) ∧ w' = w) := by
  refine ev_Met.of md_Mo_isKind (Nat.le_of_ble_eq_true rfl) (fun X hX hR => ?_)
  rcases ix_cases (n := n) (by omega) k with ⟨j, hj, rfl, hix⟩ | ⟨hix, hno⟩
  · refine q_aload hX 0 d_Mo_isKind_0 rfl (by first | rfl | assumption) ?_
    refine q_iload hX 1 d_Mo_isKind_1 rfl (by first | rfl | assumption) ?_
    refine r_callV (as := [_]) hX d_Mo_isKind_2 lk_Mo_89 hM.1 rfl rfl (Nat.le_of_ble_eq_true rfl) (by decide) 0 0 (Nat.le_refl _) (Nat.le_refl _) (c_Mo_isElement (G := G) hM hc hn _) (fun v w1 hq => ?_)
    obtain ⟨rfl, hw⟩ := hq
    rw [hw, hix]
    rw [show b_i (some j).isSome = 1 from rfl]
    refine r_if_eq hX 25 d_Mo_isKind_5 (by decide) (fun c5 => absurd c5 (by decide)) (fun _ => ?_)
    refine q_aload hX 0 d_Mo_isKind_8 rfl (by first | rfl | assumption) ?_
    refine r_getf hX d_Mo_isKind_9 fl_Mo_7 hM.1 rfl ?_
    refine q_iload hX 1 d_Mo_isKind_12 rfl (by first | rfl | assumption) ?_
    refine r_ialdm (c := 118) (x := _) hX d_Mo_isKind_13 hM rfl rfl (by omega) rfl ?_
    refine r_callS (as := [_]) hX d_Mo_isKind_14 lk_Mo_82 rfl (Nat.le_of_ble_eq_true rfl) (by decide) 0 0 (Nat.le_refl _) (Nat.le_refl _) (c_Mo_kindOf (G := G) _) (fun v w1 hq => ?_)
    obtain ⟨rfl, hw⟩ := hq
    rw [hw]
    refine q_iload hX 2 d_Mo_isKind_17 rfl (by first | rfl | assumption) ?_
    refine r_icmp_ne hX 25 d_Mo_isKind_18 (by decide) (fun c18 => ?_) (fun c18 => ?_)
    · refine r_iconst (v := 0) hX d_Mo_isKind_25 (by decide) ?_
      refine r_iret hX hR d_Mo_isKind_26 rfl (by first | rfl | assumption) ?_
      exact ⟨by rw [mo_ik, hix]; dsimp only; rw [decide_eq_false c18]; rfl, rfl⟩
    · refine r_iconst (v := 1) hX d_Mo_isKind_21 (by decide) ?_
      refine r_goto hX 26 d_Mo_isKind_22 (by decide) ?_
      refine r_iret hX hR d_Mo_isKind_26 rfl (by first | rfl | assumption) ?_
      exact ⟨by rw [mo_ik, hix]; dsimp only; rw [decide_eq_true c18]; rfl, rfl⟩
  · refine q_aload hX 0 d_Mo_isKind_0 rfl (by first | rfl | assumption) ?_
    refine q_iload hX 1 d_Mo_isKind_1 rfl (by first | rfl | assumption) ?_
    refine r_callV (as := [_]) hX d_Mo_isKind_2 lk_Mo_89 hM.1 rfl rfl (Nat.le_of_ble_eq_true rfl) (by decide) 0 0 (Nat.le_refl _) (Nat.le_refl _) (c_Mo_isElement (G := G) hM hc hn _) (fun v w1 hq => ?_)
    obtain ⟨rfl, hw⟩ := hq
    rw [hw, hix]
    rw [show b_i (none : Option Nat).isSome = 0 from rfl]
    refine r_if_eq hX 25 d_Mo_isKind_5 (by decide) (fun _ => ?_) (fun c5 => absurd rfl c5)
    refine r_iconst (v := 0) hX d_Mo_isKind_25 (by decide) ?_
    refine r_iret hX hR d_Mo_isKind_26 rfl (by first | rfl | assumption) ?_
    exact ⟨by rw [mo_ik, hix]; rfl, rfl⟩
theorem c_Mo_children {G : Ev_G} {w : Ev_W} {I : Nat → Int32} {v0 : Int64} {A : Ev_A} (hM : is_M w I v0 A) {n : Nat} (hc : I 0 = nI n) (hn : n ≤ 60) (k : Int32) : ev_Met G M_Mo_children 0 0 0 [.ref 117, .int k] w (fun v w' => v = some (.int (nI (sc_n (fun x => decide (A.1 119 x = k)) n 0))) ∧ w' = w) := by
  refine ev_Met.of md_Mo_children (Nat.le_of_ble_eq_true rfl) (fun X hX hR => ?_)
  have loop : ∀ (t i a : Nat) (ls : Ev_L), i + t = n → a ≤ i → a + sc_n (fun x => decide (A.1 119 x = k)) t i = sc_n (fun x => decide (A.1 119 x = k)) n 0 → ls.1 0 = some (.ref 117) → ls.1 1 = some (.int k) → ls.1 2 = some (.int (nI a)) → ls.1 3 = some (.int (nI i)) → ev_W G M_Mo_children X 0 0 4 ls [] w := by
    intro t
    induction t with
    | zero =>
      intro i a ls e1 e0 e2 l0 l1 l2 l3
      refine q_iload hX 3 d_Mo_children_4 rfl (by first | rfl | assumption) ?_
      refine q_aload hX 0 d_Mo_children_5 rfl (by first | rfl | assumption) ?_
      refine r_getm (J := 0) (x := nI n) hX d_Mo_children_6 fl_Mo_86 hM hc rfl ?_
      refine r_icmp_ge hX 36 d_Mo_children_9 (by decide) (fun _ => ?_) (fun c9 => absurd (nI_le (by omega) (by omega)) c9)
      refine q_iload hX 2 d_Mo_children_36 rfl (by first | rfl | assumption) ?_
      refine r_iret hX hR d_Mo_children_37 rfl (by first | rfl | assumption) ?_
      exact ⟨by rw [← e2]; rfl, rfl⟩
    | succ t ih =>
      intro i a ls e1 e0 e2 l0 l1 l2 l3
      refine q_iload hX 3 d_Mo_children_4 rfl (by first | rfl | assumption) ?_
      refine q_aload hX 0 d_Mo_children_5 rfl (by first | rfl | assumption) ?_
      refine r_getm (J := 0) (x := nI n) hX d_Mo_children_6 fl_Mo_86 hM hc rfl ?_
      refine r_icmp_ge hX 36 d_Mo_children_9 (by decide) (fun c9 => absurd c9 (nI_ge (by omega) (by omega))) (fun _ => ?_)
      refine q_aload hX 0 d_Mo_children_12 rfl (by first | rfl | assumption) ?_
      refine r_getf hX d_Mo_children_13 fl_Mo_13 hM.1 rfl ?_
      refine q_iload hX 3 d_Mo_children_16 rfl (by first | rfl | assumption) ?_
      refine r_ialdm (c := 119) (x := _) hX d_Mo_children_17 hM rfl rfl (by omega) rfl ?_
      refine q_iload hX 1 d_Mo_children_18 rfl (by first | rfl | assumption) ?_
      refine r_icmp_ne hX 28 d_Mo_children_19 (by decide) (fun c19 => ?_) (fun c19 => ?_)
      · refine q_iload hX 2 d_Mo_children_28 rfl (by first | rfl | assumption) ?_
        refine q_istore hX 2 d_Mo_children_29 rfl (by decide) ?_
        refine r_iinc hX d_Mo_children_30 (by first | rfl | assumption) ?_
        refine r_goto hX 4 d_Mo_children_33 (by decide) ?_
        exact ih (i + 1) a _ (by omega) (by omega) (by rw [← e2, sc_n, if_neg (by simpa using c19), Nat.zero_add]) l0 l1 rfl (by show some (Value.int (nI i + Int32.ofInt 1)) = _; rw [show Int32.ofInt 1 = 1 from rfl, nI_1])
      · refine q_iload hX 2 d_Mo_children_22 rfl (by first | rfl | assumption) ?_
        refine r_iconst (v := 1) hX d_Mo_children_23 (by decide) ?_
        refine r_iadd hX d_Mo_children_24 ?_
        refine r_goto hX 29 d_Mo_children_25 (by decide) ?_
        refine q_istore hX 2 d_Mo_children_29 rfl (by decide) ?_
        refine r_iinc hX d_Mo_children_30 (by first | rfl | assumption) ?_
        refine r_goto hX 4 d_Mo_children_33 (by decide) ?_
        exact ih (i + 1) (a + 1) _ (by omega) (by omega) (by rw [← e2, sc_n, if_pos (decide_eq_true c19)]; omega) l0 l1 (by show some (Value.int (nI a + 1)) = _; rw [nI_1]) (by show some (Value.int (nI i + Int32.ofInt 1)) = _; rw [show Int32.ofInt 1 = 1 from rfl, nI_1])
  refine r_iconst (v := 0) hX d_Mo_children_0 (by decide) ?_
  refine q_istore hX 2 d_Mo_children_1 rfl (by decide) ?_
  refine r_iconst (v := 0) hX d_Mo_children_2 (by decide) ?_
  refine q_istore hX 3 d_Mo_children_3 rfl (by decide) ?_
  exact loop n 0 0 _ (by omega) (by omega) (by omega) rfl rfl rfl rfl
theorem c_Mo_child {G : Ev_G} {w : Ev_W} {I : Nat → Int32} {v0 : Int64} {A : Ev_A} (hM : is_M w I v0 A) {n : Nat} (hc : I 0 = nI n) (hn : n ≤ 60) (k : Int32) (l0 : Nat) (hl : l0 < 2 ^ 31) : ev_Met G M_Mo_child 0 0 0 [.ref 117, .int k, .int (nI l0)] w (fun v w' => v = some (.int (o_i (sc_c (fun x => decide (A.1 119 x = k)) n 0 l0))) ∧ w' = w) := by
  refine ev_Met.of md_Mo_child (Nat.le_of_ble_eq_true rfl) (fun X hX hR => ?_)
  have loop : ∀ (t i l : Nat) (ls : Ev_L), i + t = n → l < 2 ^ 31 → sc_c (fun x => decide (A.1 119 x = k)) t i l = sc_c (fun x => decide (A.1 119 x = k)) n 0 l0 → ls.1 0 = some (.ref 117) → ls.1 1 = some (.int k) → ls.1 2 = some (.int (nI l0)) → ls.1 3 = some (.int (nI l)) → ls.1 4 = some (.int (nI i)) → ev_W G M_Mo_child X 0 0 5 ls [] w := by
    intro t
    induction t with
    | zero =>
      intro i l ls e1 e0 e2 h0 h1 h2 h3 h4
      refine r_iload hX d_Mo_child_5 (by first | rfl | assumption) ?_
      refine q_aload hX 0 d_Mo_child_7 rfl (by first | rfl | assumption) ?_
      refine r_getm (J := 0) (x := nI n) hX d_Mo_child_8 fl_Mo_86 hM hc rfl ?_
      refine r_icmp_ge hX 45 d_Mo_child_11 (by decide) (fun _ => ?_) (fun c11 => absurd (nI_le (by omega) (by omega)) c11)
      refine r_iconst (v := -1) hX d_Mo_child_45 (by decide) ?_
      refine r_iret hX hR d_Mo_child_46 rfl (by first | rfl | assumption) ?_
      exact ⟨by rw [← e2]; rfl, rfl⟩
    | succ t ih =>
      intro i l ls e1 e0 e2 h0 h1 h2 h3 h4
      refine r_iload hX d_Mo_child_5 (by first | rfl | assumption) ?_
      refine q_aload hX 0 d_Mo_child_7 rfl (by first | rfl | assumption) ?_
      refine r_getm (J := 0) (x := nI n) hX d_Mo_child_8 fl_Mo_86 hM hc rfl ?_
      refine r_icmp_ge hX 45 d_Mo_child_11 (by decide) (fun c11 => absurd c11 (nI_ge (by omega) (by omega))) (fun _ => ?_)
      refine q_iload hX 2 d_Mo_child_14 rfl (by first | rfl | assumption) ?_
      refine r_if_lt hX 45 d_Mo_child_15 (by decide) (fun c15 => absurd c15 (nI_pos hl)) (fun _ => ?_)
      refine q_aload hX 0 d_Mo_child_18 rfl (by first | rfl | assumption) ?_
      refine r_getf hX d_Mo_child_19 fl_Mo_13 hM.1 rfl ?_
      refine r_iload hX d_Mo_child_22 (by first | rfl | assumption) ?_
      refine r_ialdm (c := 119) (x := _) hX d_Mo_child_24 hM rfl rfl (by omega) rfl ?_
      refine q_iload hX 1 d_Mo_child_25 rfl (by first | rfl | assumption) ?_
      refine r_icmp_ne hX 39 d_Mo_child_26 (by decide) (fun c26 => ?_) (fun c26 => ?_)
      · refine r_iinc hX d_Mo_child_39 (by first | rfl | assumption) ?_
        refine r_goto hX 5 d_Mo_child_42 (by decide) ?_
        exact ih (i + 1) l _ (by omega) e0 (by rw [← e2, sc_c, if_neg (by simpa using c26)]) h0 h1 h2 h3 (by show some (Value.int (nI i + Int32.ofInt 1)) = _; rw [show Int32.ofInt 1 = 1 from rfl, nI_1])
      · refine q_iload hX 3 d_Mo_child_29 rfl (by first | rfl | assumption) ?_
        refine r_if_ne hX 36 d_Mo_child_30 (by decide) (fun c30 => ?_) (fun c30 => ?_)
        · refine r_iinc hX d_Mo_child_36 (by first | rfl | assumption) ?_
          refine r_iinc hX d_Mo_child_39 (by first | rfl | assumption) ?_
          refine r_goto hX 5 d_Mo_child_42 (by decide) ?_
          exact ih (i + 1) (l - 1) _ (by omega) (by omega) (by rw [← e2, sc_c, if_pos (decide_eq_true c26), if_neg (fun z => c30 (by rw [z]; rfl))]) h0 h1 h2 (by show some (Value.int (nI l + Int32.ofInt (-1))) = _; rw [nI_m1 (Nat.pos_of_ne_zero (fun z => c30 (by rw [z]; rfl)))]) (by show some (Value.int (nI i + Int32.ofInt 1)) = _; rw [show Int32.ofInt 1 = 1 from rfl, nI_1])
        · refine r_iload hX d_Mo_child_33 (by first | rfl | assumption) ?_
          refine r_iret hX hR d_Mo_child_35 rfl (by first | rfl | assumption) ?_
          exact ⟨by rw [← e2, sc_c, if_pos (decide_eq_true c26), if_pos ((nI_eq (b := 0) e0 (by decide)).mp c30)]; rfl, rfl⟩
  refine q_iload hX 2 d_Mo_child_0 rfl (by first | rfl | assumption) ?_
  refine q_istore hX 3 d_Mo_child_1 rfl (by decide) ?_
  refine r_iconst (v := 0) hX d_Mo_child_2 (by decide) ?_
  refine r_istore hX d_Mo_child_3 (by decide) ?_
  exact loop n 0 l0 _ (by omega) hl rfl rfl rfl rfl rfl rfl
theorem c_Mo_isIn {G : Ev_G} {w : Ev_W} {I : Nat → Int32} {v0 : Int64} {A : Ev_A} (hM : is_M w I v0 A) {n : Nat} (hc : I 0 = nI n) (hn : n ≤ 60) {E : Nat → Ev_E} {mi : Nat → Option Nat} (hmas : ∀ x, x < n → A.1 119 x = o_i (mi x)) (hpo : is_po n E mi) {i j : Nat} (hi : i < n) (hji : j < i) : ev_Met G M_Mo_isIn 0 0 0 [.ref 117, .int (nI i), .int (nI j)] w (fun v w' => v = some (.int (b_i (decide (i < tr_end (el_lev E) n j)))) ∧ w' = w) := by
  refine ev_Met.of md_Mo_isIn (Nat.le_of_ble_eq_true rfl) (fun X hX hR => ?_)
  have hj60 : j < 2 ^ 31 := by omega
  have loop : ∀ (f x : Nat) (ls : Ev_L), x < f → j < x → x < n → (x < tr_end (el_lev E) n j ↔ i < tr_end (el_lev E) n j) → ls.1 0 = some (.ref 117) → ls.1 2 = some (.int (nI j)) → ls.1 3 = some (.int (o_i (mi x))) → ev_W G M_Mo_isIn X 0 0 7 ls [] w := by
    intro f
    induction f with
    | zero => intro x ls h; omega
    | succ f ih =>
      intro x ls hxf hjx hxn hiff l0 l2 l3
      cases hm : mi x with
      | none =>
        rw [hm] at l3
        have l3 : ls.1 3 = some (.int (-1)) := l3
        refine q_iload hX 3 d_Mo_isIn_7 rfl (by first | rfl | assumption) ?_
        refine q_iload hX 2 d_Mo_isIn_8 rfl (by first | rfl | assumption) ?_
        refine r_icmp_le hX 22 d_Mo_isIn_9 (by decide) (fun _ => ?_) (fun c9 => absurd (by rw [i_le, nI_toInt hj60, show (-1 : Int32).toInt = -1 from rfl]; omega) c9)
        refine q_iload hX 3 d_Mo_isIn_22 rfl (by first | rfl | assumption) ?_
        refine q_iload hX 2 d_Mo_isIn_23 rfl (by first | rfl | assumption) ?_
        refine r_icmp_ne hX 31 d_Mo_isIn_24 (by decide) (fun _ => ?_) (fun c24 => absurd c24 (nI_nm1 hj60))
        refine r_iconst (v := 0) hX d_Mo_isIn_31 (by decide) ?_
        refine r_iret hX hR d_Mo_isIn_32 rfl (by first | rfl | assumption) ?_
        exact ⟨by rw [decide_eq_false (fun z => by obtain ⟨q, h1, _⟩ := in_mi hn hpo hjx (hiff.mpr z) (by omega); rw [hm] at h1; cases h1)]; rfl, rfl⟩
      | some m =>
        rw [hm] at l3
        have l3 : ls.1 3 = some (.int (nI m)) := l3
        have hmx := ((hpo x hxn).2.2.2 m hm).1
        by_cases z1 : j < m
        · refine q_iload hX 3 d_Mo_isIn_7 rfl (by first | rfl | assumption) ?_
          refine q_iload hX 2 d_Mo_isIn_8 rfl (by first | rfl | assumption) ?_
          refine r_icmp_le hX 22 d_Mo_isIn_9 (by decide) (fun c9 => absurd c9 (nI_ge z1 (by omega))) (fun _ => ?_)
          refine q_aload hX 0 d_Mo_isIn_12 rfl (by first | rfl | assumption) ?_
          refine r_getf hX d_Mo_isIn_13 fl_Mo_13 hM.1 rfl ?_
          refine q_iload hX 3 d_Mo_isIn_16 rfl (by first | rfl | assumption) ?_
          refine r_ialdm (c := 119) (x := o_i (mi m)) hX d_Mo_isIn_17 hM rfl rfl (by omega) (hmas m (by omega)) ?_
          refine q_istore hX 3 d_Mo_isIn_18 rfl (by decide) ?_
          refine r_goto hX 7 d_Mo_isIn_19 (by decide) ?_
          exact ih m _ (by omega) z1 (by omega) ⟨fun z => hiff.mp ((mi_in hn hpo (show j < n by omega) (by omega) z hxn hm).2), fun z => by have := hiff.mpr z; omega⟩ l0 l2 rfl
        · by_cases z2 : m = j
          · subst z2
            refine q_iload hX 3 d_Mo_isIn_7 rfl (by first | rfl | assumption) ?_
            refine q_iload hX 2 d_Mo_isIn_8 rfl (by first | rfl | assumption) ?_
            refine r_icmp_le hX 22 d_Mo_isIn_9 (by decide) (fun _ => ?_) (fun c9 => absurd (nI_le (Nat.le_refl _) (by omega)) c9)
            refine q_iload hX 3 d_Mo_isIn_22 rfl (by first | rfl | assumption) ?_
            refine q_iload hX 2 d_Mo_isIn_23 rfl (by first | rfl | assumption) ?_
            refine r_icmp_ne hX 31 d_Mo_isIn_24 (by decide) (fun c24 => absurd rfl c24) (fun _ => ?_)
            refine r_iconst (v := 1) hX d_Mo_isIn_27 (by decide) ?_
            refine r_goto hX 32 d_Mo_isIn_28 (by decide) ?_
            refine r_iret hX hR d_Mo_isIn_32 rfl (by first | rfl | assumption) ?_
            exact ⟨by rw [decide_eq_true (hiff.mp (mi_in1 hn hpo hxn hm).2.1)]; rfl, rfl⟩
          · refine q_iload hX 3 d_Mo_isIn_7 rfl (by first | rfl | assumption) ?_
            refine q_iload hX 2 d_Mo_isIn_8 rfl (by first | rfl | assumption) ?_
            refine r_icmp_le hX 22 d_Mo_isIn_9 (by decide) (fun _ => ?_) (fun c9 => absurd (nI_le (by omega) (by omega)) c9)
            refine q_iload hX 3 d_Mo_isIn_22 rfl (by first | rfl | assumption) ?_
            refine q_iload hX 2 d_Mo_isIn_23 rfl (by first | rfl | assumption) ?_
            refine r_icmp_ne hX 31 d_Mo_isIn_24 (by decide) (fun _ => ?_) (fun c24 => absurd c24 (fun z => z2 ((nI_eq (by omega) (by omega)).mp z)))
            refine r_iconst (v := 0) hX d_Mo_isIn_31 (by decide) ?_
            refine r_iret hX hR d_Mo_isIn_32 rfl (by first | rfl | assumption) ?_
            exact ⟨by rw [decide_eq_false (fun z => by obtain ⟨q, h1, h2, _⟩ := in_mi hn hpo hjx (hiff.mpr z) (by omega); rw [hm] at h1; cases h1; omega)]; rfl, rfl⟩
  refine q_aload hX 0 d_Mo_isIn_0 rfl (by first | rfl | assumption) ?_
  refine r_getf hX d_Mo_isIn_1 fl_Mo_13 hM.1 rfl ?_
  refine q_iload hX 1 d_Mo_isIn_4 rfl (by first | rfl | assumption) ?_
  refine r_ialdm (c := 119) (x := o_i (mi i)) hX d_Mo_isIn_5 hM rfl rfl (by omega) (hmas i hi) ?_
  refine q_istore hX 3 d_Mo_isIn_6 rfl (by decide) ?_
  exact loop (i + 1) i _ (by omega) hji hi Iff.rfl rfl rfl rfl
theorem c_Mo_behind {G : Ev_G} {w : Ev_W} {I : Nat → Int32} {v0 : Int64} {A : Ev_A} (hM : is_M w I v0 A) {n : Nat} (hc : I 0 = nI n) (hn : n ≤ 60) {E : Nat → Ev_E} {mi : Nat → Option Nat} (hmas : ∀ x, x < n → A.1 119 x = o_i (mi x)) (hpo : is_po n E mi) {mo : Option Nat} (hmo : ∀ j, mo = some j → j < n) : ev_Met G M_Mo_behind 1 0 0 [.ref 117, .int (o_i mo)] w (fun v w' => v = some (.int (nI (mk_p E n mo))) ∧ w' = w) := by
  refine ev_Met.of md_Mo_behind (Nat.le_of_ble_eq_true rfl) (fun X hX hR => ?_)
  cases mo with
  | none =>
    refine q_iload hX 1 d_Mo_behind_0 rfl (by first | rfl | assumption) ?_
    refine r_if_ge hX 9 d_Mo_behind_1 (by decide) (fun c1 => absurd c1 (by decide)) (fun _ => ?_)
    refine q_aload hX 0 d_Mo_behind_4 rfl (by first | rfl | assumption) ?_
    refine r_getm (J := 0) (x := nI n) hX d_Mo_behind_5 fl_Mo_86 hM hc rfl ?_
    refine r_iret hX hR d_Mo_behind_8 rfl (by first | rfl | assumption) ?_
    exact ⟨rfl, rfl⟩
  | some j =>
    have hj := hmo j rfl
    obtain ⟨b1, b2, b3, b4⟩ := tr_end_spec hn hpo hj
    have loop : ∀ (f p : Nat) (ls : Ev_L), p + f = tr_end (el_lev E) n j → j < p → ls.1 0 = some (.ref 117) → ls.1 1 = some (.int (nI j)) → ls.1 2 = some (.int (nI p)) → ev_W G M_Mo_behind X 0 0 13 ls [] w := by
      intro f
      induction f with
      | zero =>
        intro p ls e1 e2 l0 l1 l2
        have e1 : p = tr_end (el_lev E) n j := e1
        by_cases z : p = n
        · refine q_iload hX 2 d_Mo_behind_13 rfl (by first | rfl | assumption) ?_
          refine q_aload hX 0 d_Mo_behind_14 rfl (by first | rfl | assumption) ?_
          refine r_getm (J := 0) (x := nI n) hX d_Mo_behind_15 fl_Mo_86 hM hc rfl ?_
          refine r_icmp_ge hX 36 d_Mo_behind_18 (by decide) (fun _ => ?_) (fun c18 => absurd (nI_le (by omega) (by omega)) c18)
          refine q_iload hX 2 d_Mo_behind_36 rfl (by first | rfl | assumption) ?_
          refine r_iret hX hR d_Mo_behind_37 rfl (by first | rfl | assumption) ?_
          exact ⟨by rw [e1]; rfl, rfl⟩
        · refine q_iload hX 2 d_Mo_behind_13 rfl (by first | rfl | assumption) ?_
          refine q_aload hX 0 d_Mo_behind_14 rfl (by first | rfl | assumption) ?_
          refine r_getm (J := 0) (x := nI n) hX d_Mo_behind_15 fl_Mo_86 hM hc rfl ?_
          refine r_icmp_ge hX 36 d_Mo_behind_18 (by decide) (fun c18 => absurd c18 (nI_ge (by omega) (by omega))) (fun _ => ?_)
          refine q_aload hX 0 d_Mo_behind_21 rfl (by first | rfl | assumption) ?_
          refine q_iload hX 2 d_Mo_behind_22 rfl (by first | rfl | assumption) ?_
          refine q_iload hX 1 d_Mo_behind_23 rfl (by first | rfl | assumption) ?_
          refine r_callV (as := [_, _]) hX d_Mo_behind_24 lk_Mo_93 hM.1 rfl rfl (Nat.le_of_ble_eq_true rfl) (by decide) 0 0 (Nat.le_refl _) (Nat.le_refl _) (c_Mo_isIn (G := G) hM hc hn hmas hpo (i := p) (j := j) (by omega) (by omega)) (fun v w1 hq => ?_)
          obtain ⟨rfl, hw⟩ := hq
          rw [hw, show b_i (decide (p < tr_end (el_lev E) n j)) = 0 from by rw [decide_eq_false (by omega)]; rfl]
          refine r_if_eq hX 36 d_Mo_behind_27 (by decide) (fun _ => ?_) (fun c27 => absurd rfl c27)
          refine q_iload hX 2 d_Mo_behind_36 rfl (by first | rfl | assumption) ?_
          refine r_iret hX hR d_Mo_behind_37 rfl (by first | rfl | assumption) ?_
          exact ⟨by rw [e1]; rfl, rfl⟩
      | succ f ih =>
        intro p ls e1 e2 l0 l1 l2
        refine q_iload hX 2 d_Mo_behind_13 rfl (by first | rfl | assumption) ?_
        refine q_aload hX 0 d_Mo_behind_14 rfl (by first | rfl | assumption) ?_
        refine r_getm (J := 0) (x := nI n) hX d_Mo_behind_15 fl_Mo_86 hM hc rfl ?_
        refine r_icmp_ge hX 36 d_Mo_behind_18 (by decide) (fun c18 => absurd c18 (nI_ge (by omega) (by omega))) (fun _ => ?_)
        refine q_aload hX 0 d_Mo_behind_21 rfl (by first | rfl | assumption) ?_
        refine q_iload hX 2 d_Mo_behind_22 rfl (by first | rfl | assumption) ?_
        refine q_iload hX 1 d_Mo_behind_23 rfl (by first | rfl | assumption) ?_
        refine r_callV (as := [_, _]) hX d_Mo_behind_24 lk_Mo_93 hM.1 rfl rfl (Nat.le_of_ble_eq_true rfl) (by decide) 0 0 (Nat.le_refl _) (Nat.le_refl _) (c_Mo_isIn (G := G) hM hc hn hmas hpo (i := p) (j := j) (by omega) (by omega)) (fun v w1 hq => ?_)
        obtain ⟨rfl, hw⟩ := hq
        rw [hw, show b_i (decide (p < tr_end (el_lev E) n j)) = 1 from by rw [decide_eq_true (by omega)]; rfl]
        refine r_if_eq hX 36 d_Mo_behind_27 (by decide) (fun c27 => absurd c27 (by decide)) (fun _ => ?_)
        refine r_iinc hX d_Mo_behind_30 (by first | rfl | assumption) ?_
        refine r_goto hX 13 d_Mo_behind_33 (by decide) ?_
        exact ih (p + 1) _ (by omega) (by omega) l0 l1 (by show some (Value.int (nI p + Int32.ofInt 1)) = _; rw [show Int32.ofInt 1 = 1 from rfl, nI_1])
    refine q_iload hX 1 d_Mo_behind_0 rfl (by first | rfl | assumption) ?_
    refine r_if_ge hX 9 d_Mo_behind_1 (by decide) (fun _ => ?_) (fun c1 => absurd (nI_le (a := 0) (Nat.zero_le j) (by omega)) c1)
    refine q_iload hX 1 d_Mo_behind_9 rfl (by first | rfl | assumption) ?_
    refine r_iconst (v := 1) hX d_Mo_behind_10 (by decide) ?_
    refine r_iadd hX d_Mo_behind_11 ?_
    refine q_istore hX 2 d_Mo_behind_12 rfl (by decide) ?_
    exact loop (tr_end (el_lev E) n j - (j + 1)) (j + 1) _ (by omega) (by omega) rfl rfl (by show some (Value.int (nI j + 1)) = _; rw [nI_1])
