/-! ===== the reference: put, putBytes, putVint ===== -/
/-- these bytes stand in OUT behind the first c -/
def ou (A A' : Ev_A) (c : Nat) (bs : List Int32) : Prop := (∀ i, i < c → A'.1 133 i = A.1 133 i) ∧ (∀ i, i < bs.length → A'.1 133 (c + i) = bs.getD i 0 &&& 255) ∧ (∀ q, q ≠ 133 → A'.1 q = A.1 q) ∧ A'.2 = A.2
theorem ou.rf {A : Ev_A} {c : Nat} : ou A A c [] := ⟨fun _ _ => rfl, fun i hi => absurd hi (Nat.not_lt_zero _), fun _ _ => rfl, rfl⟩
theorem gdI_l {l r : List Int32} {t : Nat} (h : t < l.length) : (l ++ r).getD t 0 = l.getD t 0 := by
  rw [List.getD_eq_getElem?_getD, List.getD_eq_getElem?_getD, List.getElem?_append_left h]
theorem gdI_r {l r : List Int32} {t : Nat} (h : l.length ≤ t) : (l ++ r).getD t 0 = r.getD (t - l.length) 0 := by
  rw [List.getD_eq_getElem?_getD, List.getD_eq_getElem?_getD, List.getElem?_append_right h]
theorem ou.app {A B C : Ev_A} {c : Nat} {l m : List Int32} (h : ou A B c l) (k : ou B C (c + l.length) m) : ou A C c (l ++ m) := by
  obtain ⟨h1, h2, h3, h4⟩ := h
  obtain ⟨k1, k2, k3, k4⟩ := k
  refine ⟨fun i hi => (k1 i (by omega)).trans (h1 i hi), fun i hi => ?_, fun q hq => (k3 q hq).trans (h3 q hq), k4.trans h4⟩
  rw [List.length_append] at hi
  by_cases z : i < l.length
  · rw [k1 (c + i) (by omega), h2 i z, gdI_l z]
  · have := k2 (i - l.length) (by omega)
    rw [show c + l.length + (i - l.length) = c + i by omega] at this
    rw [this, gdI_r (by omega)]
theorem ou.one {A : Ev_A} {c : Nat} {b x : Int32} (h : b = x &&& 255) : ou A (aset A 133 c b) c [x] := by
  refine ⟨fun i hi => aset_off _ _ _ _ _ _ (Or.inr (by omega)), fun i hi => ?_, fun q hq => aset_ne _ _ _ hq, rfl⟩
  have hi : i < 1 := hi
  have hi0 : i = 0 := by omega
  subst hi0
  rw [Nat.add_zero, aset_self, h]; rfl
def wo (w : Ev_W) (I : Nat → Int32) (v0 : Int64) (A : Ev_A) (c : Nat) (bs : List Int32) (w' : Ev_W) : Prop := ∃ A', is_M w' (upd I 5 (nI (c + bs.length))) v0 A' ∧ mo_sm w w' ∧ ou A A' c bs
theorem b255 (x : Int32) : x &&& 255 &&& 255 = x &&& 255 := by
  apply Int32.toBitVec_inj.mp
  rw [Int32.toBitVec_and, Int32.toBitVec_and, BitVec.and_assoc, BitVec.and_self]
theorem c_Mo_put {G : Ev_G} {w : Ev_W} {I : Nat → Int32} {v0 : Int64} {A : Ev_A} (hM : is_M w I v0 A) {c : Nat} (hou : I 5 = nI c) (hc7 : c < 700) (b : Int32) : ev_Met G M_Mo_put 0 0 0 [.ref 117, .int b] w (fun v w' => v = none ∧ is_M w' (upd I 5 (nI (c + 1))) v0 (aset A 133 c b) ∧ mo_sm w w') := by
  refine ev_Met.of md_Mo_put (Nat.le_of_ble_eq_true rfl) (fun X hX hR => ?_)
  have hs : mo_sm w w := mo_sm.rf
  refine q_aload hX 0 d_Mo_put_0 rfl (by first | rfl | assumption) ?_
  refine r_getf hX d_Mo_put_1 fl_Mo_57 hM.1 rfl ?_
  refine q_aload hX 0 d_Mo_put_4 rfl (by first | rfl | assumption) ?_
  refine r_getm (J := 5) (x := nI c) hX d_Mo_put_5 fl_Mo_112 hM hou rfl ?_
  refine q_iload hX 1 d_Mo_put_8 rfl (by first | rfl | assumption) ?_
  refine r_iastm (c := 133) hX d_Mo_put_9 hM hs rfl rfl (by omega) (fun w hM hs => ?_)
  refine q_aload hX 0 d_Mo_put_10 rfl (by first | rfl | assumption) ?_
  refine r_dup hX d_Mo_put_11 rfl ?_
  refine r_getm (J := 5) (x := nI c) hX d_Mo_put_12 fl_Mo_112 hM hou rfl ?_
  refine r_iconst (v := 1) hX d_Mo_put_15 (by decide) ?_
  refine r_iadd hX d_Mo_put_16 ?_
  rw [nI_1]
  refine r_putm (J := 5) hX d_Mo_put_17 fp_Mo_112 hM hs rfl rfl (Nat.le_of_ble_eq_true rfl) rfl (fun w hM hs => ?_)
  refine r_vret hX hR d_Mo_put_20 rfl ?_
  exact ⟨rfl, hM, hs⟩
theorem c_Mo_putL {G : Ev_G} {w : Ev_W} {I : Nat → Int32} {v0 : Int64} {A : Ev_A} (hM : is_M w I v0 A) {c : Nat} (hou : I 5 = nI c) (hc7 : c < 700) {b x : Int32} (hb : b = x &&& 255) : ev_Met G M_Mo_put 0 0 0 [.ref 117, .int b] w (fun v w' => v = none ∧ wo w I v0 A c [x] w') := (c_Mo_put hM hou hc7 b).mono (fun v w' q => ⟨q.1, _, q.2.1, q.2.2, ou.one hb⟩)
theorem c_Mo_putBytes {G : Ev_G} {w : Ev_W} {I : Nat → Int32} {v0 : Int64} {A : Ev_A} (hM : is_M w I v0 A) {c : Nat} (hou : I 5 = nI c) (x : Int64) (n : Nat) (hn : n ≤ 8) (hc7 : c + n ≤ 700) : ev_Met G M_Mo_putBytes 1 0 0 [.ref 117, .long x, .int (nI n)] w (fun v w' => v = none ∧ wo w I v0 A c (nm_L x n) w') := by
  refine ev_Met.of md_Mo_putBytes (Nat.le_of_ble_eq_true rfl) (fun X hX hR => ?_)
  obtain ⟨w0, hw0⟩ : ∃ w0, w0 = w := ⟨_, rfl⟩
  have hs : mo_sm w0 w := by rw [hw0]; exact mo_sm.rf
  have loop : ∀ (k : Nat) (l : List Int32) (A1 : Ev_A) (w1 : Ev_W) (ls : Ev_L), k ≤ 8 → l ++ nm_L x k = nm_L x n → is_M w1 (upd I 5 (nI (c + l.length))) v0 A1 → mo_sm w0 w1 → ou A A1 c l → ls.1 0 = some (.ref 117) → ls.2 1 = some x → ls.1 4 = some (.int (nI k - 1)) → ev_W G M_Mo_putBytes X 0 0 5 ls [] w1 := by
    intro k
    induction k with
    | zero =>
      intro l A1 w ls hk8 e hM hs g l0 l1 l4
      have e : l = nm_L x n := by rw [← e]; exact (List.append_nil l).symm
      subst e
      refine r_iload hX d_Mo_putBytes_5 (by first | rfl | assumption) ?_
      refine r_if_lt hX 32 d_Mo_putBytes_7 (by decide) (fun _ => ?_) (fun c7 => absurd (by decide) c7)
      refine r_vret hX hR d_Mo_putBytes_32 rfl ?_
      exact ⟨rfl, A1, hM, hw0 ▸ hs, g⟩
    | succ k ih =>
      intro l A1 w ls hk8 e hM hs g l0 l1 l4
      rw [nI_pred] at l4
      have hlen : l.length + (k + 1) = n := by have := congrArg List.length e; rw [List.length_append, nm_len, nm_len] at this; exact this
      refine r_iload hX d_Mo_putBytes_5 (by first | rfl | assumption) ?_
      refine r_if_lt hX 32 d_Mo_putBytes_7 (by decide) (fun c7 => absurd c7 (nI_pos (by omega))) (fun _ => ?_)
      refine q_aload hX 0 d_Mo_putBytes_10 rfl (by first | rfl | assumption) ?_
      refine q_lload hX 1 d_Mo_putBytes_11 rfl (by first | rfl | assumption) ?_
      refine r_bipush (v := 8) hX d_Mo_putBytes_12 (by decide) ?_
      refine r_iload hX d_Mo_putBytes_14 (by first | rfl | assumption) ?_
      refine r_imul hX d_Mo_putBytes_16 ?_
      refine r_lshr hX d_Mo_putBytes_17 ?_
      refine r_ldc2 hX d_Mo_putBytes_18 m_653 ?_
      refine r_land hX d_Mo_putBytes_21 ?_
      refine r_l2i hX d_Mo_putBytes_22 ?_
      refine r_callV (as := [_]) hX d_Mo_putBytes_23 lk_Mo_243 hM.1 rfl rfl (Nat.le_of_ble_eq_true rfl) (by decide) 0 0 (Nat.le_refl _) (Nat.le_refl _) (c_Mo_putL (G := G) hM (c := c + l.length) rfl (by omega) (mo_byte x (k := k) (by omega))) (fun v w hq => ?_)
      obtain ⟨rfl, A2, hM, hs2, g2⟩ := hq
      have hs := hs.tr hs2
      rw [upd2] at hM
      refine r_iinc hX d_Mo_putBytes_26 (by first | rfl | assumption) ?_
      refine r_goto hX 5 d_Mo_putBytes_29 (by decide) ?_
      exact ih (l ++ [ro_bt x k]) A2 w _ (by omega) (by rw [List.append_assoc]; exact e) (by rw [List.length_append, ← Nat.add_assoc]; exact hM) hs (g.app g2) l0 l1 (by show some (Value.int (nI k + Int32.ofInt (-1))) = _; rw [i_dec])
  refine q_iload hX 3 d_Mo_putBytes_0 rfl (by first | rfl | assumption) ?_
  refine r_iconst (v := 1) hX d_Mo_putBytes_1 (by decide) ?_
  refine r_isub hX d_Mo_putBytes_2 ?_
  refine r_istore hX d_Mo_putBytes_3 (by decide) ?_
  exact loop n [] A w _ hn rfl (by rw [show c + ([] : List Int32).length = c from rfl, upd_id hou]; exact hM) hs ou.rf rfl rfl rfl
theorem vn_eq (x : Int64) (k : Nat) : vn_L x k = nm_L (x ||| ((1 : Int64) <<< ((7 * nI k).toInt64 &&& 63))) k := by
  rw [vn_L, show ef_allOnes (nI k) + 1 = ((1 : Int64) <<< ((7 * nI k).toInt64 &&& 63)) from by rw [ef_allOnes, Int64.sub_add_cancel], Int64.or_comm]
theorem c_Mo_putVint {G : Ev_G} {w : Ev_W} {I : Nat → Int32} {v0 : Int64} {A : Ev_A} (hM : is_M w I v0 A) {c : Nat} (hou : I 5 = nI c) (x : Int64) (n : Nat) (hn : n ≤ 8) (hc7 : c + n ≤ 700) : ev_Met G M_Mo_putVint 2 0 0 [.ref 117, .long x, .int (nI n)] w (fun v w' => v = none ∧ wo w I v0 A c (vn_L x n) w') := by
  refine ev_Met.of md_Mo_putVint (Nat.le_of_ble_eq_true rfl) (fun X hX hR => ?_)
  refine q_aload hX 0 d_Mo_putVint_0 rfl (by first | rfl | assumption) ?_
  refine q_lload hX 1 d_Mo_putVint_1 rfl (by first | rfl | assumption) ?_
  refine r_lconst (v := 1) hX d_Mo_putVint_2 (by decide) ?_
  refine r_bipush (v := 7) hX d_Mo_putVint_3 (by decide) ?_
  refine q_iload hX 3 d_Mo_putVint_5 rfl (by first | rfl | assumption) ?_
  refine r_imul hX d_Mo_putVint_6 ?_
  refine r_lshl hX d_Mo_putVint_7 ?_
  refine r_lor hX d_Mo_putVint_8 ?_
  refine q_iload hX 3 d_Mo_putVint_9 rfl (by first | rfl | assumption) ?_
  refine r_callV (as := [_, _]) hX d_Mo_putVint_10 lk_Mo_246 hM.1 rfl rfl (Nat.le_of_ble_eq_true rfl) (by decide) 0 0 (Nat.le_refl _) (Nat.le_refl _) (c_Mo_putBytes (G := G) hM hou _ n hn hc7) (fun v w1 hq => ?_)
  obtain ⟨rfl, hq⟩ := hq
  refine r_vret hX hR d_Mo_putVint_13 rfl ?_
  exact ⟨rfl, by rw [vn_eq]; exact hq⟩
