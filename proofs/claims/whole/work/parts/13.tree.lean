/-! ===== Tree ===== -/
def is_Tr (w : Ev_W) (n : Nat) (L As : Nat → Option Nat) (sf : Nat → Int32) (sd : Nat) : Prop := w.2 108 = some (.inr (4, [.ref 109, .ref 110, .int (nI n), .ref 111, .int (nI sd)])) ∧ w.2 109 = some (.inl (3, 60, .inr (.inr L))) ∧ w.2 110 = some (.inl (3, 60, .inr (.inr As))) ∧ w.2 111 = some (.inl (0, 1200, .inl sf))
/-- the elements in line: addresses, contents, parts, by their places -/
def is_Es (w : Ev_W) (m : Nat) (L : Nat → Option Nat) (ad : Nat → Nat) (E : Nat → Ev_E) (PF : Nat → Nat → Int32) : Prop :=
  (∀ i, i < m → L i = some (ad i) ∧ 139 ≤ ad i ∧ w.2 (ad i) = some (el_C (ad i) (E i)) ∧ w.2 (ad i + 1) = some (.inl (0, 16, .inl (PF i)))) ∧ ∀ i j, i < m → j < m → ad i = ad j → i = j
def tr_at (n : Nat) (L : Nat → Option Nat) (k : Int32) : Option Nat := if 0 ≤ k.toInt ∧ k.toInt < n then L k.toNatClampNeg else none
theorem c_Tr_at {G : Ev_G} {w : Ev_W} {n sd : Nat} {L As : Nat → Option Nat} {sf : Nat → Int32} (htr : is_Tr w n L As sf sd) (hn : n ≤ 60) (hsd : sd ≤ 1200) (k : Int32) : ev_Met G M_Tr_at 0 0 0 [.ref 108, .int k] w (fun v w' => v = some (va_rf (tr_at n L k)) ∧ w' = w) := by
  obtain ⟨t1, t2, t3, t4⟩ := htr
  have hn31 : n < 2 ^ 31 := by omega
  have hs31 : sd < 2 ^ 31 := by omega
  refine ev_Met.of md_Tr_at (Nat.le_of_ble_eq_true rfl) (fun X hX hR => ?_)
  refine q_iload hX 1 d_Tr_at_0 rfl (by first | rfl | assumption) ?_
  refine r_if_lt hX 21 d_Tr_at_1 (by decide) (fun c1 => ?_) (fun c1 => ?_)
  · rw [i_lt, i_0] at c1
    refine r_null hX d_Tr_at_21 ?_
    refine r_aret (o := none) hX hR d_Tr_at_22 rfl (Or.inl ⟨_, rfl⟩) ?_
    exact ⟨by rw [tr_at, if_neg (by omega)], rfl⟩
  · refine q_iload hX 1 d_Tr_at_4 rfl (by first | rfl | assumption) ?_
    refine q_aload hX 0 d_Tr_at_5 rfl (by first | rfl | assumption) ?_
    refine r_getf hX d_Tr_at_6 fl_Tr_24 (by first | assumption | exact ev_set_self _ _ _ | (simp (disch := first | assumption | decide | omega) only [ev_set_self, ev_set_ne, ev_new_self, ev_new_ne]; first | done | assumption)) rfl ?_
    refine r_icmp_ge hX 21 d_Tr_at_9 (by decide) (fun c9 => ?_) (fun c9 => ?_)
    · rw [i_le, nI_toInt hn31] at c9
      refine r_null hX d_Tr_at_21 ?_
      refine r_aret (o := none) hX hR d_Tr_at_22 rfl (Or.inl ⟨_, rfl⟩) ?_
      exact ⟨by rw [tr_at, if_neg (by omega)], rfl⟩
    · rw [i_lt, i_0] at c1
      rw [i_le, nI_toInt hn31] at c9
      refine q_aload hX 0 d_Tr_at_12 rfl (by first | rfl | assumption) ?_
      refine r_getf hX d_Tr_at_13 fl_Tr_11 (by first | assumption | exact ev_set_self _ _ _ | (simp (disch := first | assumption | decide | omega) only [ev_set_self, ev_set_ne, ev_new_self, ev_new_ne]; first | done | assumption)) rfl ?_
      refine q_iload hX 1 d_Tr_at_16 rfl (by first | rfl | assumption) ?_
      refine r_aald hX d_Tr_at_17 (by first | assumption | exact ev_set_self _ _ _ | (simp (disch := first | assumption | decide | omega) only [ev_set_self, ev_set_ne, ev_new_self, ev_new_ne]; first | done | assumption)) rfl (i_in (by omega) (by omega)) ?_
      refine r_goto hX 22 d_Tr_at_18 (by decide) ?_
      refine r_aret hX hR d_Tr_at_22 rfl (Or.inl ⟨_, rfl⟩) ?_
      exact ⟨by rw [tr_at, if_pos ⟨by omega, by omega⟩], rfl⟩
theorem c_Tr_empty {G : Ev_G} {w : Ev_W} {n sd : Nat} {L As : Nat → Option Nat} {sf : Nat → Int32} (htr : is_Tr w n L As sf sd) (hn : n ≤ 60) (hsd : sd ≤ 1200) : ev_Met G M_Tr_empty 0 0 0 [.ref 108] w (fun v w' => v = none ∧ is_Tr w' 0 L As sf 0 ∧ ev_sm w w' [108]) := by
  obtain ⟨t1, t2, t3, t4⟩ := htr
  have hn31 : n < 2 ^ 31 := by omega
  have hs31 : sd < 2 ^ 31 := by omega
  refine ev_Met.of md_Tr_empty (Nat.le_of_ble_eq_true rfl) (fun X hX hR => ?_)
  refine q_aload hX 0 d_Tr_empty_0 rfl (by first | rfl | assumption) ?_
  refine r_iconst (v := 0) hX d_Tr_empty_1 (by decide) ?_
  refine r_putf hX d_Tr_empty_2 fp_Tr_24 (by first | assumption | exact ev_set_self _ _ _ | (simp (disch := first | assumption | decide | omega) only [ev_set_self, ev_set_ne, ev_new_self, ev_new_ne]; first | done | assumption)) (by first | assumption | decide | omega) rfl rfl (Nat.le_of_ble_eq_true rfl) ?_
  refine q_aload hX 0 d_Tr_empty_5 rfl (by first | rfl | assumption) ?_
  refine r_iconst (v := 0) hX d_Tr_empty_6 (by decide) ?_
  refine r_putf hX d_Tr_empty_7 fp_Tr_28 (by first | assumption | exact ev_set_self _ _ _ | (simp (disch := first | assumption | decide | omega) only [ev_set_self, ev_set_ne, ev_new_self, ev_new_ne]; first | done | assumption)) (by first | assumption | decide | omega) rfl rfl (Nat.le_of_ble_eq_true rfl) ?_
  refine r_vret hX hR d_Tr_empty_10 rfl ?_
  refine ⟨rfl, ⟨by rw [ev_set_self]; rfl, ?_, ?_, ?_⟩, (ev_sm.s1 (by simp)).set (by simp)⟩
  · rw [ev_set_ne _ _ (by decide), ev_set_ne _ _ (by decide)]; exact t2
  · rw [ev_set_ne _ _ (by decide), ev_set_ne _ _ (by decide)]; exact t3
  · rw [ev_set_ne _ _ (by decide), ev_set_ne _ _ (by decide)]; exact t4
theorem c_Tr_canStore {G : Ev_G} {w : Ev_W} {n sd : Nat} {L As : Nat → Option Nat} {sf : Nat → Int32} (htr : is_Tr w n L As sf sd) (hn : n ≤ 60) (hsd : sd ≤ 1200) (b : Nat) (hb : b ≤ 400) : ev_Met G M_Tr_canStore 0 0 0 [.ref 108, .int (nI b)] w (fun v w' => v = some (.int (b_i (decide (sd + b ≤ 1200)))) ∧ w' = w) := by
  obtain ⟨t1, t2, t3, t4⟩ := htr
  have hn31 : n < 2 ^ 31 := by omega
  have hs31 : sd < 2 ^ 31 := by omega
  refine ev_Met.of md_Tr_canStore (Nat.le_of_ble_eq_true rfl) (fun X hX hR => ?_)
  refine q_aload hX 0 d_Tr_canStore_0 rfl (by first | rfl | assumption) ?_
  refine r_getf hX d_Tr_canStore_1 fl_Tr_28 (by first | assumption | exact ev_set_self _ _ _ | (simp (disch := first | assumption | decide | omega) only [ev_set_self, ev_set_ne, ev_new_self, ev_new_ne]; first | done | assumption)) rfl ?_
  refine q_iload hX 1 d_Tr_canStore_4 rfl (by first | rfl | assumption) ?_
  refine r_iadd hX d_Tr_canStore_5 ?_
  refine q_aload hX 0 d_Tr_canStore_6 rfl (by first | rfl | assumption) ?_
  refine r_getf hX d_Tr_canStore_7 fl_Tr_20 (by first | assumption | exact ev_set_self _ _ _ | (simp (disch := first | assumption | decide | omega) only [ev_set_self, ev_set_ne, ev_new_self, ev_new_ne]; first | done | assumption)) rfl ?_
  refine r_alen hX d_Tr_canStore_10 (by first | assumption | exact ev_set_self _ _ _ | (simp (disch := first | assumption | decide | omega) only [ev_set_self, ev_set_ne, ev_new_self, ev_new_ne]; first | done | assumption)) rfl ?_
  refine r_icmp_gt hX 18 d_Tr_canStore_11 (by decide) (fun c11 => ?_) (fun c11 => ?_)
  · rw [nI_add] at c11
    refine r_iconst (v := 0) hX d_Tr_canStore_18 (by decide) ?_
    refine r_iret hX hR d_Tr_canStore_19 rfl (by first | rfl | assumption) ?_
    exact ⟨by
      rw [i_lt, nI_toInt (by decide), nI_toInt (by omega)] at c11
      first | (rw [decide_eq_true (by omega)]; rfl) | (rw [decide_eq_false (by omega)]; rfl), rfl⟩
  · rw [nI_add] at c11
    refine r_iconst (v := 1) hX d_Tr_canStore_14 (by decide) ?_
    refine r_goto hX 19 d_Tr_canStore_15 (by decide) ?_
    refine r_iret hX hR d_Tr_canStore_19 rfl (by first | rfl | assumption) ?_
    exact ⟨by
      rw [i_lt, nI_toInt (by decide), nI_toInt (by omega)] at c11
      first | (rw [decide_eq_true (by omega)]; rfl) | (rw [decide_eq_false (by omega)]; rfl), rfl⟩
def el_s (E : Ev_E) (a b : Int32) : Ev_E := (E.1, E.2.1, E.2.2.1, upd (upd E.2.2.2 3 a) 4 b)
theorem c_Tr_beginStoring {G : Ev_G} {w : Ev_W} {n sd : Nat} {L As : Nat → Option Nat} {sf : Nat → Int32} (htr : is_Tr w n L As sf sd) (hn : n ≤ 60) (hsd : sd ≤ 1200) {a : Nat} {E : Ev_E} (h : w.2 a = some (el_C a E)) (ha : 100 ≤ a) : ev_Met G M_Tr_beginStoring 0 0 0 [.ref 108, .ref a] w (fun v w' => v = none ∧ w'.2 a = some (el_C a (el_s E (nI sd) 0)) ∧ ev_sm w w' [a]) := by
  obtain ⟨t1, t2, t3, t4⟩ := htr
  have hn31 : n < 2 ^ 31 := by omega
  have hs31 : sd < 2 ^ 31 := by omega
  refine ev_Met.of md_Tr_beginStoring (Nat.le_of_ble_eq_true rfl) (fun X hX hR => ?_)
  refine q_aload hX 1 d_Tr_beginStoring_0 rfl (by first | rfl | assumption) ?_
  refine q_aload hX 0 d_Tr_beginStoring_1 rfl (by first | rfl | assumption) ?_
  refine r_getf hX d_Tr_beginStoring_2 fl_Tr_28 (by first | assumption | exact ev_set_self _ _ _ | (simp (disch := first | assumption | decide | omega) only [ev_set_self, ev_set_ne, ev_new_self, ev_new_ne]; first | done | assumption)) rfl ?_
  refine r_putf hX d_Tr_beginStoring_5 fp_Tr_70 (by first | assumption | exact ev_set_self _ _ _ | (simp (disch := first | assumption | decide | omega) only [ev_set_self, ev_set_ne, ev_new_self, ev_new_ne]; first | done | assumption)) (by first | assumption | decide | omega) rfl rfl (Nat.le_of_ble_eq_true rfl) ?_
  refine q_aload hX 1 d_Tr_beginStoring_8 rfl (by first | rfl | assumption) ?_
  refine r_iconst (v := 0) hX d_Tr_beginStoring_9 (by decide) ?_
  refine r_putf hX d_Tr_beginStoring_10 fp_Tr_73 (by first | assumption | exact ev_set_self _ _ _ | (simp (disch := first | assumption | decide | omega) only [ev_set_self, ev_set_ne, ev_new_self, ev_new_ne]; first | done | assumption)) (by first | assumption | decide | omega) rfl rfl (Nat.le_of_ble_eq_true rfl) ?_
  refine r_vret hX hR d_Tr_beginStoring_13 rfl ?_
  exact ⟨rfl, by rw [ev_set_self]; rfl, (ev_sm.s1 (by simp)).set (by simp)⟩
theorem c_Tr_storeFor {G : Ev_G} {w : Ev_W} {n sd : Nat} {L As : Nat → Option Nat} {sf : Nat → Int32} (htr : is_Tr w n L As sf sd) (hn : n ≤ 60) (hsd : sd ≤ 1200) {a : Nat} {E : Ev_E} (h : w.2 a = some (el_C a E)) (ha : 139 ≤ a) (hr : sd < 1200) (x : Int32) : ev_Met G M_Tr_storeFor 0 0 0 [.ref 108, .ref a, .int x] w (fun v w' => v = none ∧ is_Tr w' n L As (upd sf sd x) (sd + 1) ∧ w'.2 a = some (el_C a (el_s E (E.2.2.2 3) (E.2.2.2 4 + 1))) ∧ ev_sm w w' [108, 111, a]) := by
  obtain ⟨t1, t2, t3, t4⟩ := htr
  have hn31 : n < 2 ^ 31 := by omega
  have hs31 : sd < 2 ^ 31 := by omega
  refine ev_Met.of md_Tr_storeFor (Nat.le_of_ble_eq_true rfl) (fun X hX hR => ?_)
  have ha1 : 100 ≤ a := by omega
  have n1 : a ≠ 108 := by omega
  have n2 : a ≠ 111 := by omega
  have n3 : 108 ≠ a := by omega
  have n4 : 111 ≠ a := by omega
  have n5 : 109 ≠ a := by omega
  have n6 : 110 ≠ a := by omega
  refine q_aload hX 0 d_Tr_storeFor_0 rfl (by first | rfl | assumption) ?_
  refine r_getf hX d_Tr_storeFor_1 fl_Tr_28 (by first | assumption | exact ev_set_self _ _ _ | (simp (disch := first | assumption | decide | omega) only [ev_set_self, ev_set_ne, ev_new_self, ev_new_ne]; first | done | assumption)) rfl ?_
  refine q_aload hX 0 d_Tr_storeFor_4 rfl (by first | rfl | assumption) ?_
  refine r_getf hX d_Tr_storeFor_5 fl_Tr_20 (by first | assumption | exact ev_set_self _ _ _ | (simp (disch := first | assumption | decide | omega) only [ev_set_self, ev_set_ne, ev_new_self, ev_new_ne]; first | done | assumption)) rfl ?_
  refine r_alen hX d_Tr_storeFor_8 (by first | assumption | exact ev_set_self _ _ _ | (simp (disch := first | assumption | decide | omega) only [ev_set_self, ev_set_ne, ev_new_self, ev_new_ne]; first | done | assumption)) rfl ?_
  refine r_icmp_ge hX 42 d_Tr_storeFor_9 (by decide) (fun c9 => absurd c9 (nI_ge hr (by decide))) (fun _ => ?_)
  refine q_aload hX 0 d_Tr_storeFor_12 rfl (by first | rfl | assumption) ?_
  refine r_getf hX d_Tr_storeFor_13 fl_Tr_20 (by first | assumption | exact ev_set_self _ _ _ | (simp (disch := first | assumption | decide | omega) only [ev_set_self, ev_set_ne, ev_new_self, ev_new_ne]; first | done | assumption)) rfl ?_
  refine q_aload hX 0 d_Tr_storeFor_16 rfl (by first | rfl | assumption) ?_
  refine r_getf hX d_Tr_storeFor_17 fl_Tr_28 (by first | assumption | exact ev_set_self _ _ _ | (simp (disch := first | assumption | decide | omega) only [ev_set_self, ev_set_ne, ev_new_self, ev_new_ne]; first | done | assumption)) rfl ?_
  refine q_iload hX 2 d_Tr_storeFor_20 rfl (by first | rfl | assumption) ?_
  refine r_iast hX d_Tr_storeFor_21 (by first | assumption | exact ev_set_self _ _ _ | (simp (disch := first | assumption | decide | omega) only [ev_set_self, ev_set_ne, ev_new_self, ev_new_ne]; first | done | assumption)) (by first | assumption | decide | omega) rfl (vp_in_nI hr (by decide)) ?_
  refine q_aload hX 0 d_Tr_storeFor_22 rfl (by first | rfl | assumption) ?_
  refine r_dup hX d_Tr_storeFor_23 rfl ?_
  refine r_getf hX d_Tr_storeFor_24 fl_Tr_28 (by first | assumption | exact ev_set_self _ _ _ | (simp (disch := first | assumption | decide | omega) only [ev_set_self, ev_set_ne, ev_new_self, ev_new_ne]; first | done | assumption)) rfl ?_
  refine r_iconst (v := 1) hX d_Tr_storeFor_27 (by decide) ?_
  refine r_iadd hX d_Tr_storeFor_28 ?_
  refine r_putf hX d_Tr_storeFor_29 fp_Tr_28 (by first | assumption | exact ev_set_self _ _ _ | (simp (disch := first | assumption | decide | omega) only [ev_set_self, ev_set_ne, ev_new_self, ev_new_ne]; first | done | assumption)) (by first | assumption | decide | omega) rfl rfl (Nat.le_of_ble_eq_true rfl) ?_
  refine q_aload hX 1 d_Tr_storeFor_32 rfl (by first | rfl | assumption) ?_
  refine r_dup hX d_Tr_storeFor_33 rfl ?_
  refine r_getf hX d_Tr_storeFor_34 fl_Tr_73 (by first | assumption | exact ev_set_self _ _ _ | (simp (disch := first | assumption | decide | omega) only [ev_set_self, ev_set_ne, ev_new_self, ev_new_ne]; first | done | assumption)) rfl ?_
  refine r_iconst (v := 1) hX d_Tr_storeFor_37 (by decide) ?_
  refine r_iadd hX d_Tr_storeFor_38 ?_
  refine r_putf hX d_Tr_storeFor_39 fp_Tr_73 (by first | assumption | exact ev_set_self _ _ _ | (simp (disch := first | assumption | decide | omega) only [ev_set_self, ev_set_ne, ev_new_self, ev_new_ne]; first | done | assumption)) (by first | assumption | decide | omega) rfl rfl (Nat.le_of_ble_eq_true rfl) ?_
  refine r_vret hX hR d_Tr_storeFor_42 rfl ?_
  refine ⟨rfl, ⟨?_, ?_, ?_, ?_⟩, ?_, ((ev_sm.s1 (by simp)).set (by simp)).set (by simp)⟩
  · rw [ev_set_ne _ _ n3, ev_set_self, nI_1]; rfl
  · rw [ev_set_ne _ _ n5, ev_set_ne _ _ (by decide), ev_set_ne _ _ (by decide)]; exact t2
  · rw [ev_set_ne _ _ n6, ev_set_ne _ _ (by decide), ev_set_ne _ _ (by decide)]; exact t3
  · rw [ev_set_ne _ _ n4, ev_set_ne _ _ (by decide), ev_set_self, nI_clamp hs31]
  · rw [ev_set_self]
    congr 1
def tr_sa (sf : Nat → Int32) (sd : Nat) (i : Int32) : Int32 := if 0 ≤ i.toInt ∧ i.toInt < sd then sf i.toNatClampNeg else -1
theorem c_Tr_storedAt {G : Ev_G} {w : Ev_W} {n sd : Nat} {L As : Nat → Option Nat} {sf : Nat → Int32} (htr : is_Tr w n L As sf sd) (hn : n ≤ 60) (hsd : sd ≤ 1200) (i : Int32) : ev_Met G M_Tr_storedAt 0 0 0 [.ref 108, .int i] w (fun v w' => v = some (.int (tr_sa sf sd i)) ∧ w' = w) := by
  obtain ⟨t1, t2, t3, t4⟩ := htr
  have hn31 : n < 2 ^ 31 := by omega
  have hs31 : sd < 2 ^ 31 := by omega
  refine ev_Met.of md_Tr_storedAt (Nat.le_of_ble_eq_true rfl) (fun X hX hR => ?_)
  refine q_iload hX 1 d_Tr_storedAt_0 rfl (by first | rfl | assumption) ?_
  refine r_if_lt hX 21 d_Tr_storedAt_1 (by decide) (fun c1 => ?_) (fun c1 => ?_)
  · rw [i_lt, i_0] at c1
    refine r_iconst (v := -1) hX d_Tr_storedAt_21 (by decide) ?_
    refine r_iret hX hR d_Tr_storedAt_22 rfl rfl ?_
    exact ⟨by rw [tr_sa, if_neg (by omega)], rfl⟩
  · refine q_iload hX 1 d_Tr_storedAt_4 rfl (by first | rfl | assumption) ?_
    refine q_aload hX 0 d_Tr_storedAt_5 rfl (by first | rfl | assumption) ?_
    refine r_getf hX d_Tr_storedAt_6 fl_Tr_28 (by first | assumption | exact ev_set_self _ _ _ | (simp (disch := first | assumption | decide | omega) only [ev_set_self, ev_set_ne, ev_new_self, ev_new_ne]; first | done | assumption)) rfl ?_
    refine r_icmp_ge hX 21 d_Tr_storedAt_9 (by decide) (fun c9 => ?_) (fun c9 => ?_)
    · rw [i_le, nI_toInt hs31] at c9
      refine r_iconst (v := -1) hX d_Tr_storedAt_21 (by decide) ?_
      refine r_iret hX hR d_Tr_storedAt_22 rfl rfl ?_
      exact ⟨by rw [tr_sa, if_neg (by omega)], rfl⟩
    · rw [i_lt, i_0] at c1
      rw [i_le, nI_toInt hs31] at c9
      refine q_aload hX 0 d_Tr_storedAt_12 rfl (by first | rfl | assumption) ?_
      refine r_getf hX d_Tr_storedAt_13 fl_Tr_20 (by first | assumption | exact ev_set_self _ _ _ | (simp (disch := first | assumption | decide | omega) only [ev_set_self, ev_set_ne, ev_new_self, ev_new_ne]; first | done | assumption)) rfl ?_
      refine q_iload hX 1 d_Tr_storedAt_16 rfl (by first | rfl | assumption) ?_
      refine r_iald hX d_Tr_storedAt_17 (by first | assumption | exact ev_set_self _ _ _ | (simp (disch := first | assumption | decide | omega) only [ev_set_self, ev_set_ne, ev_new_self, ev_new_ne]; first | done | assumption)) rfl (i_in (by omega) (by omega)) ?_
      refine r_goto hX 22 d_Tr_storedAt_18 (by decide) ?_
      refine r_iret hX hR d_Tr_storedAt_22 rfl (by first | rfl | assumption) ?_
      exact ⟨by rw [tr_sa, if_pos ⟨by omega, by omega⟩], rfl⟩
def el_n (E : Ev_E) (x : Int32) : Ev_E := (E.1, E.2.1, E.2.2.1, upd E.2.2.2 2 x)
theorem c_Tr_putInLine {G : Ev_G} {w : Ev_W} {n sd : Nat} {L As : Nat → Option Nat} {sf : Nat → Int32} (htr : is_Tr w n L As sf sd) (hn : n ≤ 60) (hsd : sd ≤ 1200) {a : Nat} {E : Ev_E} (h : w.2 a = some (el_C a E)) (ha : 139 ≤ a) (k : Nat) (hk : k < 60) : ev_Met G M_Tr_putInLine 0 0 0 [.ref 108, .int (nI k), .ref a] w (fun v w' => v = none ∧ is_Tr w' n (va_up L k (some a)) As sf sd ∧ w'.2 a = some (el_C a (el_n E (nI k))) ∧ ev_sm w w' [109, a]) := by
  obtain ⟨t1, t2, t3, t4⟩ := htr
  have hn31 : n < 2 ^ 31 := by omega
  have hs31 : sd < 2 ^ 31 := by omega
  refine ev_Met.of md_Tr_putInLine (Nat.le_of_ble_eq_true rfl) (fun X hX hR => ?_)
  have ha1 : 100 ≤ a := by omega
  have n1 : a ≠ 109 := by omega
  have n3 : 108 ≠ a := by omega
  have n4 : 111 ≠ a := by omega
  have n5 : 109 ≠ a := by omega
  have n6 : 110 ≠ a := by omega
  refine q_aload hX 0 d_Tr_putInLine_0 rfl (by first | rfl | assumption) ?_
  refine r_getf hX d_Tr_putInLine_1 fl_Tr_11 (by first | assumption | exact ev_set_self _ _ _ | (simp (disch := first | assumption | decide | omega) only [ev_set_self, ev_set_ne, ev_new_self, ev_new_ne]; first | done | assumption)) rfl ?_
  refine q_iload hX 1 d_Tr_putInLine_4 rfl (by first | rfl | assumption) ?_
  refine q_aload hX 2 d_Tr_putInLine_5 rfl (by first | rfl | assumption) ?_
  refine r_aast hX d_Tr_putInLine_6 (by first | assumption | exact ev_set_self _ _ _ | (simp (disch := first | assumption | decide | omega) only [ev_set_self, ev_set_ne, ev_new_self, ev_new_ne]; first | done | assumption)) (by first | assumption | decide | omega) (by first | assumption | exact ev_set_self _ _ _ | (simp (disch := first | assumption | decide | omega) only [ev_set_self, ev_set_ne, ev_new_self, ev_new_ne]; first | done | assumption)) rfl rfl (vp_in_nI hk (by decide)) ?_
  refine q_aload hX 2 d_Tr_putInLine_7 rfl (by first | rfl | assumption) ?_
  refine q_iload hX 1 d_Tr_putInLine_8 rfl (by first | rfl | assumption) ?_
  refine r_putf hX d_Tr_putInLine_9 fp_Tr_31 (by first | assumption | exact ev_set_self _ _ _ | (simp (disch := first | assumption | decide | omega) only [ev_set_self, ev_set_ne, ev_new_self, ev_new_ne]; first | done | assumption)) (by first | assumption | decide | omega) rfl rfl (Nat.le_of_ble_eq_true rfl) ?_
  refine r_vret hX hR d_Tr_putInLine_12 rfl ?_
  refine ⟨rfl, ⟨?_, ?_, ?_, ?_⟩, by rw [ev_set_self]; rfl, (ev_sm.s1 (by simp)).set (by simp)⟩
  · rw [ev_set_ne _ _ n3, ev_set_ne _ _ (by decide)]; exact t1
  · rw [ev_set_ne _ _ n5, ev_set_self, nI_clamp (by omega)]
  · rw [ev_set_ne _ _ n6, ev_set_ne _ _ (by decide)]; exact t3
  · rw [ev_set_ne _ _ n4, ev_set_ne _ _ (by decide)]; exact t4
/-- from i on, the first place that isn't deeper than le -/
def tr_go (lv : Nat → Int32) (n : Nat) (le : Int32) : Nat → Nat → Nat
  | 0, i => i
  | k + 1, i => if i < n ∧ le < lv i then tr_go lv n le k (i + 1) else i
def tr_end (lv : Nat → Int32) (n : Nat) (k : Nat) : Nat := tr_go lv n (lv k) (n - (k + 1)) (k + 1)
theorem tr_go_ge (lv : Nat → Int32) (n : Nat) (le : Int32) : ∀ k i : Nat, i ≤ tr_go lv n le k i
  | 0, i => Nat.le_refl _
  | k + 1, i => by
    unfold tr_go
    split
    · exact Nat.le_trans (Nat.le_succ i) (tr_go_ge lv n le k (i + 1))
    · exact Nat.le_refl _
theorem tr_go_le (lv : Nat → Int32) (n : Nat) (le : Int32) : ∀ k i : Nat, i ≤ n → tr_go lv n le k i ≤ n
  | 0, i, h => h
  | k + 1, i, h => by
    unfold tr_go
    split
    · exact tr_go_le lv n le k (i + 1) (by omega)
    · exact h
def el_lev (E : Nat → Ev_E) (i : Nat) : Int32 := (E i).2.2.2 1
theorem c_Tr_endOf {G : Ev_G} {w : Ev_W} {n sd : Nat} {L As : Nat → Option Nat} {sf : Nat → Int32} {m : Nat} {ad : Nat → Nat} {E : Nat → Ev_E} {PF : Nat → Nat → Int32} (htr : is_Tr w n L As sf sd) (hn : n ≤ 60) (hsd : sd ≤ 1200) (hes : is_Es w m L ad E PF) (hm : n ≤ m) {k : Nat} (hk : k < n) (hnum : (E k).2.2.2 2 = nI k) : ev_Met G M_Tr_endOf 0 0 0 [.ref 108, .ref (ad k)] w (fun v w' => v = some (.int (nI (tr_end (el_lev E) n k))) ∧ w' = w) := by
  obtain ⟨t1, t2, t3, t4⟩ := htr
  have hn31 : n < 2 ^ 31 := by omega
  have hs31 : sd < 2 ^ 31 := by omega
  refine ev_Met.of md_Tr_endOf (Nat.le_of_ble_eq_true rfl) (fun X hX hR => ?_)
  obtain ⟨k1, k2, k3, k4⟩ := hes.1 k (by omega)
  have loop : ∀ (f i : Nat) (ls : Ev_L), n ≤ i + f → tr_go (el_lev E) n (el_lev E k) f i = tr_end (el_lev E) n k → i < 2 ^ 30 → ls.1 0 = some (.ref 108) → ls.1 1 = some (.ref (ad k)) → ls.1 2 = some (.int (nI i)) → ev_W G M_Tr_endOf X 0 0 7 ls [] w := by
    intro f
    induction f with
    | zero =>
      intro i ls e1 e2 e3 l0 l1 l2
      refine q_iload hX 2 d_Tr_endOf_7 rfl (by first | rfl | assumption) ?_
      refine q_aload hX 0 d_Tr_endOf_8 rfl (by first | rfl | assumption) ?_
      refine r_getf hX d_Tr_endOf_9 fl_Tr_24 (by first | assumption | exact ev_set_self _ _ _ | (simp (disch := first | assumption | decide | omega) only [ev_set_self, ev_set_ne, ev_new_self, ev_new_ne]; first | done | assumption)) rfl ?_
      refine r_icmp_ge hX 37 d_Tr_endOf_12 (by decide) (fun _ => ?_) (fun c12 => absurd (nI_le (by omega) (by omega)) c12)
      refine q_iload hX 2 d_Tr_endOf_37 rfl (by first | rfl | assumption) ?_
      refine r_iret hX hR d_Tr_endOf_38 rfl (by first | rfl | assumption) ?_
      exact ⟨by rw [← e2]; rfl, rfl⟩
    | succ f ih =>
      intro i ls e1 e2 e3 l0 l1 l2
      refine q_iload hX 2 d_Tr_endOf_7 rfl (by first | rfl | assumption) ?_
      refine q_aload hX 0 d_Tr_endOf_8 rfl (by first | rfl | assumption) ?_
      refine r_getf hX d_Tr_endOf_9 fl_Tr_24 (by first | assumption | exact ev_set_self _ _ _ | (simp (disch := first | assumption | decide | omega) only [ev_set_self, ev_set_ne, ev_new_self, ev_new_ne]; first | done | assumption)) rfl ?_
      refine r_icmp_ge hX 37 d_Tr_endOf_12 (by decide) (fun c12 => ?_) (fun c12 => ?_)
      · refine q_iload hX 2 d_Tr_endOf_37 rfl (by first | rfl | assumption) ?_
        refine r_iret hX hR d_Tr_endOf_38 rfl (by first | rfl | assumption) ?_
        exact ⟨by rw [← e2, tr_go, if_neg (by rw [i_le, nI_toInt hn31, nI_toInt (by omega)] at c12; omega)], rfl⟩
      · have hi : i < n := by
          rw [i_le, nI_toInt hn31, nI_toInt (by omega)] at c12; omega
        obtain ⟨u1, u2, u3, u4⟩ := hes.1 i (by omega)
        have hcl : (nI i).toNatClampNeg = i := nI_clamp (by omega)
        refine q_aload hX 0 d_Tr_endOf_15 rfl (by first | rfl | assumption) ?_
        refine r_getf hX d_Tr_endOf_16 fl_Tr_11 (by first | assumption | exact ev_set_self _ _ _ | (simp (disch := first | assumption | decide | omega) only [ev_set_self, ev_set_ne, ev_new_self, ev_new_ne]; first | done | assumption)) rfl ?_
        refine q_iload hX 2 d_Tr_endOf_19 rfl (by first | rfl | assumption) ?_
        refine r_aald hX d_Tr_endOf_20 (by first | assumption | exact ev_set_self _ _ _ | (simp (disch := first | assumption | decide | omega) only [ev_set_self, ev_set_ne, ev_new_self, ev_new_ne]; first | done | assumption)) rfl (vp_in_nI (by omega) (by decide)) ?_
        rw [hcl, u1]
        refine r_getf hX d_Tr_endOf_21 fl_Tr_34 (by first | assumption | exact ev_set_self _ _ _ | (simp (disch := first | assumption | decide | omega) only [ev_set_self, ev_set_ne, ev_new_self, ev_new_ne]; first | done | assumption)) rfl ?_
        refine q_aload hX 1 d_Tr_endOf_24 rfl (by first | rfl | assumption) ?_
        refine r_getf hX d_Tr_endOf_25 fl_Tr_34 (by first | assumption | exact ev_set_self _ _ _ | (simp (disch := first | assumption | decide | omega) only [ev_set_self, ev_set_ne, ev_new_self, ev_new_ne]; first | done | assumption)) rfl ?_
        refine r_icmp_le hX 37 d_Tr_endOf_28 (by decide) (fun c28 => ?_) (fun c28 => ?_)
        · refine q_iload hX 2 d_Tr_endOf_37 rfl (by first | rfl | assumption) ?_
          refine r_iret hX hR d_Tr_endOf_38 rfl (by first | rfl | assumption) ?_
          exact ⟨by rw [← e2, tr_go, if_neg (fun z => absurd z.2 (Int32.not_lt.mpr c28))], rfl⟩
        · refine r_iinc hX d_Tr_endOf_31 (by first | rfl | assumption) ?_
          refine r_goto hX 7 d_Tr_endOf_34 (by decide) ?_
          exact ih (i + 1) _ (by omega) (by rw [← e2, tr_go, if_pos ⟨hi, Int32.not_le.mp c28⟩]) (by omega) l0 l1 (by show some (Value.int (nI i + Int32.ofInt 1)) = _; rw [show Int32.ofInt 1 = 1 from rfl, nI_1])
  refine q_aload hX 1 d_Tr_endOf_0 rfl (by first | rfl | assumption) ?_
  refine r_getf hX d_Tr_endOf_1 fl_Tr_31 (by first | assumption | exact ev_set_self _ _ _ | (simp (disch := first | assumption | decide | omega) only [ev_set_self, ev_set_ne, ev_new_self, ev_new_ne]; first | done | assumption)) rfl ?_
  rw [hnum]
  refine r_iconst (v := 1) hX d_Tr_endOf_4 (by decide) ?_
  refine r_iadd hX d_Tr_endOf_5 ?_
  refine q_istore hX 2 d_Tr_endOf_6 rfl (by decide) ?_
  exact loop (n - (k + 1)) (k + 1) _ (by omega) rfl (by omega) rfl rfl (by show some (Value.int (nI k + 1)) = _; rw [nI_1])
/-- from i to e, how many have the master a; the c-th of them -/
def tr_cnt (E : Nat → Ev_E) (a e : Nat) : Nat → Nat → Nat
  | 0, _ => 0
  | k + 1, i => (if (E i).2.1 = some a then 1 else 0) + tr_cnt E a e k (i + 1)
theorem tr_cnt_le (E : Nat → Ev_E) (a e : Nat) : ∀ k i : Nat, tr_cnt E a e k i ≤ k
  | 0, _ => Nat.le_refl _
  | k + 1, i => by
    unfold tr_cnt
    have := tr_cnt_le E a e k (i + 1)
    split <;> omega
theorem c_Tr_childrenOf {G : Ev_G} {w : Ev_W} {n sd : Nat} {L As : Nat → Option Nat} {sf : Nat → Int32} {m : Nat} {ad : Nat → Nat} {E : Nat → Ev_E} {PF : Nat → Nat → Int32} (htr : is_Tr w n L As sf sd) (hn : n ≤ 60) (hsd : sd ≤ 1200) (hes : is_Es w m L ad E PF) (hm : n ≤ m) {k : Nat} (hk : k < n) (hnum : (E k).2.2.2 2 = nI k) (hmok : ∀ i, i < n → ev_ok (E i).2.1) : ev_Met G M_Tr_childrenOf 1 0 0 [.ref 108, .ref (ad k)] w (fun v w' => v = some (.int (nI (tr_cnt E (ad k) (tr_end (el_lev E) n k) (tr_end (el_lev E) n k - (k + 1)) (k + 1)))) ∧ w' = w) := by
  obtain ⟨t1, t2, t3, t4⟩ := htr
  have hn31 : n < 2 ^ 31 := by omega
  have hs31 : sd < 2 ^ 31 := by omega
  refine ev_Met.of md_Tr_childrenOf (Nat.le_of_ble_eq_true rfl) (fun X hX hR => ?_)
  obtain ⟨k1, k2, k3, k4⟩ := hes.1 k (by omega)
  have heN : tr_end (el_lev E) n k ≤ n := tr_go_le _ _ _ _ _ (by omega)
  have heK : k + 1 ≤ tr_end (el_lev E) n k := tr_go_ge _ _ _ _ _
  generalize hee : tr_end (el_lev E) n k = e at heN heK
  have loop : ∀ (f i c : Nat) (ls : Ev_L), i + f = e → c + tr_cnt E (ad k) e f i = tr_cnt E (ad k) e (e - (k + 1)) (k + 1) → c ≤ i → ls.1 0 = some (.ref 108) → ls.1 1 = some (.ref (ad k)) → ls.1 2 = some (.int (nI c)) → ls.1 3 = some (.int (nI e)) → ls.1 4 = some (.int (nI i)) → ev_W G M_Tr_childrenOf X 0 0 16 ls [] w := by
    intro f
    induction f with
    | zero =>
      intro i c ls e1 e2 e3 l0 l1 l2 l3 l4
      refine r_iload hX d_Tr_childrenOf_16 (by first | rfl | assumption) ?_
      refine q_iload hX 3 d_Tr_childrenOf_18 rfl (by first | rfl | assumption) ?_
      refine r_icmp_ge hX 45 d_Tr_childrenOf_19 (by decide) (fun _ => ?_) (fun c19 => absurd (nI_le (by omega) (by omega)) c19)
      refine q_iload hX 2 d_Tr_childrenOf_45 rfl (by first | rfl | assumption) ?_
      refine r_iret hX hR d_Tr_childrenOf_46 rfl (by first | rfl | assumption) ?_
      exact ⟨by rw [hee, ← e2]; rfl, rfl⟩
    | succ f ih =>
      intro i c ls e1 e2 e3 l0 l1 l2 l3 l4
      have hi : i < n := by omega
      obtain ⟨u1, u2, u3, u4⟩ := hes.1 i (by omega)
      have hcl : (nI i).toNatClampNeg = i := nI_clamp (by omega)
      have hmo := hmok i hi
      refine r_iload hX d_Tr_childrenOf_16 (by first | rfl | assumption) ?_
      refine q_iload hX 3 d_Tr_childrenOf_18 rfl (by first | rfl | assumption) ?_
      refine r_icmp_ge hX 45 d_Tr_childrenOf_19 (by decide) (fun c19 => absurd c19 (nI_ge (by omega) (by omega))) (fun _ => ?_)
      refine q_aload hX 0 d_Tr_childrenOf_22 rfl (by first | rfl | assumption) ?_
      refine r_getf hX d_Tr_childrenOf_23 fl_Tr_11 (by first | assumption | exact ev_set_self _ _ _ | (simp (disch := first | assumption | decide | omega) only [ev_set_self, ev_set_ne, ev_new_self, ev_new_ne]; first | done | assumption)) rfl ?_
      refine r_iload hX d_Tr_childrenOf_26 (by first | rfl | assumption) ?_
      refine r_aald hX d_Tr_childrenOf_28 (by first | assumption | exact ev_set_self _ _ _ | (simp (disch := first | assumption | decide | omega) only [ev_set_self, ev_set_ne, ev_new_self, ev_new_ne]; first | done | assumption)) rfl (vp_in_nI (by omega) (by decide)) ?_
      rw [hcl, u1]
      refine r_getf hX d_Tr_childrenOf_29 fl_Tr_41 (by first | assumption | exact ev_set_self _ _ _ | (simp (disch := first | assumption | decide | omega) only [ev_set_self, ev_set_ne, ev_new_self, ev_new_ne]; first | done | assumption)) rfl ?_
      refine q_aload hX 1 d_Tr_childrenOf_32 rfl (by first | rfl | assumption) ?_
      refine r_acmp_ne (u := some (ad k)) hX 39 hmo (by intro r h; cases h; omega) d_Tr_childrenOf_33 (by decide) (fun c33 => ?_) (fun c33 => ?_)
      · refine r_iinc hX d_Tr_childrenOf_39 (by first | rfl | assumption) ?_
        refine r_goto hX 16 d_Tr_childrenOf_42 (by decide) ?_
        exact ih (i + 1) c _ (by omega) (by rw [← e2, tr_cnt, if_neg c33]; omega) (by omega) l0 l1 l2 l3 (by show some (Value.int (nI i + Int32.ofInt 1)) = _; rw [show Int32.ofInt 1 = 1 from rfl, nI_1])
      · refine r_iinc hX d_Tr_childrenOf_36 (by first | rfl | assumption) ?_
        refine r_iinc hX d_Tr_childrenOf_39 (by first | rfl | assumption) ?_
        refine r_goto hX 16 d_Tr_childrenOf_42 (by decide) ?_
        exact ih (i + 1) (c + 1) _ (by omega) (by rw [← e2, tr_cnt, if_pos c33]; omega) (by omega) l0 l1 (by show some (Value.int (nI c + Int32.ofInt 1)) = _; rw [show Int32.ofInt 1 = 1 from rfl, nI_1]) l3 (by show some (Value.int (nI i + Int32.ofInt 1)) = _; rw [show Int32.ofInt 1 = 1 from rfl, nI_1])
  refine r_iconst (v := 0) hX d_Tr_childrenOf_0 (by decide) ?_
  refine q_istore hX 2 d_Tr_childrenOf_1 rfl (by decide) ?_
  refine q_aload hX 0 d_Tr_childrenOf_2 rfl (by first | rfl | assumption) ?_
  refine q_aload hX 1 d_Tr_childrenOf_3 rfl (by first | rfl | assumption) ?_
  refine r_callV (as := [_]) hX d_Tr_childrenOf_4 lk_Tr_37 t1 rfl rfl (Nat.le_of_ble_eq_true rfl) (by decide) 0 0 (Nat.le_refl _) (Nat.le_refl _) (c_Tr_endOf (G := G) ⟨t1, t2, t3, t4⟩ hn hsd hes hm hk hnum) (fun v w1 hq => ?_)
  obtain ⟨rfl, rfl⟩ := hq
  refine q_istore hX 3 d_Tr_childrenOf_7 rfl (by decide) ?_
  refine q_aload hX 1 d_Tr_childrenOf_8 rfl (by first | rfl | assumption) ?_
  refine r_getf hX d_Tr_childrenOf_9 fl_Tr_31 (by first | assumption | exact ev_set_self _ _ _ | (simp (disch := first | assumption | decide | omega) only [ev_set_self, ev_set_ne, ev_new_self, ev_new_ne]; first | done | assumption)) rfl ?_
  rw [hnum, hee]
  refine r_iconst (v := 1) hX d_Tr_childrenOf_12 (by decide) ?_
  refine r_iadd hX d_Tr_childrenOf_13 ?_
  refine r_istore hX d_Tr_childrenOf_14 (by decide) ?_
  exact loop (e - (k + 1)) (k + 1) 0 _ (by omega) (by omega) (by omega) rfl rfl rfl rfl (by show some (Value.int (nI k + 1)) = _; rw [nI_1])
def o_i (o : Option Nat) : Int32 := match o with
  | none => -1
  | some x => nI x
def tr_ch (E : Nat → Ev_E) (a j : Nat) : Nat → Nat → Nat → Option Nat
  | 0, _, _ => none
  | k + 1, i, c => if (E i).2.1 = some a then (if c = j then some i else tr_ch E a j k (i + 1) (c + 1)) else tr_ch E a j k (i + 1) c
theorem c_Tr_childOf {G : Ev_G} {w : Ev_W} {n sd : Nat} {L As : Nat → Option Nat} {sf : Nat → Int32} {m : Nat} {ad : Nat → Nat} {E : Nat → Ev_E} {PF : Nat → Nat → Int32} (htr : is_Tr w n L As sf sd) (hn : n ≤ 60) (hsd : sd ≤ 1200) (hes : is_Es w m L ad E PF) (hm : n ≤ m) {k : Nat} (hk : k < n) (hnum : (E k).2.2.2 2 = nI k) (hmok : ∀ i, i < n → ev_ok (E i).2.1) (j : Nat) (hj : j < 2 ^ 31) : ev_Met G M_Tr_childOf 1 0 0 [.ref 108, .ref (ad k), .int (nI j)] w (fun v w' => v = some (.int (o_i (tr_ch E (ad k) j (tr_end (el_lev E) n k - (k + 1)) (k + 1) 0))) ∧ w' = w) := by
  obtain ⟨t1, t2, t3, t4⟩ := htr
  have hn31 : n < 2 ^ 31 := by omega
  have hs31 : sd < 2 ^ 31 := by omega
  refine ev_Met.of md_Tr_childOf (Nat.le_of_ble_eq_true rfl) (fun X hX hR => ?_)
  obtain ⟨k1, k2, k3, k4⟩ := hes.1 k (by omega)
  have heN : tr_end (el_lev E) n k ≤ n := tr_go_le _ _ _ _ _ (by omega)
  have heK : k + 1 ≤ tr_end (el_lev E) n k := tr_go_ge _ _ _ _ _
  generalize hee : tr_end (el_lev E) n k = e at heN heK
  have loop : ∀ (f i c : Nat) (ls : Ev_L), i + f = e → tr_ch E (ad k) j f i c = tr_ch E (ad k) j (e - (k + 1)) (k + 1) 0 → c ≤ i → ls.1 0 = some (.ref 108) → ls.1 1 = some (.ref (ad k)) → ls.1 2 = some (.int (nI j)) → ls.1 3 = some (.int (nI c)) → ls.1 4 = some (.int (nI e)) → ls.1 5 = some (.int (nI i)) → ev_W G M_Tr_childOf X 0 0 17 ls [] w := by
    intro f
    induction f with
    | zero =>
      intro i c ls e1 e2 e3 l0 l1 l2 l3 l4 l5
      refine r_iload hX d_Tr_childOf_17 (by first | rfl | assumption) ?_
      refine r_iload hX d_Tr_childOf_19 (by first | rfl | assumption) ?_
      refine r_icmp_ge hX 55 d_Tr_childOf_21 (by decide) (fun _ => ?_) (fun c21 => absurd (nI_le (by omega) (by omega)) c21)
      refine r_iconst (v := -1) hX d_Tr_childOf_55 (by decide) ?_
      refine r_iret hX hR d_Tr_childOf_56 rfl (by first | rfl | assumption) ?_
      exact ⟨by rw [hee, ← e2]; rfl, rfl⟩
    | succ f ih =>
      intro i c ls e1 e2 e3 l0 l1 l2 l3 l4 l5
      have hi : i < n := by omega
      obtain ⟨u1, u2, u3, u4⟩ := hes.1 i (by omega)
      have hcl : (nI i).toNatClampNeg = i := nI_clamp (by omega)
      have hmo := hmok i hi
      refine r_iload hX d_Tr_childOf_17 (by first | rfl | assumption) ?_
      refine r_iload hX d_Tr_childOf_19 (by first | rfl | assumption) ?_
      refine r_icmp_ge hX 55 d_Tr_childOf_21 (by decide) (fun c21 => absurd c21 (nI_ge (by omega) (by omega))) (fun _ => ?_)
      refine q_aload hX 0 d_Tr_childOf_24 rfl (by first | rfl | assumption) ?_
      refine r_getf hX d_Tr_childOf_25 fl_Tr_11 (by first | assumption | exact ev_set_self _ _ _ | (simp (disch := first | assumption | decide | omega) only [ev_set_self, ev_set_ne, ev_new_self, ev_new_ne]; first | done | assumption)) rfl ?_
      refine r_iload hX d_Tr_childOf_28 (by first | rfl | assumption) ?_
      refine r_aald hX d_Tr_childOf_30 (by first | assumption | exact ev_set_self _ _ _ | (simp (disch := first | assumption | decide | omega) only [ev_set_self, ev_set_ne, ev_new_self, ev_new_ne]; first | done | assumption)) rfl (vp_in_nI (by omega) (by decide)) ?_
      rw [hcl, u1]
      refine r_getf hX d_Tr_childOf_31 fl_Tr_41 (by first | assumption | exact ev_set_self _ _ _ | (simp (disch := first | assumption | decide | omega) only [ev_set_self, ev_set_ne, ev_new_self, ev_new_ne]; first | done | assumption)) rfl ?_
      refine q_aload hX 1 d_Tr_childOf_34 rfl (by first | rfl | assumption) ?_
      refine r_acmp_ne (u := some (ad k)) hX 49 hmo (by intro r h; cases h; omega) d_Tr_childOf_35 (by decide) (fun c35 => ?_) (fun c35 => ?_)
      · refine r_iinc hX d_Tr_childOf_49 (by first | rfl | assumption) ?_
        refine r_goto hX 17 d_Tr_childOf_52 (by decide) ?_
        exact ih (i + 1) c _ (by omega) (by rw [← e2, tr_ch, if_neg c35]) (by omega) l0 l1 l2 l3 l4 (by show some (Value.int (nI i + Int32.ofInt 1)) = _; rw [show Int32.ofInt 1 = 1 from rfl, nI_1])
      · refine q_iload hX 3 d_Tr_childOf_38 rfl (by first | rfl | assumption) ?_
        refine q_iload hX 2 d_Tr_childOf_39 rfl (by first | rfl | assumption) ?_
        refine r_icmp_ne hX 46 d_Tr_childOf_40 (by decide) (fun c40 => ?_) (fun c40 => ?_)
        · refine r_iinc hX d_Tr_childOf_46 (by first | rfl | assumption) ?_
          refine r_iinc hX d_Tr_childOf_49 (by first | rfl | assumption) ?_
          refine r_goto hX 17 d_Tr_childOf_52 (by decide) ?_
          exact ih (i + 1) (c + 1) _ (by omega) (by rw [← e2, tr_ch, if_pos c35, if_neg (fun z => c40 (by rw [z]))]) (by omega) l0 l1 l2 (by show some (Value.int (nI c + Int32.ofInt 1)) = _; rw [show Int32.ofInt 1 = 1 from rfl, nI_1]) l4 (by show some (Value.int (nI i + Int32.ofInt 1)) = _; rw [show Int32.ofInt 1 = 1 from rfl, nI_1])
        · refine r_iload hX d_Tr_childOf_43 (by first | rfl | assumption) ?_
          refine r_iret hX hR d_Tr_childOf_45 rfl (by first | rfl | assumption) ?_
          exact ⟨by rw [hee, ← e2, tr_ch, if_pos c35, if_pos ((nI_eq (by omega) (by omega)).mp c40)]; rfl, rfl⟩
  refine r_iconst (v := 0) hX d_Tr_childOf_0 (by decide) ?_
  refine q_istore hX 3 d_Tr_childOf_1 rfl (by decide) ?_
  refine q_aload hX 0 d_Tr_childOf_2 rfl (by first | rfl | assumption) ?_
  refine q_aload hX 1 d_Tr_childOf_3 rfl (by first | rfl | assumption) ?_
  refine r_callV (as := [_]) hX d_Tr_childOf_4 lk_Tr_37 t1 rfl rfl (Nat.le_of_ble_eq_true rfl) (by decide) 0 0 (Nat.le_refl _) (Nat.le_refl _) (c_Tr_endOf (G := G) ⟨t1, t2, t3, t4⟩ hn hsd hes hm hk hnum) (fun v w1 hq => ?_)
  obtain ⟨rfl, rfl⟩ := hq
  refine r_istore hX d_Tr_childOf_7 (by decide) ?_
  refine q_aload hX 1 d_Tr_childOf_9 rfl (by first | rfl | assumption) ?_
  refine r_getf hX d_Tr_childOf_10 fl_Tr_31 (by first | assumption | exact ev_set_self _ _ _ | (simp (disch := first | assumption | decide | omega) only [ev_set_self, ev_set_ne, ev_new_self, ev_new_ne]; first | done | assumption)) rfl ?_
  rw [hnum, hee]
  refine r_iconst (v := 1) hX d_Tr_childOf_13 (by decide) ?_
  refine r_iadd hX d_Tr_childOf_14 ?_
  refine r_istore hX d_Tr_childOf_15 (by decide) ?_
  exact loop (e - (k + 1)) (k + 1) 0 _ (by omega) rfl (by omega) rfl rfl rfl rfl rfl (by show some (Value.int (nI k + 1)) = _; rw [nI_1])
theorem c_Tr_mayStandN {G : Ev_G} {w : Ev_W} {n sd : Nat} {L As : Nat → Option Nat} {sf : Nat → Int32} (htr : is_Tr w n L As sf sd) (hn : n ≤ 60) (hsd : sd ≤ 1200) {s : Nat} (hs : s < 17) : ev_Met G M_Tr_mayStand 1 0 0 [.ref 108, .ref s, .null] w (fun v w' => v = some (.int (b_i (so_fits s 1))) ∧ w' = w) := by
  obtain ⟨t1, t2, t3, t4⟩ := htr
  have hn31 : n < 2 ^ 31 := by omega
  have hs31 : sd < 2 ^ 31 := by omega
  refine ev_Met.of md_Tr_mayStand (Nat.le_of_ble_eq_true rfl) (fun X hX hR => ?_)
  refine q_aloadN hX 2 d_Tr_mayStand_0 rfl (by first | rfl | assumption) ?_
  refine r_ifnonnullN hX d_Tr_mayStand_1 ?_
  refine q_aload hX 1 d_Tr_mayStand_4 rfl (by first | rfl | assumption) ?_
  refine r_iconst (v := 1) hX d_Tr_mayStand_5 (by decide) ?_
  refine r_callVE (as := [_]) hX d_Tr_mayStand_6 lk_Tr_45 hs rfl rfl (Nat.le_of_ble_eq_true rfl) (by decide) 0 0 (Nat.le_refl _) (Nat.le_refl _) (c_So_fits (G := G) hs _) (fun v w1 hq => ?_)
  obtain ⟨rfl, rfl⟩ := hq
  refine r_iret hX hR d_Tr_mayStand_9 rfl (b_i_n _) ?_
  exact ⟨rfl, rfl⟩
def tr_may (E : Nat → Ev_E) (n s k : Nat) : Bool := so_fits s (((ev_fl[3]).2.2.2).getD (E k).1 0) && !(decide (s = 14) && decide (k + 1 < tr_end (el_lev E) n k))
theorem b_i_0 {b : Bool} (h : b_i b = 0) : b = false := by cases b <;> first | rfl | cases h
theorem b_i_1 {b : Bool} (h : ¬ b_i b = 0) : b = true := by cases b <;> first | rfl | exact absurd rfl h
theorem c_Tr_mayStand {G : Ev_G} {w : Ev_W} {n sd : Nat} {L As : Nat → Option Nat} {sf : Nat → Int32} {m : Nat} {ad : Nat → Nat} {E : Nat → Ev_E} {PF : Nat → Nat → Int32} (htr : is_Tr w n L As sf sd) (hn : n ≤ 60) (hsd : sd ≤ 1200) (hes : is_Es w m L ad E PF) (hm : n ≤ m) {k : Nat} (hk : k < n) (hnum : (E k).2.2.2 2 = nI k) {s : Nat} (hs : s < 17) (hsk : (E k).1 < 17) : ev_Met G M_Tr_mayStand 1 0 0 [.ref 108, .ref s, .ref (ad k)] w (fun v w' => v = some (.int (b_i (tr_may E n s k))) ∧ w' = w) := by
  obtain ⟨t1, t2, t3, t4⟩ := htr
  have hn31 : n < 2 ^ 31 := by omega
  have hs31 : sd < 2 ^ 31 := by omega
  refine ev_Met.of md_Tr_mayStand (Nat.le_of_ble_eq_true rfl) (fun X hX hR => ?_)
  obtain ⟨k1, k2, k3, k4⟩ := hes.1 k (by omega)
  have tail : ∀ (b : Bool) (ls : Ev_L), ls.1 1 = some (.ref s) → ls.1 2 = some (.ref (ad k)) → ls.1 3 = some (.int (b_i b)) → b = (decide (s = 14) && decide (k + 1 < tr_end (el_lev E) n k)) → ev_W G M_Tr_mayStand X 0 0 37 ls [] w := by
    intro b ls l1 l2 l3 hb
    refine q_aload hX 1 d_Tr_mayStand_37 rfl (by first | rfl | assumption) ?_
    refine q_aload hX 2 d_Tr_mayStand_38 rfl (by first | rfl | assumption) ?_
    refine r_getf hX d_Tr_mayStand_39 fl_Tr_55 (by first | assumption | exact ev_set_self _ _ _ | (simp (disch := first | assumption | decide | omega) only [ev_set_self, ev_set_ne, ev_new_self, ev_new_ne]; first | done | assumption)) rfl ?_
    refine r_getE hX d_Tr_mayStand_42 hsk (q := ev_fl[3]) (by decide) m_873 ?_
    refine r_callVE (as := [_]) hX d_Tr_mayStand_45 lk_Tr_45 hs rfl rfl (Nat.le_of_ble_eq_true rfl) (by decide) 0 0 (Nat.le_refl _) (Nat.le_refl _) (c_So_fits (G := G) hs _) (fun v w1 hq => ?_)
    obtain ⟨rfl, rfl⟩ := hq
    refine r_if_eq hX 59 d_Tr_mayStand_48 (by decide) (fun c48 => ?_) (fun c48 => ?_)
    · refine r_iconst (v := 0) hX d_Tr_mayStand_59 (by decide) ?_
      refine r_iret hX hR d_Tr_mayStand_60 rfl (by first | rfl | assumption) ?_
      exact ⟨by rw [tr_may, b_i_0 c48]; rfl, rfl⟩
    · refine q_iload hX 3 d_Tr_mayStand_51 rfl (by first | rfl | assumption) ?_
      refine r_if_ne hX 59 d_Tr_mayStand_52 (by decide) (fun c52 => ?_) (fun c52 => ?_)
      · refine r_iconst (v := 0) hX d_Tr_mayStand_59 (by decide) ?_
        refine r_iret hX hR d_Tr_mayStand_60 rfl (by first | rfl | assumption) ?_
        exact ⟨by rw [tr_may, ← hb, b_i_1 c52]; simp [b_i], rfl⟩
      · refine r_iconst (v := 1) hX d_Tr_mayStand_55 (by decide) ?_
        refine r_goto hX 60 d_Tr_mayStand_56 (by decide) ?_
        refine r_iret hX hR d_Tr_mayStand_60 rfl (by first | rfl | assumption) ?_
        exact ⟨by rw [tr_may, ← hb, b_i_0 c52, b_i_1 c48]; rfl, rfl⟩
  refine q_aload hX 2 d_Tr_mayStand_0 rfl (by first | rfl | assumption) ?_
  refine r_ifnonnull hX 10 d_Tr_mayStand_1 (by decide) ?_
  refine q_aload hX 1 d_Tr_mayStand_10 rfl (by first | rfl | assumption) ?_
  refine r_getsE (i := 14) hX d_Tr_mayStand_11 (by decide) m_223 ?_
  refine r_acmp_ne (o := some s) (u := some 14) hX 35 (by intro r h; cases h; omega) (by intro r h; cases h; omega) d_Tr_mayStand_14 (by decide) (fun c14 => ?_) (fun c14 => ?_)
  · refine r_iconst (v := 0) hX d_Tr_mayStand_35 (by decide) ?_
    refine q_istore hX 3 d_Tr_mayStand_36 rfl (by decide) ?_
    exact tail false _ rfl rfl rfl (by rw [decide_eq_false (fun z => c14 (by rw [z]))]; rfl)
  · refine q_aload hX 0 d_Tr_mayStand_17 rfl (by first | rfl | assumption) ?_
    refine q_aload hX 2 d_Tr_mayStand_18 rfl (by first | rfl | assumption) ?_
    refine r_callV (as := [_]) hX d_Tr_mayStand_19 lk_Tr_37 t1 rfl rfl (Nat.le_of_ble_eq_true rfl) (by decide) 0 0 (Nat.le_refl _) (Nat.le_refl _) (c_Tr_endOf (G := G) ⟨t1, t2, t3, t4⟩ hn hsd hes hm hk hnum) (fun v w1 hq => ?_)
    obtain ⟨rfl, rfl⟩ := hq
    refine q_aload hX 2 d_Tr_mayStand_22 rfl (by first | rfl | assumption) ?_
    refine r_getf hX d_Tr_mayStand_23 fl_Tr_31 (by first | assumption | exact ev_set_self _ _ _ | (simp (disch := first | assumption | decide | omega) only [ev_set_self, ev_set_ne, ev_new_self, ev_new_ne]; first | done | assumption)) rfl ?_
    refine r_iconst (v := 1) hX d_Tr_mayStand_26 (by decide) ?_
    rw [hnum]
    refine r_iadd hX d_Tr_mayStand_27 ?_
    rw [nI_1]
    refine r_icmp_le hX 35 d_Tr_mayStand_28 (by decide) (fun c28 => ?_) (fun c28 => ?_)
    · refine r_iconst (v := 0) hX d_Tr_mayStand_35 (by decide) ?_
      refine q_istore hX 3 d_Tr_mayStand_36 rfl (by decide) ?_
      exact tail false _ rfl rfl rfl (by rw [decide_eq_false (p := k + 1 < _) (fun z => absurd (nI_lt z (by have := tr_go_le (el_lev E) n (el_lev E k) (n - (k + 1)) (k + 1) (by omega); unfold tr_end; omega)) (Int32.not_lt.mpr c28)), Bool.and_false])
    · refine r_iconst (v := 1) hX d_Tr_mayStand_31 (by decide) ?_
      refine r_goto hX 36 d_Tr_mayStand_32 (by decide) ?_
      refine q_istore hX 3 d_Tr_mayStand_36 rfl (by decide) ?_
      exact tail true _ rfl rfl rfl (by rw [decide_eq_true (Option.some.inj c14), decide_eq_true (p := k + 1 < _) ((nI_ltI (by omega) (by have := tr_go_le (el_lev E) n (el_lev E k) (n - (k + 1)) (k + 1) (by omega); unfold tr_end; omega)).mp (Int32.not_le.mp c28))]; rfl)
