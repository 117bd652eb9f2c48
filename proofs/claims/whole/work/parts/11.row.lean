/-! ===== numbers ===== -/
theorem i_lt {x y : Int32} : x < y ↔ x.toInt < y.toInt := Int32.lt_iff_toInt_lt
theorem i_le {x y : Int32} : x ≤ y ↔ x.toInt ≤ y.toInt := Int32.le_iff_toInt_le
theorem i_0 : (0 : Int32).toInt = 0 := rfl
theorem i_dec (x : Int32) : x + Int32.ofInt (-1) = x - 1 := by rw [Int32.sub_eq_add_neg]; rfl
theorem i_cl {x : Int32} (h : 0 ≤ x.toInt) : (x.toNatClampNeg : Int) = x.toInt := by
  unfold Int32.toNatClampNeg
  exact Int.toNat_of_nonneg h
theorem i_in {x : Int32} {n : Nat} (h : 0 ≤ x.toInt) (h2 : x.toInt < n) : vp_in x n := vp_in_iff.mpr ⟨h, h2⟩
/-- nothing but these cells has changed, none was made -/
def ev_sm (w w' : Ev_W) (l : List Nat) : Prop := w'.1 = w.1 ∧ ∀ q : Nat, q ∉ l → w'.2 q = w.2 q
theorem ev_sm.rf {w : Ev_W} {l : List Nat} : ev_sm w w l := ⟨rfl, fun _ _ => rfl⟩
theorem ev_sm.tr {w w1 w2 : Ev_W} {l : List Nat} (h : ev_sm w w1 l) (k : ev_sm w1 w2 l) : ev_sm w w2 l := ⟨k.1.trans h.1, fun q hq => (k.2 q hq).trans (h.2 q hq)⟩
theorem ev_sm.up {w w1 : Ev_W} {l l' : List Nat} (h : ev_sm w w1 l) (hl : ∀ q, q ∈ l → q ∈ l') : ev_sm w w1 l' := ⟨h.1, fun q hq => h.2 q (fun z => hq (hl q z))⟩
theorem ev_sm.set {w w1 : Ev_W} {l : List Nat} {r : Nat} {c : Ev_K} (h : ev_sm w w1 l) (hr : r ∈ l) : ev_sm w (ev_set w1 r c) l := ⟨h.1, fun q hq => by rw [ev_set_ne _ _ (fun e => hq (by rw [e]; exact hr))]; exact h.2 q hq⟩
theorem ev_sm.s1 {w : Ev_W} {l : List Nat} {r : Nat} {c : Ev_K} (hr : r ∈ l) : ev_sm w (ev_set w r c) l := ev_sm.rf.set hr
/-! ===== Row ===== -/
def ro_at (n : Nat) (f : Nat → Int32) (c : Nat) (i : Int32) : Int32 := if 0 ≤ i.toInt ∧ i.toInt < c ∧ i.toInt < n then f i.toNatClampNeg else -1
def is_Ro (w : Ev_W) (a b n c : Nat) (f : Nat → Int32) : Prop := w.2 a = some (.inr (1, [.ref b, .int (nI c)])) ∧ w.2 b = some (.inl (0, n, .inl f))
theorem is_Ro.ne {w : Ev_W} {a b n c : Nat} {f : Nat → Int32} (h : is_Ro w a b n c f) : a ≠ b := fun e => by obtain ⟨h1, h2⟩ := h; subst e; rw [h1] at h2; cases h2
theorem is_Ro.sm {w w' : Ev_W} {a b n c : Nat} {f : Nat → Int32} {l : List Nat} (h : is_Ro w a b n c f) (hs : ev_sm w w' l) (ha : a ∉ l) (hb : b ∉ l) : is_Ro w' a b n c f := ⟨(hs.2 a ha).trans h.1, (hs.2 b hb).trans h.2⟩
theorem c_Ro_at {G : Ev_G} {w : Ev_W} {a b n c : Nat} {f : Nat → Int32} (h : is_Ro w a b n c f) (hc : c < 2 ^ 31) (hn : n < 2 ^ 31) (i : Int32) : ev_Met G M_Ro_at 0 0 0 [.ref a, .int i] w (fun v w' => v = some (.int (ro_at n f c i)) ∧ w' = w) := by
  obtain ⟨h1, h2⟩ := h
  refine ev_Met.of md_Ro_at (Nat.le_of_ble_eq_true rfl) (fun X hX hR => ?_)
  refine q_iload hX 1 d_Ro_at_0 rfl (by first | rfl | assumption) ?_
  refine r_if_lt hX 30 d_Ro_at_1 (by decide) (fun c1 => ?_) (fun c1 => ?_)
  · rw [i_lt, i_0] at c1
    refine r_iconst (v := -1) hX d_Ro_at_30 (by decide) ?_
    refine r_iret hX hR d_Ro_at_31 rfl rfl ?_
    exact ⟨by rw [ro_at, if_neg (by omega)], rfl⟩
  · refine q_iload hX 1 d_Ro_at_4 rfl (by first | rfl | assumption) ?_
    refine q_aload hX 0 d_Ro_at_5 rfl (by first | rfl | assumption) ?_
    refine r_getf hX d_Ro_at_6 fl_Ro_15 (by first | assumption | exact ev_set_self _ _ _ | (simp (disch := first | assumption | decide | omega) only [ev_set_self, ev_set_ne, ev_new_self, ev_new_ne]; first | done | assumption)) rfl ?_
    refine r_icmp_ge hX 30 d_Ro_at_9 (by decide) (fun c9 => ?_) (fun c9 => ?_)
    · rw [i_le, nI_toInt hc] at c9
      refine r_iconst (v := -1) hX d_Ro_at_30 (by decide) ?_
      refine r_iret hX hR d_Ro_at_31 rfl rfl ?_
      exact ⟨by rw [ro_at, if_neg (by omega)], rfl⟩
    · refine q_iload hX 1 d_Ro_at_12 rfl (by first | rfl | assumption) ?_
      refine q_aload hX 0 d_Ro_at_13 rfl (by first | rfl | assumption) ?_
      refine r_getf hX d_Ro_at_14 fl_Ro_9 (by first | assumption | exact ev_set_self _ _ _ | (simp (disch := first | assumption | decide | omega) only [ev_set_self, ev_set_ne, ev_new_self, ev_new_ne]; first | done | assumption)) rfl ?_
      refine r_alen hX d_Ro_at_17 (by first | assumption | exact ev_set_self _ _ _ | (simp (disch := first | assumption | decide | omega) only [ev_set_self, ev_set_ne, ev_new_self, ev_new_ne]; first | done | assumption)) rfl ?_
      refine r_icmp_ge hX 30 d_Ro_at_18 (by decide) (fun c18 => ?_) (fun c18 => ?_)
      · rw [i_le, nI_toInt hn] at c18
        refine r_iconst (v := -1) hX d_Ro_at_30 (by decide) ?_
        refine r_iret hX hR d_Ro_at_31 rfl rfl ?_
        exact ⟨by rw [ro_at, if_neg (by omega)], rfl⟩
      · rw [i_lt, i_0] at c1
        rw [i_le, nI_toInt hc] at c9
        rw [i_le, nI_toInt hn] at c18
        refine q_aload hX 0 d_Ro_at_21 rfl (by first | rfl | assumption) ?_
        refine r_getf hX d_Ro_at_22 fl_Ro_9 (by first | assumption | exact ev_set_self _ _ _ | (simp (disch := first | assumption | decide | omega) only [ev_set_self, ev_set_ne, ev_new_self, ev_new_ne]; first | done | assumption)) rfl ?_
        refine q_iload hX 1 d_Ro_at_25 rfl (by first | rfl | assumption) ?_
        refine r_iald hX d_Ro_at_26 (by first | assumption | exact ev_set_self _ _ _ | (simp (disch := first | assumption | decide | omega) only [ev_set_self, ev_set_ne, ev_new_self, ev_new_ne]; first | done | assumption)) rfl (i_in (by omega) (by omega)) ?_
        refine r_goto hX 31 d_Ro_at_27 (by decide) ?_
        refine r_iret hX hR d_Ro_at_31 rfl (by first | rfl | assumption) ?_
        exact ⟨by rw [ro_at, if_pos ⟨by omega, by omega, by omega⟩], rfl⟩
def ro_p1 (n : Nat) (f : Nat → Int32) (c : Nat) (x : Int32) : Nat → Int32 := if c < n then upd f c (x &&& 255) else f
theorem c_Ro_put {G : Ev_G} {w : Ev_W} {a b n c : Nat} {f : Nat → Int32} (h : is_Ro w a b n c f) (ha : 100 ≤ a) (hb : 100 ≤ b) (hc : c < 2 ^ 31) (hn : n < 2 ^ 31) (x : Int32) : ev_Met G M_Ro_put 0 0 0 [.ref a, .int x] w (fun v w' => v = none ∧ is_Ro w' a b n (c + 1) (ro_p1 n f c x) ∧ ev_sm w w' [a, b]) := by
  have hne := h.ne
  obtain ⟨h1, h2⟩ := h
  refine ev_Met.of md_Ro_put (Nat.le_of_ble_eq_true rfl) (fun X hX hR => ?_)
  refine q_aload hX 0 d_Ro_put_0 rfl (by first | rfl | assumption) ?_
  refine r_getf hX d_Ro_put_1 fl_Ro_15 (by first | assumption | exact ev_set_self _ _ _ | (simp (disch := first | assumption | decide | omega) only [ev_set_self, ev_set_ne, ev_new_self, ev_new_ne]; first | done | assumption)) rfl ?_
  refine q_aload hX 0 d_Ro_put_4 rfl (by first | rfl | assumption) ?_
  refine r_getf hX d_Ro_put_5 fl_Ro_9 (by first | assumption | exact ev_set_self _ _ _ | (simp (disch := first | assumption | decide | omega) only [ev_set_self, ev_set_ne, ev_new_self, ev_new_ne]; first | done | assumption)) rfl ?_
  refine r_alen hX d_Ro_put_8 (by first | assumption | exact ev_set_self _ _ _ | (simp (disch := first | assumption | decide | omega) only [ev_set_self, ev_set_ne, ev_new_self, ev_new_ne]; first | done | assumption)) rfl ?_
  refine r_icmp_ge hX 26 d_Ro_put_9 (by decide) (fun c9 => ?_) (fun c9 => ?_)
  · refine q_aload hX 0 d_Ro_put_26 rfl (by first | rfl | assumption) ?_
    refine r_dup hX d_Ro_put_27 rfl ?_
    refine r_getf hX d_Ro_put_28 fl_Ro_15 (by first | assumption | exact ev_set_self _ _ _ | (simp (disch := first | assumption | decide | omega) only [ev_set_self, ev_set_ne, ev_new_self, ev_new_ne]; first | done | assumption)) rfl ?_
    refine r_iconst (v := 1) hX d_Ro_put_31 (by decide) ?_
    refine r_iadd hX d_Ro_put_32 ?_
    refine r_putf hX d_Ro_put_33 fp_Ro_15 (by first | assumption | exact ev_set_self _ _ _ | (simp (disch := first | assumption | decide | omega) only [ev_set_self, ev_set_ne, ev_new_self, ev_new_ne]; first | done | assumption)) (by first | assumption | decide | omega) rfl rfl (Nat.le_of_ble_eq_true rfl) ?_
    refine r_vret hX hR d_Ro_put_36 rfl ?_
    refine ⟨rfl, ⟨?_, ?_⟩, ev_sm.s1 (by simp)⟩
    · rw [ev_set_self, nI_1]; rfl
    · rw [ev_set_ne _ _ (Ne.symm hne), h2, ro_p1, if_neg (by rw [i_le, nI_toInt hc, nI_toInt hn] at c9; omega)]
  · have hlt : c < n := by
      rw [i_le, nI_toInt hc, nI_toInt hn] at c9; omega
    refine q_aload hX 0 d_Ro_put_12 rfl (by first | rfl | assumption) ?_
    refine r_getf hX d_Ro_put_13 fl_Ro_9 (by first | assumption | exact ev_set_self _ _ _ | (simp (disch := first | assumption | decide | omega) only [ev_set_self, ev_set_ne, ev_new_self, ev_new_ne]; first | done | assumption)) rfl ?_
    refine q_aload hX 0 d_Ro_put_16 rfl (by first | rfl | assumption) ?_
    refine r_getf hX d_Ro_put_17 fl_Ro_15 (by first | assumption | exact ev_set_self _ _ _ | (simp (disch := first | assumption | decide | omega) only [ev_set_self, ev_set_ne, ev_new_self, ev_new_ne]; first | done | assumption)) rfl ?_
    refine q_iload hX 1 d_Ro_put_20 rfl (by first | rfl | assumption) ?_
    refine r_sipush (v := 255) hX d_Ro_put_21 (by decide) ?_
    refine r_iand hX d_Ro_put_24 ?_
    refine r_iast hX d_Ro_put_25 (by first | assumption | exact ev_set_self _ _ _ | (simp (disch := first | assumption | decide | omega) only [ev_set_self, ev_set_ne, ev_new_self, ev_new_ne]; first | done | assumption)) (by first | assumption | decide | omega) rfl (vp_in_nI hlt hn) ?_
    refine q_aload hX 0 d_Ro_put_26 rfl (by first | rfl | assumption) ?_
    refine r_dup hX d_Ro_put_27 rfl ?_
    refine r_getf hX d_Ro_put_28 fl_Ro_15 (by first | assumption | exact ev_set_self _ _ _ | (simp (disch := first | assumption | decide | omega) only [ev_set_self, ev_set_ne, ev_new_self, ev_new_ne]; first | done | assumption)) rfl ?_
    refine r_iconst (v := 1) hX d_Ro_put_31 (by decide) ?_
    refine r_iadd hX d_Ro_put_32 ?_
    refine r_putf hX d_Ro_put_33 fp_Ro_15 (by first | assumption | exact ev_set_self _ _ _ | (simp (disch := first | assumption | decide | omega) only [ev_set_self, ev_set_ne, ev_new_self, ev_new_ne]; first | done | assumption)) (by first | assumption | decide | omega) rfl rfl (Nat.le_of_ble_eq_true rfl) ?_
    refine r_vret hX hR d_Ro_put_36 rfl ?_
    refine ⟨rfl, ⟨?_, ?_⟩, (ev_sm.s1 (by simp)).set (by simp)⟩
    · rw [ev_set_self, nI_1]; rfl
    · rw [ev_set_ne _ _ (Ne.symm hne), ev_set_self, ro_p1, if_pos hlt, nI_clamp hc]
def ro_ch (n : Nat) (f : Nat → Int32) (c : Nat) (i x : Int32) : Nat → Int32 := if 0 ≤ i.toInt ∧ i.toInt < c ∧ i.toInt < n then upd f i.toNatClampNeg (x &&& 255) else f
theorem c_Ro_change {G : Ev_G} {w : Ev_W} {a b n c : Nat} {f : Nat → Int32} (h : is_Ro w a b n c f) (ha : 100 ≤ a) (hb : 100 ≤ b) (hc : c < 2 ^ 31) (hn : n < 2 ^ 31) (i x : Int32) : ev_Met G M_Ro_change 0 0 0 [.ref a, .int i, .int x] w (fun v w' => v = none ∧ is_Ro w' a b n c (ro_ch n f c i x) ∧ ev_sm w w' [a, b]) := by
  have hne := h.ne
  obtain ⟨h1, h2⟩ := h
  refine ev_Met.of md_Ro_change (Nat.le_of_ble_eq_true rfl) (fun X hX hR => ?_)
  refine q_iload hX 1 d_Ro_change_0 rfl (by first | rfl | assumption) ?_
  refine r_if_lt hX 32 d_Ro_change_1 (by decide) (fun c1 => ?_) (fun c1 => ?_)
  · rw [i_lt, i_0] at c1
    refine r_vret hX hR d_Ro_change_32 rfl ?_
    exact ⟨rfl, ⟨h1, by rw [h2, ro_ch, if_neg (by omega)]⟩, ev_sm.rf⟩
  · refine q_iload hX 1 d_Ro_change_4 rfl (by first | rfl | assumption) ?_
    refine q_aload hX 0 d_Ro_change_5 rfl (by first | rfl | assumption) ?_
    refine r_getf hX d_Ro_change_6 fl_Ro_15 (by first | assumption | exact ev_set_self _ _ _ | (simp (disch := first | assumption | decide | omega) only [ev_set_self, ev_set_ne, ev_new_self, ev_new_ne]; first | done | assumption)) rfl ?_
    refine r_icmp_ge hX 32 d_Ro_change_9 (by decide) (fun c9 => ?_) (fun c9 => ?_)
    · rw [i_le, nI_toInt hc] at c9
      refine r_vret hX hR d_Ro_change_32 rfl ?_
      exact ⟨rfl, ⟨h1, by rw [h2, ro_ch, if_neg (by omega)]⟩, ev_sm.rf⟩
    · refine q_iload hX 1 d_Ro_change_12 rfl (by first | rfl | assumption) ?_
      refine q_aload hX 0 d_Ro_change_13 rfl (by first | rfl | assumption) ?_
      refine r_getf hX d_Ro_change_14 fl_Ro_9 (by first | assumption | exact ev_set_self _ _ _ | (simp (disch := first | assumption | decide | omega) only [ev_set_self, ev_set_ne, ev_new_self, ev_new_ne]; first | done | assumption)) rfl ?_
      refine r_alen hX d_Ro_change_17 (by first | assumption | exact ev_set_self _ _ _ | (simp (disch := first | assumption | decide | omega) only [ev_set_self, ev_set_ne, ev_new_self, ev_new_ne]; first | done | assumption)) rfl ?_
      refine r_icmp_ge hX 32 d_Ro_change_18 (by decide) (fun c18 => ?_) (fun c18 => ?_)
      · rw [i_le, nI_toInt hn] at c18
        refine r_vret hX hR d_Ro_change_32 rfl ?_
        exact ⟨rfl, ⟨h1, by rw [h2, ro_ch, if_neg (by omega)]⟩, ev_sm.rf⟩
      · rw [i_lt, i_0] at c1
        rw [i_le, nI_toInt hc] at c9
        rw [i_le, nI_toInt hn] at c18
        refine q_aload hX 0 d_Ro_change_21 rfl (by first | rfl | assumption) ?_
        refine r_getf hX d_Ro_change_22 fl_Ro_9 (by first | assumption | exact ev_set_self _ _ _ | (simp (disch := first | assumption | decide | omega) only [ev_set_self, ev_set_ne, ev_new_self, ev_new_ne]; first | done | assumption)) rfl ?_
        refine q_iload hX 1 d_Ro_change_25 rfl (by first | rfl | assumption) ?_
        refine q_iload hX 2 d_Ro_change_26 rfl (by first | rfl | assumption) ?_
        refine r_sipush (v := 255) hX d_Ro_change_27 (by decide) ?_
        refine r_iand hX d_Ro_change_30 ?_
        refine r_iast hX d_Ro_change_31 (by first | assumption | exact ev_set_self _ _ _ | (simp (disch := first | assumption | decide | omega) only [ev_set_self, ev_set_ne, ev_new_self, ev_new_ne]; first | done | assumption)) (by first | assumption | decide | omega) rfl (i_in (by omega) (by omega)) ?_
        refine r_vret hX hR d_Ro_change_32 rfl ?_
        exact ⟨rfl, ⟨by rw [ev_set_ne _ _ hne]; exact h1, by rw [ev_set_self, ro_ch, if_pos ⟨by omega, by omega, by omega⟩]⟩, ev_sm.s1 (by simp)⟩
/-- the byte of a long that putNumber lays at k places before the end -/
def ro_bt (x : Int64) (k : Nat) : Int32 := ((x.toUInt64 >>> ((8 * nI k).toInt64.toUInt64 &&& Int64.toUInt64 63)).toInt64).toInt32
def ro_num (n : Nat) (x : Int64) : Nat → (Nat → Int32) → Nat → (Nat → Int32)
  | 0, f, _ => f
  | k + 1, f, c => ro_num n x k (ro_p1 n f c (ro_bt x k)) (c + 1)
theorem c_Ro_putNumber {G : Ev_G} {w : Ev_W} {a b n c : Nat} {f : Nat → Int32} (h : is_Ro w a b n c f) (ha : 100 ≤ a) (hb : 100 ≤ b) (hn : n < 2 ^ 31) (x : Int64) (k : Nat) (hk : c + k < 2 ^ 31) : ev_Met G M_Ro_putNumber 1 0 0 [.ref a, .long x, .int (nI k)] w (fun v w' => v = none ∧ is_Ro w' a b n (c + k) (ro_num n x k f c) ∧ ev_sm w w' [a, b]) := by
  refine ev_Met.of md_Ro_putNumber (Nat.le_of_ble_eq_true rfl) (fun X hX hR => ?_)
  have loop : ∀ (j : Nat) (c1 : Nat) (f1 : Nat → Int32) (ls : Ev_L) (w1 : Ev_W), is_Ro w1 a b n c1 f1 → c1 + j = c + k → ro_num n x j f1 c1 = ro_num n x k f c → ev_sm w w1 [a, b] → ls.1 0 = some (.ref a) → ls.2 1 = some x → ls.1 4 = some (.int (nI j - 1)) → ev_W G M_Ro_putNumber X 0 0 5 ls [] w1 := by
    intro j
    induction j with
    | zero =>
      intro c1 f1 ls w1 h e1 e2 hs l0 l1 l4
      refine r_iload hX d_Ro_putNumber_5 l4 ?_
      refine r_if_lt hX 28 d_Ro_putNumber_7 (by decide) (fun _ => ?_) (fun z => absurd (by decide) z)
      refine r_vret hX hR d_Ro_putNumber_28 rfl ?_
      rw [Nat.add_zero] at e1
      exact ⟨rfl, by rw [← e1, ← e2]; exact h, hs⟩
    | succ j ih =>
      intro c1 f1 ls w1 h e1 e2 hs l0 l1 l4
      rw [nI_pred] at l4
      refine r_iload hX d_Ro_putNumber_5 l4 ?_
      refine r_if_lt hX 28 d_Ro_putNumber_7 (by decide) (fun z => absurd z (nI_pos (by omega))) (fun _ => ?_)
      refine q_aload hX 0 d_Ro_putNumber_10 rfl (by first | rfl | assumption) ?_
      refine q_lload hX 1 d_Ro_putNumber_11 rfl (by first | rfl | assumption) ?_
      refine r_bipush (v := 8) hX d_Ro_putNumber_12 (by decide) ?_
      refine r_iload hX d_Ro_putNumber_14 (by first | rfl | assumption) ?_
      refine r_imul hX d_Ro_putNumber_16 ?_
      refine r_lushr hX d_Ro_putNumber_17 ?_
      refine r_l2i hX d_Ro_putNumber_18 ?_
      refine r_callV (as := [_]) hX d_Ro_putNumber_19 lk_Ro_19 h.1 rfl rfl (Nat.le_of_ble_eq_true rfl) (by decide) 0 0 (Nat.le_refl _) (Nat.le_refl _) (c_Ro_put h ha hb (by omega) hn _) (fun v w1 hq => ?_)
      obtain ⟨rfl, h9, hs9⟩ := hq
      refine r_iinc hX d_Ro_putNumber_22 (by first | rfl | assumption) ?_
      refine r_goto hX 5 d_Ro_putNumber_25 (by decide) ?_
      exact ih (c1 + 1) _ _ _ h9 (by omega) (by rw [← e2]; rfl) (hs.tr hs9) l0 l1 (by show some (Value.int (nI j + Int32.ofInt (-1))) = _; rw [i_dec])
  refine q_iload hX 3 d_Ro_putNumber_0 rfl (by first | rfl | assumption) ?_
  refine r_iconst (v := 1) hX d_Ro_putNumber_1 (by decide) ?_
  refine r_isub hX d_Ro_putNumber_2 ?_
  refine r_istore hX d_Ro_putNumber_3 (by decide) ?_
  exact loop k c f _ w h rfl rfl ev_sm.rf rfl rfl rfl
def ef_allOnes (i : Int32) : Int64 := ((1 : Int64) <<< ((7 * i).toInt64 &&& 63)) - 1
theorem c_EF_allOnes {G : Ev_G} {w : Ev_W} (i : Int32) : ev_Met G M_EF_allOnes 0 0 0 [.int i] w (fun v w' => v = some (.long (ef_allOnes i)) ∧ w' = w) := by
  refine ev_Met.of md_EF_allOnes (Nat.le_of_ble_eq_true rfl) (fun X hX hR => ?_)
  refine r_lconst (v := 1) hX d_EF_allOnes_0 (by decide) ?_
  refine r_bipush (v := 7) hX d_EF_allOnes_1 (by decide) ?_
  refine q_iload hX 0 d_EF_allOnes_3 rfl (by first | rfl | assumption) ?_
  refine r_imul hX d_EF_allOnes_4 ?_
  refine r_lshl hX d_EF_allOnes_5 ?_
  refine r_lconst (v := 1) hX d_EF_allOnes_6 (by decide) ?_
  refine r_lsub hX d_EF_allOnes_7 ?_
  refine r_lret hX hR d_EF_allOnes_8 rfl ?_
  exact ⟨rfl, rfl⟩
def ef_surplus (i : Int32) : Int64 := ((1 : Int64) <<< ((7 * i - 1).toInt64 &&& 63)) - 1
theorem c_EF_surplus {G : Ev_G} {w : Ev_W} (i : Int32) : ev_Met G M_EF_surplus 0 0 0 [.int i] w (fun v w' => v = some (.long (ef_surplus i)) ∧ w' = w) := by
  refine ev_Met.of md_EF_surplus (Nat.le_of_ble_eq_true rfl) (fun X hX hR => ?_)
  refine r_lconst (v := 1) hX d_EF_surplus_0 (by decide) ?_
  refine r_bipush (v := 7) hX d_EF_surplus_1 (by decide) ?_
  refine q_iload hX 0 d_EF_surplus_3 rfl (by first | rfl | assumption) ?_
  refine r_imul hX d_EF_surplus_4 ?_
  refine r_iconst (v := 1) hX d_EF_surplus_5 (by decide) ?_
  refine r_isub hX d_EF_surplus_6 ?_
  refine r_lshl hX d_EF_surplus_7 ?_
  refine r_lconst (v := 1) hX d_EF_surplus_8 (by decide) ?_
  refine r_lsub hX d_EF_surplus_9 ?_
  refine r_lret hX hR d_EF_surplus_10 rfl ?_
  exact ⟨rfl, rfl⟩
theorem c_Ro_putVint {G : Ev_G} {w : Ev_W} {a b n c : Nat} {f : Nat → Int32} (h : is_Ro w a b n c f) (ha : 100 ≤ a) (hb : 100 ≤ b) (hn : n < 2 ^ 31) (x : Int64) (k : Nat) (hk : c + k < 2 ^ 31) : ev_Met G M_Ro_putVint 2 0 0 [.ref a, .long x, .int (nI k)] w (fun v w' => v = none ∧ is_Ro w' a b n (c + k) (ro_num n ((ef_allOnes (nI k) + 1) ||| x) k f c) ∧ ev_sm w w' [a, b]) := by
  refine ev_Met.of md_Ro_putVint (Nat.le_of_ble_eq_true rfl) (fun X hX hR => ?_)
  refine q_aload hX 0 d_Ro_putVint_0 rfl (by first | rfl | assumption) ?_
  refine q_iload hX 3 d_Ro_putVint_1 rfl (by first | rfl | assumption) ?_
  refine r_callSN (as := [_]) hX d_Ro_putVint_2 lk_Ro_23 rfl (Nat.le_of_ble_eq_true rfl) (by decide) 0 0 (Nat.le_refl _) (Nat.le_refl _) (c_EF_allOnes _) (fun v w1 hq => ?_)
  obtain ⟨rfl, rfl⟩ := hq
  refine r_lconst (v := 1) hX d_Ro_putVint_5 (by decide) ?_
  refine r_ladd hX d_Ro_putVint_6 ?_
  refine q_lload hX 1 d_Ro_putVint_7 rfl (by first | rfl | assumption) ?_
  refine r_lor hX d_Ro_putVint_8 ?_
  refine q_iload hX 3 d_Ro_putVint_9 rfl (by first | rfl | assumption) ?_
  refine r_callV (as := [_, _]) hX d_Ro_putVint_10 lk_Ro_27 h.1 rfl rfl (Nat.le_of_ble_eq_true rfl) (by decide) 0 0 (Nat.le_refl _) (Nat.le_refl _) (c_Ro_putNumber h ha hb hn _ k hk) (fun v w1 hq => ?_)
  obtain ⟨rfl, h9, hs9⟩ := hq
  refine r_vret hX hR d_Ro_putVint_13 rfl ?_
  exact ⟨rfl, h9, hs9⟩
