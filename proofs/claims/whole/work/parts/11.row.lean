/-! ===== Row ===== -/
theorem i_lt {x y : Int32} : x < y ↔ x.toInt < y.toInt := Int32.lt_iff_toInt_lt
theorem i_le {x y : Int32} : x ≤ y ↔ x.toInt ≤ y.toInt := Int32.le_iff_toInt_le
theorem i_0 : (0 : Int32).toInt = 0 := rfl
theorem i_cl {x : Int32} (h : 0 ≤ x.toInt) : (x.toNatClampNeg : Int) = x.toInt := by
  unfold Int32.toNatClampNeg
  exact Int.toNat_of_nonneg h
theorem i_in {x : Int32} {n : Nat} (h : 0 ≤ x.toInt) (h2 : x.toInt < n) : vp_in x n := vp_in_iff.mpr ⟨h, h2⟩
def ro_at (n : Nat) (f : Nat → Int32) (c : Nat) (i : Int32) : Int32 := if 0 ≤ i.toInt ∧ i.toInt < c ∧ i.toInt < n then f i.toNatClampNeg else -1
def is_Ro (w : Ev_W) (a b n c : Nat) (f : Nat → Int32) : Prop := w.2 a = some (.inr (1, [.ref b, .int (nI c)])) ∧ w.2 b = some (.inl (0, n, .inl f))
theorem c_Ro_at {G : Ev_G} {d : Nat} {w : Ev_W} {a b n c : Nat} {f : Nat → Int32} (h : is_Ro w a b n c f) (hc : c < 2 ^ 31) (hn : n < 2 ^ 31) (i : Int32) : ev_Met G M_Ro_at d 0 0 [.ref a, .int i] w (fun v w' => v = some (.int (ro_at n f c i)) ∧ w' = w) := by
  obtain ⟨h1, h2⟩ := h
  refine ev_Met.of md_Ro_at (Nat.le_of_ble_eq_true rfl) (fun X hX hR => ?_)
  refine q_iload hX 1 d_Ro_at_0 rfl (by first | rfl | assumption) ?_
  refine r_if_lt hX 30 d_Ro_at_1 (by decide) (fun c1 => ?_) (fun c1 => ?_)
  · rw [i_lt, i_0] at c1
    refine r_iconst (v := -1) hX d_Ro_at_30 (by decide) ?_
    refine r_iret hX hR d_Ro_at_31 rfl rfl ?_
    exact ⟨by rw [ro_at, if_neg (by omega)], rfl⟩
  · refine q_iload hX 1 d_Ro_at_4 rfl (by first | rfl | assumption) ?_
    refine q_aload hX 0 d_Ro_at_5 rfl (by first | rfl | assumption) ?_
    refine r_getf hX d_Ro_at_6 fl_Ro_15 (by first | assumption | exact ev_set_self _ _ _ | (simp (disch := first | assumption | decide | omega) only [ev_set_self, ev_set_ne, ev_new_self, ev_new_ne]; first | done | assumption)) rfl ?_
    refine r_icmp_ge hX 30 d_Ro_at_9 (by decide) (fun c9 => ?_) (fun c9 => ?_)
    · rw [i_le, nI_toInt hc] at c9
      refine r_iconst (v := -1) hX d_Ro_at_30 (by decide) ?_
      refine r_iret hX hR d_Ro_at_31 rfl rfl ?_
      exact ⟨by rw [ro_at, if_neg (by omega)], rfl⟩
    · refine q_iload hX 1 d_Ro_at_12 rfl (by first | rfl | assumption) ?_
      refine q_aload hX 0 d_Ro_at_13 rfl (by first | rfl | assumption) ?_
      refine r_getf hX d_Ro_at_14 fl_Ro_9 (by first | assumption | exact ev_set_self _ _ _ | (simp (disch := first | assumption | decide | omega) only [ev_set_self, ev_set_ne, ev_new_self, ev_new_ne]; first | done | assumption)) rfl ?_
      refine r_alen hX d_Ro_at_17 (by first | assumption | exact ev_set_self _ _ _ | (simp (disch := first | assumption | decide | omega) only [ev_set_self, ev_set_ne, ev_new_self, ev_new_ne]; first | done | assumption)) rfl ?_
      refine r_icmp_ge hX 30 d_Ro_at_18 (by decide) (fun c18 => ?_) (fun c18 => ?_)
      · rw [i_le, nI_toInt hn] at c18
        refine r_iconst (v := -1) hX d_Ro_at_30 (by decide) ?_
        refine r_iret hX hR d_Ro_at_31 rfl rfl ?_
        exact ⟨by rw [ro_at, if_neg (by omega)], rfl⟩
      · rw [i_lt, i_0] at c1
        rw [i_le, nI_toInt hc] at c9
        rw [i_le, nI_toInt hn] at c18
        refine q_aload hX 0 d_Ro_at_21 rfl (by first | rfl | assumption) ?_
        refine r_getf hX d_Ro_at_22 fl_Ro_9 (by first | assumption | exact ev_set_self _ _ _ | (simp (disch := first | assumption | decide | omega) only [ev_set_self, ev_set_ne, ev_new_self, ev_new_ne]; first | done | assumption)) rfl ?_
        refine q_iload hX 1 d_Ro_at_25 rfl (by first | rfl | assumption) ?_
        refine r_iald hX d_Ro_at_26 (by first | assumption | exact ev_set_self _ _ _ | (simp (disch := first | assumption | decide | omega) only [ev_set_self, ev_set_ne, ev_new_self, ev_new_ne]; first | done | assumption)) rfl (i_in (by omega) (by omega)) ?_
        refine r_goto hX 31 d_Ro_at_27 (by decide) ?_
        refine r_iret hX hR d_Ro_at_31 rfl (by first | rfl | assumption) ?_
        exact ⟨by rw [ro_at, if_pos ⟨by omega, by omega, by omega⟩], rfl⟩
def ro_put (w : Ev_W) (a b n c : Nat) (f : Nat → Int32) (x : Int32) : Ev_W := ev_set (if c < n then ev_set w b (.inl (0, n, .inl (upd f c (x &&& 255)))) else w) a (.inr (1, [.ref b, .int (nI (c + 1))]))
theorem c_Ro_put {G : Ev_G} {d : Nat} {w : Ev_W} {a b n c : Nat} {f : Nat → Int32} (h : is_Ro w a b n c f) (ha : 100 ≤ a) (hb : 100 ≤ b) (hc : c < 2 ^ 31) (hn : n < 2 ^ 31) (x : Int32) : ev_Met G M_Ro_put d 0 0 [.ref a, .int x] w (fun v w' => v = none ∧ w' = ro_put w a b n c f x) := by
  obtain ⟨h1, h2⟩ := h
  have hne : a ≠ b := fun e => by subst e; rw [h1] at h2; cases h2
  refine ev_Met.of md_Ro_put (Nat.le_of_ble_eq_true rfl) (fun X hX hR => ?_)

  refine q_aload hX 0 d_Ro_put_0 rfl (by first | rfl | assumption) ?_
  refine r_getf hX d_Ro_put_1 fl_Ro_15 (by first | assumption | exact ev_set_self _ _ _ | (simp (disch := first | assumption | decide | omega) only [ev_set_self, ev_set_ne, ev_new_self, ev_new_ne]; first | done | assumption)) rfl ?_
  refine q_aload hX 0 d_Ro_put_4 rfl (by first | rfl | assumption) ?_
  refine r_getf hX d_Ro_put_5 fl_Ro_9 (by first | assumption | exact ev_set_self _ _ _ | (simp (disch := first | assumption | decide | omega) only [ev_set_self, ev_set_ne, ev_new_self, ev_new_ne]; first | done | assumption)) rfl ?_
  refine r_alen hX d_Ro_put_8 (by first | assumption | exact ev_set_self _ _ _ | (simp (disch := first | assumption | decide | omega) only [ev_set_self, ev_set_ne, ev_new_self, ev_new_ne]; first | done | assumption)) rfl ?_
  refine r_icmp_ge hX 26 d_Ro_put_9 (by decide) (fun c9 => ?_) (fun c9 => ?_)
  · refine q_aload hX 0 d_Ro_put_26 rfl (by first | rfl | assumption) ?_
    refine r_dup hX d_Ro_put_27 rfl ?_
    refine r_getf hX d_Ro_put_28 fl_Ro_15 (by first | assumption | exact ev_set_self _ _ _ | (simp (disch := first | assumption | decide | omega) only [ev_set_self, ev_set_ne, ev_new_self, ev_new_ne]; first | done | assumption)) rfl ?_
    refine r_iconst (v := 1) hX d_Ro_put_31 (by decide) ?_
    refine r_iadd hX d_Ro_put_32 ?_
    refine r_putf hX d_Ro_put_33 fp_Ro_15 (by first | assumption | exact ev_set_self _ _ _ | (simp (disch := first | assumption | decide | omega) only [ev_set_self, ev_set_ne, ev_new_self, ev_new_ne]; first | done | assumption)) (by first | assumption | decide | omega) rfl rfl (Nat.le_of_ble_eq_true rfl) ?_
    refine r_vret hX hR d_Ro_put_36 rfl ?_
    exact ⟨rfl, by unfold ro_put; rw [if_neg (by rw [i_le, nI_toInt hc, nI_toInt hn] at c9; omega), nI_1]; rfl⟩
  · have hlt : c < n := by
      rw [i_le, nI_toInt hc, nI_toInt hn] at c9; omega
    refine q_aload hX 0 d_Ro_put_12 rfl (by first | rfl | assumption) ?_
    refine r_getf hX d_Ro_put_13 fl_Ro_9 (by first | assumption | exact ev_set_self _ _ _ | (simp (disch := first | assumption | decide | omega) only [ev_set_self, ev_set_ne, ev_new_self, ev_new_ne]; first | done | assumption)) rfl ?_
    refine q_aload hX 0 d_Ro_put_16 rfl (by first | rfl | assumption) ?_
    refine r_getf hX d_Ro_put_17 fl_Ro_15 (by first | assumption | exact ev_set_self _ _ _ | (simp (disch := first | assumption | decide | omega) only [ev_set_self, ev_set_ne, ev_new_self, ev_new_ne]; first | done | assumption)) rfl ?_
    refine q_iload hX 1 d_Ro_put_20 rfl (by first | rfl | assumption) ?_
    refine r_sipush (v := 255) hX d_Ro_put_21 (by decide) ?_
    refine r_iand hX d_Ro_put_24 ?_
    refine r_iast hX d_Ro_put_25 (by first | assumption | exact ev_set_self _ _ _ | (simp (disch := first | assumption | decide | omega) only [ev_set_self, ev_set_ne, ev_new_self, ev_new_ne]; first | done | assumption)) (by first | assumption | decide | omega) rfl (vp_in_nI hlt hn) ?_
    refine q_aload hX 0 d_Ro_put_26 rfl (by first | rfl | assumption) ?_
    refine r_dup hX d_Ro_put_27 rfl ?_
    refine r_getf hX d_Ro_put_28 fl_Ro_15 (by first | assumption | exact ev_set_self _ _ _ | (simp (disch := first | assumption | decide | omega) only [ev_set_self, ev_set_ne, ev_new_self, ev_new_ne]; first | done | assumption)) rfl ?_
    refine r_iconst (v := 1) hX d_Ro_put_31 (by decide) ?_
    refine r_iadd hX d_Ro_put_32 ?_
    refine r_putf hX d_Ro_put_33 fp_Ro_15 (by first | assumption | exact ev_set_self _ _ _ | (simp (disch := first | assumption | decide | omega) only [ev_set_self, ev_set_ne, ev_new_self, ev_new_ne]; first | done | assumption)) (by first | assumption | decide | omega) rfl rfl (Nat.le_of_ble_eq_true rfl) ?_
    refine r_vret hX hR d_Ro_put_36 rfl ?_
    exact ⟨rfl, by unfold ro_put; rw [if_pos hlt, nI_1, nI_clamp hc]; rfl⟩
