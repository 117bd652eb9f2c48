/-! ===== Frames ===== -/
def is_Fr (w : Ev_W) (c f : Nat) (hs hb : Nat → Int32) : Prop := w.2 105 = some (.inr (2, [.ref 106, .ref 107, .int (nI c), .int (nI f)])) ∧ w.2 106 = some (.inl (0, 8, .inl hs)) ∧ w.2 107 = some (.inl (0, 400, .inl hb))
def fr_b (f n : Nat) (x : Int32) (hb : Nat → Int32) : Nat → Int32 := fun j => if f ≤ j ∧ j < f + n then (x + nI (j - f)) &&& 255 else hb j
theorem c_Fr_add {G : Ev_G} {w : Ev_W} {c f : Nat} {hs hb : Nat → Int32} (hfr : is_Fr w c f hs hb) (hc : c ≤ 8) (hf : f ≤ 400) (n : Nat) (hn : n ≤ 300) (x : Int32) : ev_Met G M_Fr_add 0 0 0 [.ref 105, .int (nI n), .int x] w (fun v w' => if c < 8 ∧ f + n ≤ 400 then v = some (.int 1) ∧ is_Fr w' (c + 1) (f + n) (upd hs c (nI n)) (fr_b f n x hb) ∧ ev_sm w w' [105, 106, 107] else v = some (.int 0) ∧ w' = w) := by
  obtain ⟨h1, h2, h3⟩ := hfr
  refine ev_Met.of md_Fr_add (Nat.le_of_ble_eq_true rfl) (fun X hX hR => ?_)
  refine q_aload hX 0 d_Fr_add_0 rfl (by first | rfl | assumption) ?_
  refine r_getf hX d_Fr_add_1 fl_Fr_18 (by first | assumption | exact ev_set_self _ _ _ | (simp (disch := first | assumption | decide | omega) only [ev_set_self, ev_set_ne, ev_new_self, ev_new_ne]; first | done | assumption)) rfl ?_
  refine q_aload hX 0 d_Fr_add_4 rfl (by first | rfl | assumption) ?_
  refine r_getf hX d_Fr_add_5 fl_Fr_9 (by first | assumption | exact ev_set_self _ _ _ | (simp (disch := first | assumption | decide | omega) only [ev_set_self, ev_set_ne, ev_new_self, ev_new_ne]; first | done | assumption)) rfl ?_
  refine r_alen hX d_Fr_add_8 (by first | assumption | exact ev_set_self _ _ _ | (simp (disch := first | assumption | decide | omega) only [ev_set_self, ev_set_ne, ev_new_self, ev_new_ne]; first | done | assumption)) rfl ?_
  refine r_icmp_ge hX 26 d_Fr_add_9 (by decide) (fun c9 => ?_) (fun c9 => ?_)
  · skip
    refine r_iconst (v := 0) hX d_Fr_add_26 (by decide) ?_
    refine r_iret hX hR d_Fr_add_27 rfl (by first | rfl | assumption) ?_
    rw [if_neg (fun z => absurd c9 (nI_ge z.1 (by decide)))]; exact ⟨rfl, rfl⟩
  · refine q_aload hX 0 d_Fr_add_12 rfl (by first | rfl | assumption) ?_
    refine r_getf hX d_Fr_add_13 fl_Fr_22 (by first | assumption | exact ev_set_self _ _ _ | (simp (disch := first | assumption | decide | omega) only [ev_set_self, ev_set_ne, ev_new_self, ev_new_ne]; first | done | assumption)) rfl ?_
    refine q_iload hX 1 d_Fr_add_16 rfl (by first | rfl | assumption) ?_
    refine r_iadd hX d_Fr_add_17 ?_
    refine q_aload hX 0 d_Fr_add_18 rfl (by first | rfl | assumption) ?_
    refine r_getf hX d_Fr_add_19 fl_Fr_15 (by first | assumption | exact ev_set_self _ _ _ | (simp (disch := first | assumption | decide | omega) only [ev_set_self, ev_set_ne, ev_new_self, ev_new_ne]; first | done | assumption)) rfl ?_
    refine r_alen hX d_Fr_add_22 (by first | assumption | exact ev_set_self _ _ _ | (simp (disch := first | assumption | decide | omega) only [ev_set_self, ev_set_ne, ev_new_self, ev_new_ne]; first | done | assumption)) rfl ?_
    refine r_icmp_le hX 28 d_Fr_add_23 (by decide) (fun c23 => ?_) (fun c23 => ?_)
    · have hc8 : c < 8 := by
        rw [i_le, nI_toInt (by omega), nI_toInt (by omega)] at c9; omega
      have hf400 : f + n ≤ 400 := by
        rw [nI_add, i_le, nI_toInt (by omega), nI_toInt (by omega)] at c23; omega
      have loop : ∀ (k i : Nat) (ls : Ev_L) (w1 : Ev_W), i + k = n → is_Fr w1 c f hs (fr_b f i x hb) → ev_sm w w1 [105, 106, 107] → ls.1 0 = some (.ref 105) → ls.1 1 = some (.int (nI n)) → ls.1 2 = some (.int x) → ls.1 3 = some (.int (nI i)) → ev_W G M_Fr_add X 0 0 30 ls [] w1 := by
        intro k
        induction k with
        | zero =>
          intro i ls w1 e1 hF1 hs1 l0 l1 l2 l3
          have hin : i = n := by omega
          rw [hin] at hF1
          obtain ⟨g1, g2, g3⟩ := hF1
          refine q_iload hX 3 d_Fr_add_30 rfl (by first | rfl | assumption) ?_
          refine q_iload hX 1 d_Fr_add_31 rfl (by first | rfl | assumption) ?_
          refine r_icmp_ge hX 59 d_Fr_add_32 (by decide) (fun _ => ?_) (fun c32 => absurd (nI_le (by omega) (by omega)) c32)
          refine q_aload hX 0 d_Fr_add_59 rfl (by first | rfl | assumption) ?_
          refine r_getf hX d_Fr_add_60 fl_Fr_9 (by first | assumption | exact ev_set_self _ _ _ | (simp (disch := first | assumption | decide | omega) only [ev_set_self, ev_set_ne, ev_new_self, ev_new_ne]; first | done | assumption)) rfl ?_
          refine q_aload hX 0 d_Fr_add_63 rfl (by first | rfl | assumption) ?_
          refine r_getf hX d_Fr_add_64 fl_Fr_18 (by first | assumption | exact ev_set_self _ _ _ | (simp (disch := first | assumption | decide | omega) only [ev_set_self, ev_set_ne, ev_new_self, ev_new_ne]; first | done | assumption)) rfl ?_
          refine q_iload hX 1 d_Fr_add_67 rfl (by first | rfl | assumption) ?_
          refine r_iast hX d_Fr_add_68 (by first | assumption | exact ev_set_self _ _ _ | (simp (disch := first | assumption | decide | omega) only [ev_set_self, ev_set_ne, ev_new_self, ev_new_ne]; first | done | assumption)) (by first | assumption | decide | omega) rfl (vp_in_nI hc8 (by decide)) ?_
          refine q_aload hX 0 d_Fr_add_69 rfl (by first | rfl | assumption) ?_
          refine r_dup hX d_Fr_add_70 rfl ?_
          refine r_getf hX d_Fr_add_71 fl_Fr_18 (by first | assumption | exact ev_set_self _ _ _ | (simp (disch := first | assumption | decide | omega) only [ev_set_self, ev_set_ne, ev_new_self, ev_new_ne]; first | done | assumption)) rfl ?_
          refine r_iconst (v := 1) hX d_Fr_add_74 (by decide) ?_
          refine r_iadd hX d_Fr_add_75 ?_
          refine r_putf hX d_Fr_add_76 fp_Fr_18 (by first | assumption | exact ev_set_self _ _ _ | (simp (disch := first | assumption | decide | omega) only [ev_set_self, ev_set_ne, ev_new_self, ev_new_ne]; first | done | assumption)) (by first | assumption | decide | omega) rfl rfl (Nat.le_of_ble_eq_true rfl) ?_
          refine q_aload hX 0 d_Fr_add_79 rfl (by first | rfl | assumption) ?_
          refine r_dup hX d_Fr_add_80 rfl ?_
          refine r_getf hX d_Fr_add_81 fl_Fr_22 (by first | assumption | exact ev_set_self _ _ _ | (simp (disch := first | assumption | decide | omega) only [ev_set_self, ev_set_ne, ev_new_self, ev_new_ne]; first | done | assumption)) rfl ?_
          refine q_iload hX 1 d_Fr_add_84 rfl (by first | rfl | assumption) ?_
          refine r_iadd hX d_Fr_add_85 ?_
          refine r_putf hX d_Fr_add_86 fp_Fr_22 (by first | assumption | exact ev_set_self _ _ _ | (simp (disch := first | assumption | decide | omega) only [ev_set_self, ev_set_ne, ev_new_self, ev_new_ne]; first | done | assumption)) (by first | assumption | decide | omega) rfl rfl (Nat.le_of_ble_eq_true rfl) ?_
          refine r_iconst (v := 1) hX d_Fr_add_89 (by decide) ?_
          refine r_iret hX hR d_Fr_add_90 rfl (by first | rfl | assumption) ?_
          rw [if_pos ⟨hc8, hf400⟩]
          refine ⟨rfl, ⟨?_, ?_, ?_⟩, ?_⟩
          · rw [ev_set_self, nI_1, nI_add]; rfl
          · rw [ev_set_ne _ _ (by decide), ev_set_ne _ _ (by decide), ev_set_self, nI_clamp (by omega)]
          · rw [ev_set_ne _ _ (by decide), ev_set_ne _ _ (by decide), ev_set_ne _ _ (by decide)]; exact g3
          · exact ((hs1.set (by simp)).set (by simp)).set (by simp)
        | succ k ih =>
          intro i ls w1 e1 hF1 hs1 l0 l1 l2 l3
          obtain ⟨g1, g2, g3⟩ := hF1
          refine q_iload hX 3 d_Fr_add_30 rfl (by first | rfl | assumption) ?_
          refine q_iload hX 1 d_Fr_add_31 rfl (by first | rfl | assumption) ?_
          refine r_icmp_ge hX 59 d_Fr_add_32 (by decide) (fun c32 => absurd c32 (nI_ge (by omega) (by omega))) (fun _ => ?_)
          refine q_aload hX 0 d_Fr_add_35 rfl (by first | rfl | assumption) ?_
          refine r_getf hX d_Fr_add_36 fl_Fr_15 (by first | assumption | exact ev_set_self _ _ _ | (simp (disch := first | assumption | decide | omega) only [ev_set_self, ev_set_ne, ev_new_self, ev_new_ne]; first | done | assumption)) rfl ?_
          refine q_aload hX 0 d_Fr_add_39 rfl (by first | rfl | assumption) ?_
          refine r_getf hX d_Fr_add_40 fl_Fr_22 (by first | assumption | exact ev_set_self _ _ _ | (simp (disch := first | assumption | decide | omega) only [ev_set_self, ev_set_ne, ev_new_self, ev_new_ne]; first | done | assumption)) rfl ?_
          refine q_iload hX 3 d_Fr_add_43 rfl (by first | rfl | assumption) ?_
          refine r_iadd hX d_Fr_add_44 ?_
          refine q_iload hX 2 d_Fr_add_45 rfl (by first | rfl | assumption) ?_
          refine q_iload hX 3 d_Fr_add_46 rfl (by first | rfl | assumption) ?_
          refine r_iadd hX d_Fr_add_47 ?_
          refine r_sipush (v := 255) hX d_Fr_add_48 (by decide) ?_
          refine r_iand hX d_Fr_add_51 ?_
          rw [nI_add]
          refine r_iast hX d_Fr_add_52 (by first | assumption | exact ev_set_self _ _ _ | (simp (disch := first | assumption | decide | omega) only [ev_set_self, ev_set_ne, ev_new_self, ev_new_ne]; first | done | assumption)) (by first | assumption | decide | omega) rfl (vp_in_nI (by omega) (by decide)) ?_
          rw [nI_clamp (by omega)]
          refine r_iinc hX d_Fr_add_53 (by first | rfl | assumption) ?_
          refine r_goto hX 30 d_Fr_add_56 (by decide) ?_
          refine ih (i + 1) _ _ (by omega) ⟨?_, ?_, ?_⟩ (hs1.set (by simp)) l0 l1 l2 (by show some (Value.int (nI i + Int32.ofInt 1)) = _; rw [show Int32.ofInt 1 = 1 from rfl, nI_1])
          · rw [ev_set_ne _ _ (by decide)]; exact g1
          · rw [ev_set_ne _ _ (by decide)]; exact g2
          · rw [ev_set_self]
            congr 5
            funext j
            unfold upd fr_b
            by_cases z : j = f + i
            · subst z; rw [if_pos rfl, if_pos ⟨by omega, by omega⟩, show f + i - f = i by omega]
            · rw [if_neg z]
              by_cases z2 : f ≤ j ∧ j < f + i
              · rw [if_pos z2, if_pos ⟨z2.1, by omega⟩]
              · rw [if_neg z2, if_neg (by omega)]
      refine r_iconst (v := 0) hX d_Fr_add_28 (by decide) ?_
      refine q_istore hX 3 d_Fr_add_29 rfl (by decide) ?_
      refine loop n 0 _ w (by omega) ?_ ev_sm.rf rfl rfl rfl rfl
      have hz : fr_b f 0 x hb = hb := by funext j; unfold fr_b; rw [if_neg (by omega)]
      rw [hz]; exact ⟨h1, h2, h3⟩
    · skip
      refine r_iconst (v := 0) hX d_Fr_add_26 (by decide) ?_
      refine r_iret hX hR d_Fr_add_27 rfl (by first | rfl | assumption) ?_
      rw [if_neg (fun z => c23 (by rw [nI_add]; exact nI_le z.2 (by decide)))]; exact ⟨rfl, rfl⟩
def fr_ev (hs : Nat → Int32) : Nat → Nat → Bool
  | 0, _ => true
  | k + 1, i => if hs i = hs 0 then fr_ev hs k (i + 1) else false
theorem c_Fr_areEven {G : Ev_G} {w : Ev_W} {c f : Nat} {hs hb : Nat → Int32} (hfr : is_Fr w c f hs hb) (hc : c ≤ 8) (hf : f ≤ 400) (hc1 : 1 ≤ c) : ev_Met G M_Fr_areEven 0 0 0 [.ref 105] w (fun v w' => v = some (.int (b_i (fr_ev hs (c - 1) 1))) ∧ w' = w) := by
  obtain ⟨h1, h2, h3⟩ := hfr
  refine ev_Met.of md_Fr_areEven (Nat.le_of_ble_eq_true rfl) (fun X hX hR => ?_)
  have loop : ∀ (k i : Nat) (ls : Ev_L), i + k = c → fr_ev hs k i = fr_ev hs (c - 1) 1 → ls.1 0 = some (.ref 105) → ls.1 1 = some (.int (nI i)) → ev_W G M_Fr_areEven X 0 0 2 ls [] w := by
    intro k
    induction k with
    | zero =>
      intro i ls e1 e2 l0 l1
      refine q_iload hX 1 d_Fr_areEven_2 rfl (by first | rfl | assumption) ?_
      refine q_aload hX 0 d_Fr_areEven_3 rfl (by first | rfl | assumption) ?_
      refine r_getf hX d_Fr_areEven_4 fl_Fr_18 (by first | assumption | exact ev_set_self _ _ _ | (simp (disch := first | assumption | decide | omega) only [ev_set_self, ev_set_ne, ev_new_self, ev_new_ne]; first | done | assumption)) rfl ?_
      refine r_icmp_ge hX 33 d_Fr_areEven_7 (by decide) (fun _ => ?_) (fun c7 => absurd (nI_le (by omega) (by omega)) c7)
      refine r_iconst (v := 1) hX d_Fr_areEven_33 (by decide) ?_
      refine r_iret hX hR d_Fr_areEven_34 rfl (by first | rfl | assumption) ?_
      exact ⟨by rw [← e2]; rfl, rfl⟩
    | succ k ih =>
      intro i ls e1 e2 l0 l1
      refine q_iload hX 1 d_Fr_areEven_2 rfl (by first | rfl | assumption) ?_
      refine q_aload hX 0 d_Fr_areEven_3 rfl (by first | rfl | assumption) ?_
      refine r_getf hX d_Fr_areEven_4 fl_Fr_18 (by first | assumption | exact ev_set_self _ _ _ | (simp (disch := first | assumption | decide | omega) only [ev_set_self, ev_set_ne, ev_new_self, ev_new_ne]; first | done | assumption)) rfl ?_
      refine r_icmp_ge hX 33 d_Fr_areEven_7 (by decide) (fun c7 => absurd c7 (nI_ge (by omega) (by omega))) (fun _ => ?_)
      refine q_aload hX 0 d_Fr_areEven_10 rfl (by first | rfl | assumption) ?_
      refine r_getf hX d_Fr_areEven_11 fl_Fr_9 (by first | assumption | exact ev_set_self _ _ _ | (simp (disch := first | assumption | decide | omega) only [ev_set_self, ev_set_ne, ev_new_self, ev_new_ne]; first | done | assumption)) rfl ?_
      refine q_iload hX 1 d_Fr_areEven_14 rfl (by first | rfl | assumption) ?_
      refine r_iald hX d_Fr_areEven_15 (by first | assumption | exact ev_set_self _ _ _ | (simp (disch := first | assumption | decide | omega) only [ev_set_self, ev_set_ne, ev_new_self, ev_new_ne]; first | done | assumption)) rfl (vp_in_nI (by omega) (by decide)) ?_
      refine q_aload hX 0 d_Fr_areEven_16 rfl (by first | rfl | assumption) ?_
      refine r_getf hX d_Fr_areEven_17 fl_Fr_9 (by first | assumption | exact ev_set_self _ _ _ | (simp (disch := first | assumption | decide | omega) only [ev_set_self, ev_set_ne, ev_new_self, ev_new_ne]; first | done | assumption)) rfl ?_
      refine r_iconst (v := 0) hX d_Fr_areEven_20 (by decide) ?_
      refine r_iald hX d_Fr_areEven_21 (by first | assumption | exact ev_set_self _ _ _ | (simp (disch := first | assumption | decide | omega) only [ev_set_self, ev_set_ne, ev_new_self, ev_new_ne]; first | done | assumption)) rfl (by rw [← nI_0]; exact vp_in_nI (by decide) (by decide)) ?_
      rw [nI_clamp (by omega), show (0 : Int32).toNatClampNeg = 0 from rfl]
      refine r_icmp_eq hX 27 d_Fr_areEven_22 (by decide) (fun c22 => ?_) (fun c22 => ?_)
      · refine r_iinc hX d_Fr_areEven_27 (by first | rfl | assumption) ?_
        refine r_goto hX 2 d_Fr_areEven_30 (by decide) ?_
        exact ih (i + 1) _ (by omega) (by rw [← e2, fr_ev, if_pos c22]) l0 (by show some (Value.int (nI i + Int32.ofInt 1)) = _; rw [show Int32.ofInt 1 = 1 from rfl, nI_1])
      · refine r_iconst (v := 0) hX d_Fr_areEven_25 (by decide) ?_
        refine r_iret hX hR d_Fr_areEven_26 rfl (by first | rfl | assumption) ?_
        exact ⟨by rw [← e2, fr_ev, if_neg c22]; rfl, rfl⟩
  refine r_iconst (v := 1) hX d_Fr_areEven_0 (by decide) ?_
  refine q_istore hX 1 d_Fr_areEven_1 rfl (by decide) ?_
  exact loop (c - 1) 1 _ (by omega) rfl rfl rfl
def fr_suit (c : Nat) (hs : Nat → Int32) (l : Int32) : Bool := decide (0 ≤ l.toInt ∧ l.toInt ≤ 3 ∧ c ≠ 0) && (if l = 0 then decide (c = 1) else (decide (¬ l = 2) || fr_ev hs (c - 1) 1))
theorem c_Fr_suit {G : Ev_G} {w : Ev_W} {c f : Nat} {hs hb : Nat → Int32} (hfr : is_Fr w c f hs hb) (hc : c ≤ 8) (hf : f ≤ 400) (lac : Int32) : ev_Met G M_Fr_suit 1 0 0 [.ref 105, .int lac] w (fun v w' => v = some (.int (b_i (fr_suit c hs lac))) ∧ w' = w) := by
  obtain ⟨h1, h2, h3⟩ := hfr
  refine ev_Met.of md_Fr_suit (Nat.le_of_ble_eq_true rfl) (fun X hX hR => ?_)
  refine q_iload hX 1 d_Fr_suit_0 rfl (by first | rfl | assumption) ?_
  refine r_if_lt hX 16 d_Fr_suit_1 (by decide) (fun c1 => ?_) (fun c1 => ?_)
  · refine r_iconst (v := 0) hX d_Fr_suit_16 (by decide) ?_
    refine r_iret hX hR d_Fr_suit_17 rfl (by first | rfl | assumption) ?_
    exact ⟨by rw [fr_suit, decide_eq_false (by intro z; rw [i_lt, i_0] at c1; omega), Bool.false_and]; rfl, rfl⟩
  · refine q_iload hX 1 d_Fr_suit_4 rfl (by first | rfl | assumption) ?_
    refine r_iconst (v := 3) hX d_Fr_suit_5 (by decide) ?_
    refine r_icmp_gt hX 16 d_Fr_suit_6 (by decide) (fun c6 => ?_) (fun c6 => ?_)
    · refine r_iconst (v := 0) hX d_Fr_suit_16 (by decide) ?_
      refine r_iret hX hR d_Fr_suit_17 rfl (by first | rfl | assumption) ?_
      exact ⟨by rw [fr_suit, decide_eq_false (by intro z; rw [i_lt, show (3 : Int32).toInt = 3 from rfl] at c6; omega), Bool.false_and]; rfl, rfl⟩
    · refine q_aload hX 0 d_Fr_suit_9 rfl (by first | rfl | assumption) ?_
      refine r_getf hX d_Fr_suit_10 fl_Fr_18 (by first | assumption | exact ev_set_self _ _ _ | (simp (disch := first | assumption | decide | omega) only [ev_set_self, ev_set_ne, ev_new_self, ev_new_ne]; first | done | assumption)) rfl ?_
      have hz13 : nI c = 0 ↔ c = 0 := by rw [show (0 : Int32) = nI 0 from rfl]; exact nI_eq (by omega) (by decide)
      refine r_if_ne hX 18 d_Fr_suit_13 (by decide) (fun c13 => ?_) (fun c13 => ?_)
      · refine q_iload hX 1 d_Fr_suit_18 rfl (by first | rfl | assumption) ?_
        refine r_if_ne hX 36 d_Fr_suit_19 (by decide) (fun c19 => ?_) (fun c19 => ?_)
        · refine q_iload hX 1 d_Fr_suit_36 rfl (by first | rfl | assumption) ?_
          refine r_iconst (v := 2) hX d_Fr_suit_37 (by decide) ?_
          refine r_icmp_ne hX 48 d_Fr_suit_38 (by decide) (fun c38 => ?_) (fun c38 => ?_)
          · refine r_iconst (v := 1) hX d_Fr_suit_48 (by decide) ?_
            refine r_goto hX 53 d_Fr_suit_49 (by decide) ?_
            refine r_iret hX hR d_Fr_suit_53 rfl (by first | rfl | assumption) ?_
            exact ⟨by rw [fr_suit, decide_eq_true ⟨by rw [i_lt, i_0] at c1; omega, by rw [i_lt, show (3 : Int32).toInt = 3 from rfl] at c6; omega, fun z => c13 (hz13.mpr z)⟩, Bool.true_and, if_neg c19, decide_eq_true (p := ¬ lac = 2) c38, Bool.true_or]; rfl, rfl⟩
          · refine q_aload hX 0 d_Fr_suit_41 rfl (by first | rfl | assumption) ?_
            refine r_callV (as := []) hX d_Fr_suit_42 lk_Fr_25 h1 rfl rfl (Nat.le_of_ble_eq_true rfl) (by decide) 0 0 (Nat.le_refl _) (Nat.le_refl _) (c_Fr_areEven (G := G) ⟨h1, h2, h3⟩ hc hf (Nat.pos_of_ne_zero (fun z => c13 (hz13.mpr z)))) (fun v w1 hq => ?_)
            obtain ⟨rfl, rfl⟩ := hq
            refine r_if_eq hX 52 d_Fr_suit_45 (by decide) (fun c45 => ?_) (fun c45 => ?_)
            · refine r_iconst (v := 0) hX d_Fr_suit_52 (by decide) ?_
              refine r_iret hX hR d_Fr_suit_53 rfl (by first | rfl | assumption) ?_
              exact ⟨by rw [fr_suit, decide_eq_true ⟨by rw [i_lt, i_0] at c1; omega, by rw [i_lt, show (3 : Int32).toInt = 3 from rfl] at c6; omega, fun z => c13 (hz13.mpr z)⟩, Bool.true_and, if_neg c19, b_i_0 c45, decide_eq_false (p := ¬ lac = 2) (fun z => z c38), Bool.or_self]; rfl, rfl⟩
            · refine r_iconst (v := 1) hX d_Fr_suit_48 (by decide) ?_
              refine r_goto hX 53 d_Fr_suit_49 (by decide) ?_
              refine r_iret hX hR d_Fr_suit_53 rfl (by first | rfl | assumption) ?_
              exact ⟨by rw [fr_suit, decide_eq_true ⟨by rw [i_lt, i_0] at c1; omega, by rw [i_lt, show (3 : Int32).toInt = 3 from rfl] at c6; omega, fun z => c13 (hz13.mpr z)⟩, Bool.true_and, if_neg c19, b_i_1 c45, Bool.or_true]; rfl, rfl⟩
        · refine q_aload hX 0 d_Fr_suit_22 rfl (by first | rfl | assumption) ?_
          refine r_getf hX d_Fr_suit_23 fl_Fr_18 (by first | assumption | exact ev_set_self _ _ _ | (simp (disch := first | assumption | decide | omega) only [ev_set_self, ev_set_ne, ev_new_self, ev_new_ne]; first | done | assumption)) rfl ?_
          refine r_iconst (v := 1) hX d_Fr_suit_26 (by decide) ?_
          have hz27 : nI c = 1 ↔ c = 1 := by rw [show (1 : Int32) = nI 1 from rfl]; exact nI_eq (by omega) (by decide)
          refine r_icmp_ne hX 34 d_Fr_suit_27 (by decide) (fun c27 => ?_) (fun c27 => ?_)
          · refine r_iconst (v := 0) hX d_Fr_suit_34 (by decide) ?_
            refine r_iret hX hR d_Fr_suit_35 rfl (by first | rfl | assumption) ?_
            exact ⟨by rw [fr_suit, decide_eq_true ⟨by rw [i_lt, i_0] at c1; omega, by rw [i_lt, show (3 : Int32).toInt = 3 from rfl] at c6; omega, fun z => c13 (hz13.mpr z)⟩, Bool.true_and, if_pos c19, decide_eq_false (p := c = 1) (fun z => c27 (hz27.mpr z))]; rfl, rfl⟩
          · refine r_iconst (v := 1) hX d_Fr_suit_30 (by decide) ?_
            refine r_goto hX 35 d_Fr_suit_31 (by decide) ?_
            refine r_iret hX hR d_Fr_suit_35 rfl (by first | rfl | assumption) ?_
            exact ⟨by rw [fr_suit, decide_eq_true ⟨by rw [i_lt, i_0] at c1; omega, by rw [i_lt, show (3 : Int32).toInt = 3 from rfl] at c6; omega, fun z => c13 (hz13.mpr z)⟩, Bool.true_and, if_pos c19, decide_eq_true (p := c = 1) (hz27.mp c27)]; rfl, rfl⟩
      · refine r_iconst (v := 0) hX d_Fr_suit_16 (by decide) ?_
        refine r_iret hX hR d_Fr_suit_17 rfl (by first | rfl | assumption) ?_
        exact ⟨by rw [fr_suit, decide_eq_false (by intro z; exact z.2.2 (hz13.mp c13)), Bool.false_and]; rfl, rfl⟩
def fr_p (c : Nat) (hs pf : Nat → Int32) : Nat → Int32 := fun j => if j < c then hs j else pf j
def fr_s (sd f : Nat) (hb sf : Nat → Int32) : Nat → Int32 := fun j => if sd ≤ j ∧ j < sd + f then hb (j - sd) else sf j
def el_am (E : Ev_E) (x : Int64) : Ev_E := (E.1, E.2.1, x, E.2.2.2)
set_option maxHeartbeats 1000000 in
theorem c_Fr_moveTo {G : Ev_G} {w : Ev_W} {c f n sd a : Nat} {hs hb : Nat → Int32} {L As : Nat → Option Nat} {sf pf : Nat → Int32} {E : Ev_E} (hfr : is_Fr w c f hs hb) (hc : c ≤ 8) (hf : f ≤ 400) (htr : is_Tr w n L As sf sd) (hn : n ≤ 60) (hsd : sd + f ≤ 1200) (h : w.2 a = some (el_C a E)) (hp : w.2 (a + 1) = some (.inl (0, 16, .inl pf))) (ha : 139 ≤ a) (he : E.2.2.1 = 0) : ev_Met G M_Fr_moveTo 1 0 0 [.ref 105, .ref a, .ref 108] w (fun v w' => v = none ∧ is_Fr w' 0 0 hs hb ∧ is_Tr w' n L As (fr_s sd f hb sf) (sd + f) ∧ w'.2 a = some (el_C a (el_s (el_am E (lN c)) (nI sd) (nI f))) ∧ w'.2 (a + 1) = some (.inl (0, 16, .inl (fr_p c hs pf))) ∧ ev_sm w w' [105, 108, 111, a, a + 1]) := by
  refine ev_Met.of md_Fr_moveTo (Nat.le_of_ble_eq_true rfl) (fun X hX hR => ?_)
  have lp2 : ∀ (k i : Nat) (ls : Ev_L) (w1 : Ev_W), i + k = f → is_Fr w1 c f hs hb → is_Tr w1 n L As (fr_s sd i hb sf) (sd + i) → w1.2 a = some (el_C a (el_s (el_am E (lN c)) (nI sd) (nI i))) → w1.2 (a + 1) = some (.inl (0, 16, .inl (fr_p c hs pf))) → ev_sm w w1 [105, 108, 111, a, a + 1] → ls.1 0 = some (.ref 105) → ls.1 1 = some (.ref a) → ls.1 2 = some (.ref 108) → ls.1 3 = some (.int (nI i)) → ev_W G M_Fr_moveTo X 0 0 34 ls [] w1 := by
    intro k
    induction k with
    | zero =>
      intro i ls w1 e1 g1 g3 g4 g5 g6 l0 l1 l2 l3
      have hic : i = f := by omega
      rw [hic] at g3 g4
      obtain ⟨f1, f2, f3⟩ := g1
      refine q_iload hX 3 d_Fr_moveTo_34 rfl (by first | rfl | assumption) ?_
      refine q_aload hX 0 d_Fr_moveTo_35 rfl (by first | rfl | assumption) ?_
      refine r_getf hX d_Fr_moveTo_36 fl_Fr_22 (by first | assumption | exact ev_set_self _ _ _ | (simp (disch := first | assumption | decide | omega) only [ev_set_self, ev_set_ne, ev_new_self, ev_new_ne]; first | done | assumption)) rfl ?_
      refine r_icmp_ge hX 59 d_Fr_moveTo_39 (by decide) (fun _ => ?_) (fun c39 => absurd (nI_le (by omega) (by omega)) c39)
      refine q_aload hX 0 d_Fr_moveTo_59 rfl (by first | rfl | assumption) ?_
      refine r_iconst (v := 0) hX d_Fr_moveTo_60 (by decide) ?_
      refine r_putf hX d_Fr_moveTo_61 fp_Fr_18 (by first | assumption | exact ev_set_self _ _ _ | (simp (disch := first | assumption | decide | omega) only [ev_set_self, ev_set_ne, ev_new_self, ev_new_ne]; first | done | assumption)) (by first | assumption | decide | omega) rfl rfl (Nat.le_of_ble_eq_true rfl) ?_
      refine q_aload hX 0 d_Fr_moveTo_64 rfl (by first | rfl | assumption) ?_
      refine r_iconst (v := 0) hX d_Fr_moveTo_65 (by decide) ?_
      refine r_putf hX d_Fr_moveTo_66 fp_Fr_22 (by first | assumption | exact ev_set_self _ _ _ | (simp (disch := first | assumption | decide | omega) only [ev_set_self, ev_set_ne, ev_new_self, ev_new_ne]; first | done | assumption)) (by first | assumption | decide | omega) rfl rfl (Nat.le_of_ble_eq_true rfl) ?_
      refine r_vret hX hR d_Fr_moveTo_69 rfl ?_
      refine ⟨rfl, ⟨?_, ?_, ?_⟩, ⟨?_, ?_, ?_, ?_⟩, ?_, ?_, (g6.set (by simp)).set (by simp)⟩
      · rw [ev_set_self]; rfl
      · rw [ev_set_ne _ _ (by decide), ev_set_ne _ _ (by decide)]; exact f2
      · rw [ev_set_ne _ _ (by decide), ev_set_ne _ _ (by decide)]; exact f3
      · rw [ev_set_ne _ _ (by decide), ev_set_ne _ _ (by decide)]; exact g3.1
      · rw [ev_set_ne _ _ (by decide), ev_set_ne _ _ (by decide)]; exact g3.2.1
      · rw [ev_set_ne _ _ (by decide), ev_set_ne _ _ (by decide)]; exact g3.2.2.1
      · rw [ev_set_ne _ _ (by decide), ev_set_ne _ _ (by decide)]; exact g3.2.2.2
      · rw [ev_set_ne _ _ (by omega), ev_set_ne _ _ (by omega)]; exact g4
      · rw [ev_set_ne _ _ (by omega), ev_set_ne _ _ (by omega)]; exact g5
    | succ k ih =>
      intro i ls w1 e1 g1 g3 g4 g5 g6 l0 l1 l2 l3
      refine q_iload hX 3 d_Fr_moveTo_34 rfl (by first | rfl | assumption) ?_
      refine q_aload hX 0 d_Fr_moveTo_35 rfl (by first | rfl | assumption) ?_
      refine r_getf hX d_Fr_moveTo_36 fl_Fr_22 g1.1 rfl ?_
      refine r_icmp_ge hX 59 d_Fr_moveTo_39 (by decide) (fun c39 => absurd c39 (nI_ge (by omega) (by omega))) (fun _ => ?_)
      refine q_aload hX 2 d_Fr_moveTo_42 rfl (by first | rfl | assumption) ?_
      refine q_aload hX 1 d_Fr_moveTo_43 rfl (by first | rfl | assumption) ?_
      refine q_aload hX 0 d_Fr_moveTo_44 rfl (by first | rfl | assumption) ?_
      refine r_getf hX d_Fr_moveTo_45 fl_Fr_15 g1.1 rfl ?_
      refine q_iload hX 3 d_Fr_moveTo_48 rfl (by first | rfl | assumption) ?_
      refine r_iald hX d_Fr_moveTo_49 g1.2.2 rfl (vp_in_nI (by omega) (by decide)) ?_
      rw [nI_clamp (by omega)]
      refine r_callV (as := [_, _]) hX d_Fr_moveTo_50 lk_Fr_41 g3.1 rfl rfl (Nat.le_of_ble_eq_true rfl) (by decide) 0 0 (Nat.le_refl _) (Nat.le_refl _) (c_Tr_storeFor (G := G) g3 hn (by omega) g4 ha (by omega) _) (fun v w2 hq => ?_)
      obtain ⟨rfl, q3, q4, q6⟩ := hq
      refine r_iinc hX d_Fr_moveTo_53 (by first | rfl | assumption) ?_
      refine r_goto hX 34 d_Fr_moveTo_56 (by decide) ?_
      refine ih (i + 1) _ w2 (by omega) ⟨?_, ?_, ?_⟩ ?_ ?_ ?_ (g6.tr (q6.up (by simp))) l0 l1 l2 (by show some (Value.int (nI i + Int32.ofInt 1)) = _; rw [show Int32.ofInt 1 = 1 from rfl, nI_1])
      · rw [q6.2 105 (by simp; omega)]; exact g1.1
      · rw [q6.2 106 (by simp; omega)]; exact g1.2.1
      · rw [q6.2 107 (by simp; omega)]; exact g1.2.2
      · have hz : upd (fr_s sd i hb sf) (sd + i) (hb i) = fr_s sd (i + 1) hb sf := by
          funext j
          unfold upd fr_s
          by_cases z : j = sd + i
          · subst z; rw [if_pos rfl, if_pos ⟨by omega, by omega⟩, show sd + i - sd = i by omega]
          · rw [if_neg z]
            by_cases z2 : sd ≤ j ∧ j < sd + i
            · rw [if_pos z2, if_pos ⟨z2.1, by omega⟩]
            · rw [if_neg z2, if_neg (by omega)]
        rw [← hz, ← Nat.add_assoc]
        exact q3
      · rw [q4]
        show some (el_C a (el_s (el_s (el_am E (lN c)) (nI sd) (nI i)) (nI sd) (nI i + 1))) = _
        rw [nI_1]
        congr 2
        unfold el_s
        congr 3
        funext j
        unfold upd
        by_cases z : j = 4
        · subst z; rfl
        · by_cases z2 : j = 3
          · subst z2; rfl
          · simp [z, z2]
      · rw [q6.2 (a + 1) (by simp; omega)]; exact g5
  have lp1 : ∀ (k i : Nat) (ls : Ev_L) (w1 : Ev_W), i + k = c → is_Fr w1 c f hs hb → is_Tr w1 n L As sf sd → w1.2 a = some (el_C a (el_am E (lN i))) → w1.2 (a + 1) = some (.inl (0, 16, .inl (fr_p i hs pf))) → ev_sm w w1 [105, 108, 111, a, a + 1] → ls.1 0 = some (.ref 105) → ls.1 1 = some (.ref a) → ls.1 2 = some (.ref 108) → ls.1 3 = some (.int (nI i)) → ev_W G M_Fr_moveTo X 0 0 2 ls [] w1 := by
    intro k
    induction k with
    | zero =>
      intro i ls w1 e1 g1 g3 g4 g5 g6 l0 l1 l2 l3
      have hic : i = c := by omega
      rw [hic] at g4 g5
      refine q_iload hX 3 d_Fr_moveTo_2 rfl (by first | rfl | assumption) ?_
      refine q_aload hX 0 d_Fr_moveTo_3 rfl (by first | rfl | assumption) ?_
      refine r_getf hX d_Fr_moveTo_4 fl_Fr_18 g1.1 rfl ?_
      refine r_icmp_ge hX 27 d_Fr_moveTo_7 (by decide) (fun _ => ?_) (fun c7 => absurd (nI_le (by omega) (by omega)) c7)
      refine q_aload hX 2 d_Fr_moveTo_27 rfl (by first | rfl | assumption) ?_
      refine q_aload hX 1 d_Fr_moveTo_28 rfl (by first | rfl | assumption) ?_
      refine r_callV (as := [_]) hX d_Fr_moveTo_29 lk_Fr_35 g3.1 rfl rfl (Nat.le_of_ble_eq_true rfl) (by decide) 0 0 (Nat.le_refl _) (Nat.le_refl _) (c_Tr_beginStoring (G := G) g3 hn (by omega) g4 (by omega)) (fun v w2 hq => ?_)
      obtain ⟨rfl, q4, q6⟩ := hq
      refine r_iconst (v := 0) hX d_Fr_moveTo_32 (by decide) ?_
      refine q_istore hX 3 d_Fr_moveTo_33 rfl (by decide) ?_
      refine lp2 f 0 _ w2 (by omega) ⟨?_, ?_, ?_⟩ ?_ ?_ ?_ (g6.tr (q6.up (by simp))) l0 l1 l2 rfl
      · rw [q6.2 105 (by simp; omega)]; exact g1.1
      · rw [q6.2 106 (by simp; omega)]; exact g1.2.1
      · rw [q6.2 107 (by simp; omega)]; exact g1.2.2
      · have hz : fr_s sd 0 hb sf = sf := by funext j; unfold fr_s; rw [if_neg (by omega)]
        rw [hz]
        exact ⟨by rw [q6.2 108 (by simp; omega)]; exact g3.1, by rw [q6.2 109 (by simp; omega)]; exact g3.2.1, by rw [q6.2 110 (by simp; omega)]; exact g3.2.2.1, by rw [q6.2 111 (by simp; omega)]; exact g3.2.2.2⟩
      · exact q4
      · rw [q6.2 (a + 1) (by simp)]; exact g5
    | succ k ih =>
      intro i ls w1 e1 g1 g3 g4 g5 g6 l0 l1 l2 l3
      refine q_iload hX 3 d_Fr_moveTo_2 rfl (by first | rfl | assumption) ?_
      refine q_aload hX 0 d_Fr_moveTo_3 rfl (by first | rfl | assumption) ?_
      refine r_getf hX d_Fr_moveTo_4 fl_Fr_18 g1.1 rfl ?_
      refine r_icmp_ge hX 27 d_Fr_moveTo_7 (by decide) (fun c7 => absurd c7 (nI_ge (by omega) (by omega))) (fun _ => ?_)
      refine q_aload hX 1 d_Fr_moveTo_10 rfl (by first | rfl | assumption) ?_
      refine q_aload hX 0 d_Fr_moveTo_11 rfl (by first | rfl | assumption) ?_
      refine r_getf hX d_Fr_moveTo_12 fl_Fr_9 g1.1 rfl ?_
      refine q_iload hX 3 d_Fr_moveTo_15 rfl (by first | rfl | assumption) ?_
      refine r_iald hX d_Fr_moveTo_16 g1.2.1 rfl (vp_in_nI (by omega) (by decide)) ?_
      rw [nI_clamp (by omega)]
      refine r_callV (as := [_]) hX d_Fr_moveTo_17 lk_Fr_29 g4 rfl rfl (Nat.le_of_ble_eq_true rfl) (by decide) 0 0 (Nat.le_refl _) (Nat.le_refl _) (c_El_addPart (G := G) (n := i) g4 g5 (by omega) (by omega) (by rfl) _) (fun v w2 hq => ?_)
      rw [if_pos (by omega)] at hq
      obtain ⟨rfl, q4, q5, q6⟩ := hq
      refine r_pop hX d_Fr_moveTo_20 rfl ?_
      refine r_iinc hX d_Fr_moveTo_21 (by first | rfl | assumption) ?_
      refine r_goto hX 2 d_Fr_moveTo_24 (by decide) ?_
      refine ih (i + 1) _ w2 (by omega) ⟨?_, ?_, ?_⟩ ⟨?_, ?_, ?_, ?_⟩ ?_ ?_ (g6.tr (q6.up (by simp))) l0 l1 l2 (by show some (Value.int (nI i + Int32.ofInt 1)) = _; rw [show Int32.ofInt 1 = 1 from rfl, nI_1])
      · rw [q6.2 105 (by simp; omega)]; exact g1.1
      · rw [q6.2 106 (by simp; omega)]; exact g1.2.1
      · rw [q6.2 107 (by simp; omega)]; exact g1.2.2
      · rw [q6.2 108 (by simp; omega)]; exact g3.1
      · rw [q6.2 109 (by simp; omega)]; exact g3.2.1
      · rw [q6.2 110 (by simp; omega)]; exact g3.2.2.1
      · rw [q6.2 111 (by simp; omega)]; exact g3.2.2.2
      · rw [q4]
        show some (el_C a (E.1, E.2.1, lN i + 1, E.2.2.2)) = _
        rw [lN_1]; rfl
      · rw [q5]
        congr 5
        funext j
        unfold upd fr_p
        by_cases z : j = i
        · subst z; rw [if_pos rfl, if_pos (by omega)]
        · rw [if_neg z]
          by_cases z2 : j < i
          · rw [if_pos z2, if_pos (by omega)]
          · rw [if_neg z2, if_neg (by omega)]
  refine r_iconst (v := 0) hX d_Fr_moveTo_0 (by decide) ?_
  refine q_istore hX 3 d_Fr_moveTo_1 rfl (by decide) ?_
  refine lp1 c 0 _ w (by omega) hfr htr ?_ ?_ ev_sm.rf rfl rfl rfl rfl
  · have hz : el_am E (lN 0) = E := by obtain ⟨x1, x2, x3, x4⟩ := E; have he : x3 = 0 := he; subst he; rfl
    rw [hz]; exact h
  · have hz : fr_p 0 hs pf = pf := by funext j; unfold fr_p; rw [if_neg (by omega)]
    rw [hz]; exact hp
