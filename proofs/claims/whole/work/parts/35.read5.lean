/-! ===== Reader: a CHECK, a text ===== -/
theorem cr_s_ext {h h' : Nat → Int32} : ∀ (k p : Nat) (b : Int32), (∀ i, p ≤ i → i < p + k → h i = h' i) → cr_s h k p b = cr_s h' k p b
  | 0, _, _, _ => rfl
  | k + 1, p, b, z => by rw [cr_s, cr_s, z p (Nat.le_refl _) (by omega), cr_s_ext k (p + 1) _ (fun i h1 h2 => z i (by omega) (by omega))]
def rk_go (g : Nat → Nat) (p : Nat) (s : Int32) : Nat → Nat → Bool
  | 0, _ => true
  | k + 1, i => if nI (g (p + i)) = cr_b s i &&& 255 then rk_go g p s k (i + 1) else false
def rk (g : Nat → Nat) (p e me : Nat) : Bool := decide (e - p = 4) && rk_go g p (cr_s (fun i => nI (g i)) (me - e) e (-1) ^^^ -1) 4 0
def tx (g : Nat → Nat) : Nat → Nat → Bool → Nat → Option (List Nat)
  | 0, _, _, _ => some []
  | k + 1, p, ov, n => if g p = 0 then tx g k (p + 1) true n else if ov = true ∨ ef_isl (nI (g p)) = false ∨ ¬ n < 16 then none else (tx g k (p + 1) ov (n + 1)).map (fun l => g p :: l)
theorem c_Re_readCheck {G : Ev_G} {w : Ev_W} {c : Nat} {f : Nat → Int32} (hin : is_Ro w 101 102 640 c f) {g : Nat → Nat} (hg : rd_g c f g) {fp tg vf vL : Int32} {ms : Option Nat} {p e : Nat} (hre : is_Re w fp ms (nI p) (nI e) tg vf vL) (hec : e ≤ c) (hpe : p ≤ e) {a : Nat} {E : Ev_E} (hE : w.2 a = some (el_C a E)) {mm : Nat} {Em : Ev_E} (hmm : E.2.1 = some mm) (hM : w.2 mm = some (el_C mm Em)) {me : Nat} (hme : Em.2.2.2 9 = nI me) (hmc : me ≤ c) : ev_Met G M_Re_readCheck 2 0 0 [.ref 112, .ref a] w (fun v w' => v = some (.int (b_i (rk g p e me))) ∧ w' = w) := by
  have hc := hg.1
  unfold is_Re at hre
  refine ev_Met.of md_Re_readCheck (Nat.le_of_ble_eq_true rfl) (fun X hX hR => ?_)
  have loop : e - p = 4 → ∀ (k i : Nat) (ls : Ev_L), i + k = 4 → rk_go g p (cr_s (fun i => nI (g i)) (me - e) e (-1) ^^^ -1) k i = rk_go g p (cr_s (fun i => nI (g i)) (me - e) e (-1) ^^^ -1) 4 0 → ls.1 0 = some (.ref 112) → ls.1 1 = some (.ref a) → ls.1 2 = some (.int (cr_s (fun i => nI (g i)) (me - e) e (-1) ^^^ -1)) → ls.1 3 = some (.int (nI i)) → ev_W G M_Re_readCheck X 0 0 43 ls [] w := by
    intro h4 k
    induction k with
    | zero =>
      intro i ls e1 e2 l0 l1 l2 l3
      have hi : i = 4 := by omega
      subst hi
      refine q_iload hX 3 d_Re_readCheck_43 rfl (by first | rfl | assumption) ?_
      refine r_iconst (v := 4) hX d_Re_readCheck_44 (by decide) ?_
      refine r_icmp_ge hX 82 d_Re_readCheck_45 (by decide) (fun _ => ?_) (fun c45 => absurd (by decide) c45)
      refine r_iconst (v := 1) hX d_Re_readCheck_82 (by decide) ?_
      refine r_iret hX hR d_Re_readCheck_83 rfl (by first | rfl | assumption) ?_
      exact ⟨by rw [rk, decide_eq_true h4, ← e2]; rfl, rfl⟩
    | succ k ih =>
      intro i ls e1 e2 l0 l1 l2 l3
      refine q_iload hX 3 d_Re_readCheck_43 rfl (by first | rfl | assumption) ?_
      refine r_iconst (v := 4) hX d_Re_readCheck_44 (by decide) ?_
      refine r_icmp_ge hX 82 d_Re_readCheck_45 (by decide) (fun c45 => absurd c45 (nI_ge (a := i) (b := 4) (by omega) (by decide))) (fun _ => ?_)
      refine q_aload hX 0 d_Re_readCheck_48 rfl (by first | rfl | assumption) ?_
      refine r_getf hX d_Re_readCheck_49 fl_Re_15 hre rfl ?_
      refine q_aload hX 0 d_Re_readCheck_52 rfl (by first | rfl | assumption) ?_
      refine r_getf hX d_Re_readCheck_53 fl_Re_32 hre rfl ?_
      refine q_iload hX 3 d_Re_readCheck_56 rfl (by first | rfl | assumption) ?_
      refine r_iadd hX d_Re_readCheck_57 ?_
      rw [nI_add]
      refine r_callV (as := [_]) hX d_Re_readCheck_58 lk_Re_58 hin.1 rfl rfl (Nat.le_of_ble_eq_true rfl) (by decide) 0 0 (Nat.le_refl _) (Nat.le_refl _) (c_Ro_at (G := G) hin (by omega) (by decide) (nI (p + i))) (fun v w1 hq => ?_)
      obtain ⟨rfl, hw⟩ := hq
      rw [hw, rd_at hg (by omega)]
      refine q_iload hX 2 d_Re_readCheck_61 rfl (by first | rfl | assumption) ?_
      refine r_bipush (v := 8) hX d_Re_readCheck_62 (by decide) ?_
      refine q_iload hX 3 d_Re_readCheck_64 rfl (by first | rfl | assumption) ?_
      refine r_imul hX d_Re_readCheck_65 ?_
      refine r_iushr hX d_Re_readCheck_66 ?_
      refine r_sipush (v := 255) hX d_Re_readCheck_67 (by decide) ?_
      refine r_iand hX d_Re_readCheck_70 ?_
      refine r_icmp_eq hX 76 d_Re_readCheck_71 (by decide) (fun c71 => ?_) (fun c71 => ?_)
      · refine r_iinc hX d_Re_readCheck_76 (by first | rfl | assumption) ?_
        refine r_goto hX 43 d_Re_readCheck_79 (by decide) ?_
        exact ih (i + 1) _ (by omega) (by rw [← e2, rk_go, if_pos (show nI (g (p + i)) = cr_b _ i &&& 255 from c71)]) l0 l1 l2 (by show some (Value.int (nI i + Int32.ofInt 1)) = _; rw [show Int32.ofInt 1 = 1 from rfl, nI_1])
      · refine r_iconst (v := 0) hX d_Re_readCheck_74 (by decide) ?_
        refine r_iret hX hR d_Re_readCheck_75 rfl (by first | rfl | assumption) ?_
        exact ⟨by rw [rk, decide_eq_true h4, ← e2, rk_go, if_neg (fun z : nI (g (p + i)) = cr_b _ i &&& 255 => c71 z)]; rfl, rfl⟩
  refine q_aload hX 0 d_Re_readCheck_0 rfl (by first | rfl | assumption) ?_
  refine r_getf hX d_Re_readCheck_1 fl_Re_57 hre rfl ?_
  refine q_aload hX 0 d_Re_readCheck_4 rfl (by first | rfl | assumption) ?_
  refine r_getf hX d_Re_readCheck_5 fl_Re_32 hre rfl ?_
  refine r_isub hX d_Re_readCheck_8 ?_
  rw [nI_sb hpe]
  refine r_iconst (v := 4) hX d_Re_readCheck_9 (by decide) ?_
  refine r_icmp_ne hX 20 d_Re_readCheck_10 (by decide) (fun c10 => ?_) (fun c10 => ?_)
  · refine r_iconst (v := 0) hX d_Re_readCheck_20 (by decide) ?_
    refine r_iret hX hR d_Re_readCheck_21 rfl (by first | rfl | assumption) ?_
    exact ⟨by rw [rk, decide_eq_false (fun z => c10 (by rw [z]; rfl))]; rfl, rfl⟩
  · have h4 : e - p = 4 := (nI_eq (b := 4) (by omega) (by decide)).mp c10
    refine q_aload hX 1 d_Re_readCheck_13 rfl (by first | rfl | assumption) ?_
    refine r_getf hX d_Re_readCheck_14 fl_Re_56 hE rfl ?_
    rw [hmm]
    refine r_ifnonnull hX 22 d_Re_readCheck_17 (by decide) ?_
    refine q_aload hX 0 d_Re_readCheck_22 rfl (by first | rfl | assumption) ?_
    refine r_getf hX d_Re_readCheck_23 fl_Re_15 hre rfl ?_
    refine q_aload hX 0 d_Re_readCheck_26 rfl (by first | rfl | assumption) ?_
    refine r_getf hX d_Re_readCheck_27 fl_Re_57 hre rfl ?_
    refine q_aload hX 1 d_Re_readCheck_30 rfl (by first | rfl | assumption) ?_
    refine r_getf hX d_Re_readCheck_31 fl_Re_56 hE rfl ?_
    rw [hmm]
    refine r_getf hX d_Re_readCheck_34 fl_Re_51 hM rfl ?_
    rw [hme]
    refine r_callV (as := [_, _]) hX d_Re_readCheck_37 lk_Re_155 hin.1 rfl rfl (Nat.le_of_ble_eq_true rfl) (by decide) 0 0 (Nat.le_refl _) (Nat.le_refl _) (c_Ro_sum (G := G) hin (by omega) (by decide) e me (by omega) (by omega)) (fun v w1 hq => ?_)
    obtain ⟨rfl, hw⟩ := hq
    rw [hw, cr_s_ext (h' := fun i => nI (g i)) (me - e) e (-1) (fun i h1 h2 => rd_at hg (by omega))]
    refine q_istore hX 2 d_Re_readCheck_40 rfl (by decide) ?_
    refine r_iconst (v := 0) hX d_Re_readCheck_41 (by decide) ?_
    refine q_istore hX 3 d_Re_readCheck_42 rfl (by decide) ?_
    exact loop h4 4 0 _ rfl rfl rfl rfl rfl rfl
def tx_post (w w' : Ev_W) (o : Option (List Nat)) (a : Nat) (E : Ev_E) (pf : Nat → Int32) (v : Option Value) : Prop := match o with
  | none => v = some (.int 0) ∧ (∃ l, is_pa w' a E pf l) ∧ ev_sm w w' [a, a + 1]
  | some l => v = some (.int 1) ∧ is_pa w' a E pf l ∧ ev_sm w w' [a, a + 1]
theorem c_Re_readText {G : Ev_G} {w : Ev_W} {c : Nat} {f : Nat → Int32} (hin : is_Ro w 101 102 640 c f) {g : Nat → Nat} (hg : rd_g c f g) {fp tg vf vL : Int32} {ms : Option Nat} {p e : Nat} (hre : is_Re w fp ms (nI p) (nI e) tg vf vL) (hec : e ≤ c) (hpe : p ≤ e) {a : Nat} {E : Ev_E} {pf : Nat → Int32} (hpa : is_pa w a E pf []) (ha : 139 ≤ a) : ev_Met G M_Re_readText 1 0 0 [.ref 112, .ref a] w (fun v w' => tx_post w w' (tx g (e - p) p false 0) a E pf v) := by
  have hc := hg.1
  unfold is_Re at hre
  refine ev_Met.of md_Re_readText (Nat.le_of_ble_eq_true rfl) (fun X hX hR => ?_)
  have loop : ∀ (k i : Nat) (acc : List Nat) (ov : Bool) (ls : Ev_L) (w1 : Ev_W), i + k = e → acc.length ≤ 16 → (tx g k i ov acc.length).map (fun l => acc ++ l) = tx g (e - p) p false 0 → is_pa w1 a E pf acc → ev_sm w w1 [a, a + 1] → ls.1 0 = some (.ref 112) → ls.1 1 = some (.ref a) → ls.1 2 = some (.int (b_i ov)) → ls.1 3 = some (.int (nI i)) → ev_W G M_Re_readText X 0 0 7 ls [] w1 := by
    intro k
    induction k with
    | zero =>
      intro i acc ov ls w1 e1 hal e2 hp1 hs1 l0 l1 l2 l3
      have hr1 := (hs1.2 112 (by simp; omega)).trans hre
      refine q_iload hX 3 d_Re_readText_7 rfl (by first | rfl | assumption) ?_
      refine q_aload hX 0 d_Re_readText_8 rfl (by first | rfl | assumption) ?_
      refine r_getf hX d_Re_readText_9 fl_Re_57 hr1 rfl ?_
      refine r_icmp_ge hX 64 d_Re_readText_12 (by decide) (fun _ => ?_) (fun c12 => absurd (nI_le (by omega) (by omega)) c12)
      refine r_iconst (v := 1) hX d_Re_readText_64 (by decide) ?_
      refine r_iret hX hR d_Re_readText_65 rfl (by first | rfl | assumption) ?_
      show tx_post _ _ _ _ _ _ _
      rw [← e2, tx]
      exact ⟨rfl, by simpa using hp1, hs1⟩
    | succ k ih =>
      intro i acc ov ls w1 e1 hal e2 hp1 hs1 l0 l1 l2 l3
      have hr1 := (hs1.2 112 (by simp; omega)).trans hre
      have hin1 := hin.sm hs1 (by simp; omega) (by simp; omega)
      refine q_iload hX 3 d_Re_readText_7 rfl (by first | rfl | assumption) ?_
      refine q_aload hX 0 d_Re_readText_8 rfl (by first | rfl | assumption) ?_
      refine r_getf hX d_Re_readText_9 fl_Re_57 hr1 rfl ?_
      refine r_icmp_ge hX 64 d_Re_readText_12 (by decide) (fun c12 => absurd c12 (nI_ge (by omega) (by omega))) (fun _ => ?_)
      refine q_aload hX 0 d_Re_readText_15 rfl (by first | rfl | assumption) ?_
      refine r_getf hX d_Re_readText_16 fl_Re_15 hr1 rfl ?_
      refine q_iload hX 3 d_Re_readText_19 rfl (by first | rfl | assumption) ?_
      refine r_callV (as := [_]) hX d_Re_readText_20 lk_Re_58 hin1.1 rfl rfl (Nat.le_of_ble_eq_true rfl) (by decide) 0 0 (Nat.le_refl _) (Nat.le_refl _) (c_Ro_at (G := G) hin1 (by omega) (by decide) (nI i)) (fun v w2 hq => ?_)
      obtain ⟨rfl, hw⟩ := hq
      rw [hw, rd_at hg (by omega)]
      have hgi := (hg.2 i (by omega)).2
      refine r_istore hX d_Re_readText_23 (by decide) ?_
      refine r_iload hX d_Re_readText_25 (by first | rfl | assumption) ?_
      refine r_if_ne hX 35 d_Re_readText_27 (by decide) (fun c27 => ?_) (fun c27 => ?_)
      · refine q_iload hX 2 d_Re_readText_35 rfl (by first | rfl | assumption) ?_
        refine r_if_ne hX 56 d_Re_readText_36 (by decide) (fun c36 => ?_) (fun c36 => ?_)
        · refine r_iconst (v := 0) hX d_Re_readText_56 (by decide) ?_
          refine r_iret hX hR d_Re_readText_57 rfl (by first | rfl | assumption) ?_
          have hg0 : ¬ g i = 0 := fun z => c27 (by rw [z]; rfl)
          show tx_post _ _ _ _ _ _ _
          rw [← e2, tx, if_neg hg0, if_pos (Or.inl (b_i_1 c36))]
          exact ⟨rfl, ⟨_, hp1⟩, hs1⟩
        · refine r_iload hX d_Re_readText_39 (by first | rfl | assumption) ?_
          refine r_callSN (as := [_]) hX d_Re_readText_41 lk_Re_149 rfl (Nat.le_of_ble_eq_true rfl) (by decide) 0 0 (Nat.le_refl _) (Nat.le_refl _) (c_EF_isLetter (G := G) (nI (g i))) (fun v w2 hq => ?_)
          obtain ⟨rfl, hw⟩ := hq
          rw [hw]
          refine r_if_eq hX 56 d_Re_readText_44 (by decide) (fun c44 => ?_) (fun c44 => ?_)
          · refine r_iconst (v := 0) hX d_Re_readText_56 (by decide) ?_
            refine r_iret hX hR d_Re_readText_57 rfl (by first | rfl | assumption) ?_
            have hg0 : ¬ g i = 0 := fun z => c27 (by rw [z]; rfl)
            show tx_post _ _ _ _ _ _ _
            rw [← e2, tx, if_neg hg0, if_pos (Or.inr (Or.inl (b_i_0 c44)))]
            exact ⟨rfl, ⟨_, hp1⟩, hs1⟩
          · refine q_aload hX 1 d_Re_readText_47 rfl (by first | rfl | assumption) ?_
            refine r_iload hX d_Re_readText_48 (by first | rfl | assumption) ?_
            refine r_callV (as := [_]) hX d_Re_readText_50 lk_Re_152 hp1.1 rfl rfl (Nat.le_of_ble_eq_true rfl) (by decide) 0 0 (Nat.le_refl _) (Nat.le_refl _) (c_El_addPart (G := G) hp1.1 hp1.2 (by omega) (by omega) (n := acc.length) rfl (nI (g i))) (fun v w3 hq => ?_)
            have hg0 : ¬ g i = 0 := fun z => c27 (by rw [z]; rfl)
            by_cases h16 : acc.length < 16
            · rw [if_pos h16] at hq
              obtain ⟨rfl, qa, qb, qs⟩ := hq
              have hp3 : is_pa w3 a E pf (acc ++ [g i]) := ⟨by rw [qa, am_1, List.length_append]; rfl, by rw [qb, pa_1]⟩
              have hov : ov = false := b_i_0 c36
              refine r_if_ne hX 58 d_Re_readText_53 (by decide) (fun _ => ?_) (fun c53 => absurd c53 (by decide))
              refine r_iinc hX d_Re_readText_58 (by first | rfl | assumption) ?_
              refine r_goto hX 7 d_Re_readText_61 (by decide) ?_
              exact ih (i + 1) (acc ++ [g i]) ov _ w3 (by omega) (by simp; omega) (by rw [← e2, tx, if_neg hg0, if_neg (by rw [hov, b_i_1 c44]; simp [h16]), Option.map_map, List.length_append]; congr 1; funext q; simp) hp3 (hs1.tr qs) l0 l1 l2 (by show some (Value.int (nI i + Int32.ofInt 1)) = _; rw [show Int32.ofInt 1 = 1 from rfl, nI_1])
            · rw [if_neg h16] at hq
              obtain ⟨rfl, hw3⟩ := hq
              rw [hw3]
              refine r_if_ne hX 58 d_Re_readText_53 (by decide) (fun c53 => absurd rfl c53) (fun _ => ?_)
              refine r_iconst (v := 0) hX d_Re_readText_56 (by decide) ?_
              refine r_iret hX hR d_Re_readText_57 rfl (by first | rfl | assumption) ?_
              show tx_post _ _ _ _ _ _ _
              rw [← e2, tx, if_neg hg0, if_pos (Or.inr (Or.inr h16))]
              exact ⟨rfl, ⟨_, hp1⟩, hs1⟩
      · refine r_iconst (v := 1) hX d_Re_readText_30 (by decide) ?_
        refine q_istore hX 2 d_Re_readText_31 rfl (by decide) ?_
        refine r_goto hX 58 d_Re_readText_32 (by decide) ?_
        have hg0 : g i = 0 := (nI_eq (by omega) (by decide)).mp (c27.trans nI_0.symm)
        refine r_iinc hX d_Re_readText_58 (by first | rfl | assumption) ?_
        refine r_goto hX 7 d_Re_readText_61 (by decide) ?_
        exact ih (i + 1) acc true _ w1 (by omega) hal (by rw [← e2, tx, if_pos hg0]) hp1 hs1 l0 l1 rfl (by show some (Value.int (nI i + Int32.ofInt 1)) = _; rw [show Int32.ofInt 1 = 1 from rfl, nI_1])
  refine r_iconst (v := 0) hX d_Re_readText_0 (by decide) ?_
  refine q_istore hX 2 d_Re_readText_1 rfl (by decide) ?_
  refine q_aload hX 0 d_Re_readText_2 rfl (by first | rfl | assumption) ?_
  refine r_getf hX d_Re_readText_3 fl_Re_32 hre rfl ?_
  refine q_istore hX 3 d_Re_readText_6 rfl (by decide) ?_
  exact loop (e - p) p [] false _ w (by omega) (by simp) (by rw [show (fun l : List Nat => [] ++ l) = id from rfl, Option.map_id]; rfl) hpa ev_sm.rf rfl rfl rfl rfl
