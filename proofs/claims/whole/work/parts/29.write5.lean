/-! ===== Writer: putTree, write ===== -/
theorem me_keep (E : Nat → Ev_E) (mi : Nat → Option Nat) (live : Int32) : ∀ (k : Nat) (d : Nat → Nat) (t : Nat), (∀ i j, i < k → mi i = some j → j < i) → ∀ i, k ≤ i + 1 → (me_go E mi live k d t).1 i = d i
  | 0, d, t, _, i, _ => rfl
  | k + 1, d, t, h, i, hi => by
    rw [me_go]
    cases hm : mi k with
    | none => exact me_keep E mi live k d _ (fun i j hi => h i j (by omega)) i (by omega)
    | some j =>
      have := h k j (by omega) hm
      dsimp only
      rw [me_keep E mi live k _ _ (fun i j hi => h i j (by omega)) i (by omega)]
      rw [if_neg (by omega)]
theorem sm_ext {d d' : Nat → Nat} : ∀ k, (∀ i, i < k → d i = d' i) → sm_N d k = sm_N d' k
  | 0, _ => rfl
  | k + 1, h => by rw [sm_N, sm_N, sm_ext k (fun i hi => h i (by omega)), h k (by omega)]
theorem sm_add (d d' : Nat → Nat) : ∀ k, sm_N (fun i => d i + d' i) k = sm_N d k + sm_N d' k
  | 0 => rfl
  | k + 1 => by rw [sm_N, sm_N, sm_N, sm_add d d' k]; omega
theorem me_sum (E : Nat → Ev_E) (mi : Nat → Option Nat) (live : Int32) : ∀ (k : Nat) (d : Nat → Nat) (t : Nat), (∀ i j, i < k → mi i = some j → j < i) → (me_go E mi live k d t).2 = t + sm_N d k + sm_N (fun i => hdl (E i) live ((me_go E mi live k d t).1 i)) k
  | 0, d, t, _ => rfl
  | k + 1, d, t, h => by
    have hk := fun (d : Nat → Nat) (t : Nat) => me_keep E mi live k d t (fun i j hi => h i j (by omega)) k (by omega)
    rw [me_go]
    cases hm : mi k with
    | none =>
      dsimp only
      rw [me_sum E mi live k d _ (fun i j hi => h i j (by omega)), sm_N, sm_N, hk]; omega
    | some j =>
      have hj := h k j (by omega) hm
      dsimp only
      rw [me_sum E mi live k _ _ (fun i j hi => h i j (by omega)), sm_upd, if_pos hj, sm_N, sm_N, hk]
      rw [if_neg (by omega)]; omega
theorem me_bnd (E : Nat → Ev_E) (mi : Nat → Option Nat) (live : Int32) (B : Nat) : ∀ (k : Nat) (d : Nat → Nat) (t : Nat), (∀ i j, i < k → mi i = some j → j < i) → sm_N d k + t + 16 * k ≤ B → ∀ i, i < k → (me_go E mi live k d t).1 i ≤ B
  | 0, d, t, _, _, i, hi => absurd hi (Nat.not_lt_zero _)
  | k + 1, d, t, h, hb, i, hi => by
    have h16 := hdl_le (E k) live (d k)
    rw [sm_N] at hb
    by_cases z : i = k
    · subst z
      rw [me_keep E mi live (i + 1) d t h i (by omega)]; omega
    · rw [me_go]
      cases hm : mi k with
      | none => exact me_bnd E mi live B k d _ (fun i j hi => h i j (by omega)) (by omega) i (by omega)
      | some j =>
        have hj := h k j (by omega) hm
        exact me_bnd E mi live B k _ _ (fun i j hi => h i j (by omega)) (by rw [sm_upd, if_pos hj]; omega) i (by omega)
theorem hd_hdl (E : Ev_E) (live : Int32) {d : Nat} (h : d < 2 ^ 31) : (hd_L (el_ds E (nI d)) live).length = hdl E live d := by
  have h1 : (el_ds E (nI d)).2.2.2 11 = nI d := rfl
  have h0 : (el_ds E (nI d)).2.2.2 0 = E.2.2.2 0 := rfl
  have h2 : (el_ds E (nI d)).1 = E.1 := rfl
  unfold hd_L hdl
  rw [h1, h0, h2, List.length_append, nm_len, nI_l h]
  split
  · rfl
  · rw [vn_len]
theorem lf_ok_ds {E : Ev_E} {pf : Nat → Int32} {am ss : Nat} {sz : Nat → Nat} (x : Int32) (h : lf_ok E pf am ss sz) : lf_ok (el_ds E x) pf am ss sz := h
theorem lf_L_ds (sf : Nat → Int32) (sd : Nat) (E : Ev_E) (pf : Nat → Int32) (am ss : Nat) (sz : Nat → Nat) (x : Int32) : lf_L sf sd (el_ds E x) pf am ss sz = lf_L sf sd E pf am ss sz := rfl
theorem lf_ok_dp {E : Ev_E} {pf : Nat → Int32} {am ss : Nat} {sz : Nat → Nat} (x : Int32) (h : lf_ok E pf am ss sz) : lf_ok (el_dp E x) pf am ss sz := h
theorem lf_L_dp (sf : Nat → Int32) (sd : Nat) (E : Ev_E) (pf : Nat → Int32) (am ss : Nat) (sz : Nat → Nat) (x : Int32) : lf_L sf sd (el_dp E x) pf am ss sz = lf_L sf sd E pf am ss sz := rfl
def wt_1 (sf : Nat → Int32) (sd : Nat) (E : Nat → Ev_E) (PF : Nat → Nat → Int32) (am ss : Nat → Nat) (sz : Nat → Nat → Nat) (live : Int32) (i : Nat) : List Int32 := hd_L (E i) live ++ lf_L sf sd (E i) (PF i) (am i) (ss i) (sz i)
def wt_L (sf : Nat → Int32) (sd : Nat) (E : Nat → Ev_E) (PF : Nat → Nat → Int32) (am ss : Nat → Nat) (sz : Nat → Nat → Nat) (live : Int32) : Nat → List Int32
  | 0 => []
  | k + 1 => wt_L sf sd E PF am ss sz live k ++ wt_1 sf sd E PF am ss sz live k
/-- where an element's data begin -/
def wt_p (sf : Nat → Int32) (sd : Nat) (E : Nat → Ev_E) (PF : Nat → Nat → Int32) (am ss : Nat → Nat) (sz : Nat → Nat → Nat) (live : Int32) (k : Nat) : Nat := (wt_L sf sd E PF am ss sz live k).length + (hd_L (E k) live).length
theorem wt_len (sf : Nat → Int32) (sd : Nat) (E : Nat → Ev_E) (PF : Nat → Nat → Int32) (am ss : Nat → Nat) (sz : Nat → Nat → Nat) (live : Int32) : ∀ k, (∀ i, i < k → lf_ok (E i) (PF i) (am i) (ss i) (sz i)) → (wt_L sf sd E PF am ss sz live k).length ≤ 1416 * k
  | 0, _ => Nat.le_refl _
  | k + 1, h => by
    have h1 := wt_len sf sd E PF am ss sz live k (fun i hi => h i (by omega))
    have h2 := lf_len (sf := sf) (sd := sd) (h k (by omega))
    have h3 := hd_len (E k) live
    rw [wt_L, List.length_append, wt_1, List.length_append]; omega
def ck_1 (c : Nat) (pl d : Nat → Nat) (j k : Nat) (f : Nat → Int32) : Nat → Int32 := fc_f 640 c (nI (pl k)) (cr_s (fun i => ro_at 640 f c (nI i)) (pl j + d j - (pl k + 4)) (pl k + 4) (-1) ^^^ -1) 4 f
def ck_go (E : Nat → Ev_E) (mi : Nat → Option Nat) (c : Nat) (pl d : Nat → Nat) : Nat → Nat → (Nat → Int32) → (Nat → Int32)
  | 0, _, f => f
  | r + 1, k, f => ck_go E mi c pl d r (k + 1) (if (E k).1 = 14 then ck_1 c pl d ((mi k).getD 0) k f else f)
def dp_E (n : Nat) (E : Nat → Ev_E) (pl : Nat → Nat) : Nat → Ev_E := fun i => if i < n then el_dp (E i) (nI (pl i)) else E i
/-- what the writing keeps -/
def pt_inv (w w1 : Ev_W) (n m sd : Nat) (L As : Nat → Option Nat) (sf : Nat → Int32) (ad : Nat → Nat) (E : Nat → Ev_E) (PF : Nat → Nat → Int32) (c : Nat) (f : Nat → Int32) : Prop := is_Tr w1 n L As sf sd ∧ is_Es w1 m L ad E PF ∧ is_Ro w1 103 104 640 c f ∧ (∀ q, q < 139 → q ∉ [103, 104] → w1.2 q = w.2 q) ∧ w1.1 = w.1
theorem c_Wr_putTree {G : Ev_G} {w : Ev_W} {n sd : Nat} {L As : Nat → Option Nat} {sf : Nat → Int32} (hwr : is_Wr w) (htr : is_Tr w n L As sf sd) (hn : n ≤ 60) (hsd : sd ≤ 1200) {m : Nat} {ad : Nat → Nat} {E : Nat → Ev_E} {PF : Nat → Nat → Int32} {mi : Nat → Option Nat} (hes : is_Es w m L ad E PF) (hm : n ≤ m) (hok : el_ok n ad E mi) {am ss : Nat → Nat} {sz : Nat → Nat → Nat} (hlf : ∀ i, i < n → lf_ok (E i) (PF i) (am i) (ss i) (sz i)) {c0 : Nat} {f0 : Nat → Int32} (hro : is_Ro w 103 104 640 c0 f0) (live : Int32) {d : Nat → Nat} (hd : ∀ i, i < n → (E i).2.2.2 11 = nI (d i) ∧ d i ≤ 84960) (hck : ∀ i, i < n → (E i).1 = 14 → ∃ j, mi i = some j) : ev_Met G M_Wr_putTree 5 0 0 [.ref 113, .int live] w (fun v w' => v = some (.int (nI (wt_L sf sd E PF am ss sz live n).length)) ∧ pt_inv w w' n m sd L As sf ad (dp_E n E (wt_p sf sd E PF am ss sz live)) PF (wt_L sf sd E PF am ss sz live n).length (ck_go E mi (wt_L sf sd E PF am ss sz live n).length (wt_p sf sd E PF am ss sz live) d n 0 (ro_bs 640 (wt_L sf sd E PF am ss sz live n) f0 0))) := by
  refine ev_Met.of md_Wr_putTree (Nat.le_of_ble_eq_true rfl) (fun X hX hR => ?_)
  have hwl := fun (k : Nat) (hk : k ≤ n) => wt_len sf sd E PF am ss sz live k (fun i hi => hlf i (by omega))
  have hpl : ∀ k, k < n → wt_p sf sd E PF am ss sz live k ≤ 90000 := fun k hk => by
    have h1 := hwl k (by omega)
    have h2 := hd_len (E k) live
    unfold wt_p; omega
  have loop2 : ∀ (r k : Nat) (ls : Ev_L) (w1 : Ev_W) (f1 : Nat → Int32), k + r = n → ck_go E mi (wt_L sf sd E PF am ss sz live n).length (wt_p sf sd E PF am ss sz live) d r k f1 = ck_go E mi (wt_L sf sd E PF am ss sz live n).length (wt_p sf sd E PF am ss sz live) d n 0 (ro_bs 640 (wt_L sf sd E PF am ss sz live n) f0 0) → pt_inv w w1 n m sd L As sf ad (dp_E n E (wt_p sf sd E PF am ss sz live)) PF (wt_L sf sd E PF am ss sz live n).length f1 → ls.1 0 = some (.ref 113) → ls.1 2 = some (.int (nI k)) → ev_W G M_Wr_putTree X 0 0 60 ls [] w1 := by
    intro r
    induction r with
    | zero =>
      intro k ls w1 f1 e1 e3 h1 l0 l2
      have hwr1 : w1.2 113 = _ := (h1.2.2.2.1 113 (by decide) (by decide)).trans hwr
      refine q_iload hX 2 d_Wr_putTree_60 rfl (by first | rfl | assumption) ?_
      refine q_aload hX 0 d_Wr_putTree_61 rfl (by first | rfl | assumption) ?_
      refine r_getf hX d_Wr_putTree_62 fl_Wr_20 hwr1 rfl ?_
      refine r_getf hX d_Wr_putTree_65 fl_Wr_27 h1.1.1 rfl ?_
      refine r_icmp_ge hX 108 d_Wr_putTree_68 (by decide) (fun _ => ?_) (fun c68 => absurd (nI_le (by omega) (by omega)) c68)
      refine q_aload hX 0 d_Wr_putTree_108 rfl (by first | rfl | assumption) ?_
      refine r_getf hX d_Wr_putTree_109 fl_Wr_24 hwr1 rfl ?_
      refine r_getf hX d_Wr_putTree_112 fl_Wr_33 h1.2.2.1.1 rfl ?_
      refine r_iret hX hR d_Wr_putTree_115 rfl (by first | rfl | assumption) ?_
      exact ⟨by rfl, by rw [← e3]; exact h1⟩
    | succ r ih =>
      intro k ls w1 f1 e1 e3 h1 l0 l2
      have hk : k < n := by omega
      have hwr1 : w1.2 113 = _ := (h1.2.2.2.1 113 (by decide) (by decide)).trans hwr
      obtain ⟨u1, u2, u3, u4⟩ := h1.2.1.1 k (by omega)
      rw [show dp_E n E (wt_p sf sd E PF am ss sz live) k = el_dp (E k) (nI (wt_p sf sd E PF am ss sz live k)) from if_pos hk] at u3
      have hcl : (nI k).toNatClampNeg = k := nI_clamp (by omega)
      have h17 := (hok k hk).2.1
      have nx : ∀ (ls : Ev_L) (w4 : Ev_W) (f4 : Nat → Int32), f4 = (if (E k).1 = 14 then ck_1 (wt_L sf sd E PF am ss sz live n).length (wt_p sf sd E PF am ss sz live) d ((mi k).getD 0) k f1 else f1) → pt_inv w w4 n m sd L As sf ad (dp_E n E (wt_p sf sd E PF am ss sz live)) PF (wt_L sf sd E PF am ss sz live n).length f4 → ls.1 0 = some (.ref 113) → ls.1 2 = some (.int (nI k)) → ev_W G M_Wr_putTree X 0 0 102 ls [] w4 := by
        intro ls w4 f4 hf4 h4 l0 l2
        refine r_iinc hX d_Wr_putTree_102 (by first | rfl | assumption) ?_
        refine r_goto hX 60 d_Wr_putTree_105 (by decide) ?_
        exact ih (k + 1) _ w4 f4 (by omega) (by rw [← e3, ck_go, ← hf4]) h4 l0 (by show some (Value.int (nI k + Int32.ofInt 1)) = _; rw [show Int32.ofInt 1 = 1 from rfl, nI_1])
      refine q_iload hX 2 d_Wr_putTree_60 rfl (by first | rfl | assumption) ?_
      refine q_aload hX 0 d_Wr_putTree_61 rfl (by first | rfl | assumption) ?_
      refine r_getf hX d_Wr_putTree_62 fl_Wr_20 hwr1 rfl ?_
      refine r_getf hX d_Wr_putTree_65 fl_Wr_27 h1.1.1 rfl ?_
      refine r_icmp_ge hX 108 d_Wr_putTree_68 (by decide) (fun c68 => absurd c68 (nI_ge (by omega) (by omega))) (fun _ => ?_)
      refine q_aload hX 0 d_Wr_putTree_71 rfl (by first | rfl | assumption) ?_
      refine r_getf hX d_Wr_putTree_72 fl_Wr_20 hwr1 rfl ?_
      refine r_getf hX d_Wr_putTree_75 fl_Wr_34 h1.1.1 rfl ?_
      refine q_iload hX 2 d_Wr_putTree_78 rfl (by first | rfl | assumption) ?_
      refine r_aald hX d_Wr_putTree_79 h1.1.2.1 rfl (vp_in_nI (by omega) (by decide)) ?_
      rw [hcl, u1]
      refine r_getf hX d_Wr_putTree_80 fl_Wr_69 u3 rfl ?_
      refine r_getsE (i := 14) hX d_Wr_putTree_83 (by decide) m_533 ?_
      refine r_acmp_ne (o := some (E k).1) (u := some 14) hX 102 (by intro r h; cases h; exact Or.inl h17) (by intro r h; cases h; omega) d_Wr_putTree_86 (by decide) (fun c86 => ?_) (fun c86 => ?_)
      · exact nx _ w1 f1 (by rw [if_neg (fun z => c86 (by rw [z]))]) h1 l0 l2
      · refine q_aload hX 0 d_Wr_putTree_89 rfl (by first | rfl | assumption) ?_
        refine q_aload hX 0 d_Wr_putTree_90 rfl (by first | rfl | assumption) ?_
        refine r_getf hX d_Wr_putTree_91 fl_Wr_20 hwr1 rfl ?_
        refine r_getf hX d_Wr_putTree_94 fl_Wr_34 h1.1.1 rfl ?_
        refine q_iload hX 2 d_Wr_putTree_97 rfl (by first | rfl | assumption) ?_
        refine r_aald hX d_Wr_putTree_98 h1.1.2.1 rfl (vp_in_nI (by omega) (by decide)) ?_
        rw [hcl, u1]
        have h14 : (E k).1 = 14 := Option.some.inj c86
        obtain ⟨j, hj⟩ := hck k hk h14
        have hjk := (hok k hk).2.2.2 j hj
        obtain ⟨v1, v2, v3, v4⟩ := h1.2.1.1 j (by omega)
        rw [show dp_E n E (wt_p sf sd E PF am ss sz live) j = el_dp (E j) (nI (wt_p sf sd E PF am ss sz live j)) from if_pos (show j < n by omega)] at v3
        have hmm : (el_dp (E k) (nI (wt_p sf sd E PF am ss sz live k))).2.1 = some (ad j) := by show (E k).2.1 = _; rw [(hok k hk).2.2.1, hj]; rfl
        have hqq : (el_dp (E j) (nI (wt_p sf sd E PF am ss sz live j))).2.2.2 12 + (el_dp (E j) (nI (wt_p sf sd E PF am ss sz live j))).2.2.2 11 = nI (wt_p sf sd E PF am ss sz live j + d j) := by
          show nI (wt_p sf sd E PF am ss sz live j) + (E j).2.2.2 11 = _
          rw [(hd j (by omega)).1, nI_add]
        refine r_callV (as := [_]) hX d_Wr_putTree_99 lk_Wr_78 hwr1 rfl rfl (Nat.le_of_ble_eq_true rfl) (by decide) 0 0 (Nat.le_refl _) (Nat.le_refl _) (c_Wr_fillCheck (G := G) hwr1 h1.2.2.1 (by decide) (by have := wt_len sf sd E PF am ss sz live n hlf; omega) u3 u2 hmm v3 (show (el_dp (E k) (nI (wt_p sf sd E PF am ss sz live k))).2.2.2 12 = nI (wt_p sf sd E PF am ss sz live k) from rfl) (by have := hpl k hk; omega) hqq (by have := hpl j (by omega); have := (hd j (by omega)).2; omega)) (fun v w4 hq => ?_)
        obtain ⟨rfl, q1, q2⟩ := hq
        exact nx _ w4 _ (by rw [if_pos h14, hj]; rfl) ⟨⟨(q2.2 108 (by decide)).trans h1.1.1, (q2.2 109 (by decide)).trans h1.1.2.1, (q2.2 110 (by decide)).trans h1.1.2.2.1, (q2.2 111 (by decide)).trans h1.1.2.2.2⟩, h1.2.1.same (fun q hq => q2.2 q (by simp; omega)), q1, fun q hq hq2 => (q2.2 q hq2).trans (h1.2.2.2.1 q hq hq2), q2.1.trans h1.2.2.2.2⟩ l0 l2
  have after : ∀ (ls : Ev_L) (w1 : Ev_W), pt_inv w w1 n m sd L As sf ad (dp_E n E (wt_p sf sd E PF am ss sz live)) PF (wt_L sf sd E PF am ss sz live n).length (ro_bs 640 (wt_L sf sd E PF am ss sz live n) f0 0) → ls.1 0 = some (.ref 113) → ev_W G M_Wr_putTree X 0 0 58 ls [] w1 := by
    intro ls w1 h1 l0
    refine r_iconst (v := 0) hX d_Wr_putTree_58 (by decide) ?_
    refine q_istore hX 2 d_Wr_putTree_59 rfl (by decide) ?_
    exact loop2 n 0 _ w1 _ (by omega) rfl h1 l0 rfl
  have loop : ∀ (r k : Nat) (ls : Ev_L) (w1 : Ev_W), k + r = n → pt_inv w w1 n m sd L As sf ad (dp_E k E (wt_p sf sd E PF am ss sz live)) PF (wt_L sf sd E PF am ss sz live k).length (ro_bs 640 (wt_L sf sd E PF am ss sz live k) f0 0) → ls.1 0 = some (.ref 113) → ls.1 1 = some (.int live) → ls.1 2 = some (.int (nI k)) → ev_W G M_Wr_putTree X 0 0 10 ls [] w1 := by
    intro r
    induction r with
    | zero =>
      intro k ls w1 e1 h1 l0 l1 l2
      have hk : k = n := by omega
      have h1s := h1
      rw [hk] at h1s
      have hwr1 : w1.2 113 = _ := (h1.2.2.2.1 113 (by decide) (by decide)).trans hwr
      refine q_iload hX 2 d_Wr_putTree_10 rfl (by first | rfl | assumption) ?_
      refine q_aload hX 0 d_Wr_putTree_11 rfl (by first | rfl | assumption) ?_
      refine r_getf hX d_Wr_putTree_12 fl_Wr_20 hwr1 rfl ?_
      refine r_getf hX d_Wr_putTree_15 fl_Wr_27 h1.1.1 rfl ?_
      refine r_icmp_ge hX 58 d_Wr_putTree_18 (by decide) (fun _ => ?_) (fun c18 => absurd (nI_le (by omega) (by omega)) c18)
      exact after _ w1 h1s l0
    | succ r ih =>
      intro k ls w1 e1 h1 l0 l1 l2
      have hk : k < n := by omega
      have hwr1 : w1.2 113 = _ := (h1.2.2.2.1 113 (by decide) (by decide)).trans hwr
      obtain ⟨u1, u2, u3, u4⟩ := h1.2.1.1 k (by omega)
      have hEk : w1.2 (ad k) = some (el_C (ad k) (E k)) := by rw [u3]; dsimp only [dp_E]; rw [if_neg (Nat.lt_irrefl _)]
      have hcl : (nI k).toNatClampNeg = k := nI_clamp (by omega)
      have h17 := (hok k hk).2.1
      have hkl := hwl k (by omega)
      have hkh := hd_len (E k) live
      refine q_iload hX 2 d_Wr_putTree_10 rfl (by first | rfl | assumption) ?_
      refine q_aload hX 0 d_Wr_putTree_11 rfl (by first | rfl | assumption) ?_
      refine r_getf hX d_Wr_putTree_12 fl_Wr_20 hwr1 rfl ?_
      refine r_getf hX d_Wr_putTree_15 fl_Wr_27 h1.1.1 rfl ?_
      refine r_icmp_ge hX 58 d_Wr_putTree_18 (by decide) (fun c18 => absurd c18 (nI_ge (by omega) (by omega))) (fun _ => ?_)
      refine q_aload hX 0 d_Wr_putTree_21 rfl (by first | rfl | assumption) ?_
      refine q_aload hX 0 d_Wr_putTree_22 rfl (by first | rfl | assumption) ?_
      refine r_getf hX d_Wr_putTree_23 fl_Wr_20 hwr1 rfl ?_
      refine r_getf hX d_Wr_putTree_26 fl_Wr_34 h1.1.1 rfl ?_
      refine q_iload hX 2 d_Wr_putTree_29 rfl (by first | rfl | assumption) ?_
      refine r_aald hX d_Wr_putTree_30 h1.1.2.1 rfl (vp_in_nI (by omega) (by decide)) ?_
      rw [hcl, u1]
      refine q_iload hX 1 d_Wr_putTree_31 rfl (by first | rfl | assumption) ?_
      refine r_callV (as := [_, _]) hX d_Wr_putTree_32 lk_Wr_65 hwr1 rfl rfl (Nat.le_of_ble_eq_true rfl) (by decide) 0 0 (Nat.le_refl _) (Nat.le_refl _) (c_Wr_putHeader (G := G) hwr1 h1.2.2.1 (by decide) (by omega) hEk u2 h17 live) (fun v w3 hq => ?_)
      obtain ⟨rfl, qr, qe, qs⟩ := hq
      have hs3 : ∀ q, q ∉ [103, 104, ad k] → w3.2 q = w1.2 q := qs.2
      have hwr3 : w3.2 113 = _ := (hs3 113 (by simp; omega)).trans hwr1
      have htr3 : is_Tr w3 n L As sf sd := ⟨(hs3 108 (by simp; omega)).trans h1.1.1, (hs3 109 (by simp; omega)).trans h1.1.2.1, (hs3 110 (by simp; omega)).trans h1.1.2.2.1, (hs3 111 (by simp; omega)).trans h1.1.2.2.2⟩
      have hp3 : w3.2 (ad k + 1) = some (.inl (0, 16, .inl (PF k))) := (hs3 _ (by simp; omega)).trans u4
      refine q_aload hX 0 d_Wr_putTree_35 rfl (by first | rfl | assumption) ?_
      refine q_aload hX 0 d_Wr_putTree_36 rfl (by first | rfl | assumption) ?_
      refine r_getf hX d_Wr_putTree_37 fl_Wr_20 hwr3 rfl ?_
      refine r_getf hX d_Wr_putTree_40 fl_Wr_34 htr3.1 rfl ?_
      refine q_iload hX 2 d_Wr_putTree_43 rfl (by first | rfl | assumption) ?_
      refine r_aald hX d_Wr_putTree_44 htr3.2.1 rfl (vp_in_nI (by omega) (by decide)) ?_
      rw [hcl, u1]
      refine q_aload hX 0 d_Wr_putTree_45 rfl (by first | rfl | assumption) ?_
      refine r_getf hX d_Wr_putTree_46 fl_Wr_24 hwr3 rfl ?_
      refine r_callV (as := [_, _]) hX d_Wr_putTree_49 lk_Wr_38 hwr3 rfl rfl (Nat.le_of_ble_eq_true rfl) (by decide) 0 0 (Nat.le_refl _) (Nat.le_refl _) (c_Wr_putLeaf (G := G) hwr3 htr3 hn hsd qr (Or.inl ⟨rfl, rfl⟩) (by decide) (by omega) qe u2 hp3 (lf_ok_dp _ (hlf k hk))) (fun v w4 hq => ?_)
      obtain ⟨rfl, q1⟩ := hq
      rw [lf_L_dp] at q1
      refine r_iinc hX d_Wr_putTree_52 (by first | rfl | assumption) ?_
      refine r_goto hX 10 d_Wr_putTree_55 (by decide) ?_
      exact ih (k + 1) _ w4 (by omega) (by
        have htr4 : is_Tr w4 n L As sf sd := ⟨q1.el htr3.1 (by decide), q1.el htr3.2.1 (by decide), q1.el htr3.2.2.1 (by decide), q1.el htr3.2.2.2 (by decide)⟩
        refine ⟨htr4, ?_, ?_, ?_, ?_⟩
        · refine is_Es.eqE ((h1.2.1.set1 (w' := w3) (i := k) (x := el_dp (E k) (nI (wt_p sf sd E PF am ss sz live k))) (by omega) qe (fun q hq hq2 => hs3 q (by simp; omega))).same (w' := w4) (fun q hq => q1.2.2 q (by simp; omega))) (fun i hi => ?_)
          dsimp only [dp_E]
          by_cases z : i = k
          · subst z; rw [if_pos rfl, if_pos (by omega)]
          · rw [if_neg z]
            by_cases z2 : i < k
            · rw [if_pos z2, if_pos (by omega)]
            · rw [if_neg z2, if_neg (by omega)]
        · have q2 := q1.1
          rw [← ro_bs_app, Nat.add_assoc, ← List.length_append] at q2 <;> skip
          rw [wt_L, List.length_append, ro_bs_app, Nat.zero_add]
          exact q2
        · intro q hq hq2
          rw [q1.2.2 q hq2, hs3 q (by simp at hq2; simp; omega)]
          exact h1.2.2.2.1 q hq hq2
        · rw [q1.2.1, qs.1]; exact h1.2.2.2.2) l0 l1 (by show some (Value.int (nI k + Int32.ofInt 1)) = _; rw [show Int32.ofInt 1 = 1 from rfl, nI_1])
  refine q_aload hX 0 d_Wr_putTree_0 rfl (by first | rfl | assumption) ?_
  refine r_getf hX d_Wr_putTree_1 fl_Wr_24 hwr rfl ?_
  refine r_iconst (v := 0) hX d_Wr_putTree_4 (by decide) ?_
  refine r_putf hX d_Wr_putTree_5 fp_Wr_33 hro.1 (by first | assumption | decide | omega) rfl rfl (Nat.le_of_ble_eq_true rfl) ?_
  refine r_iconst (v := 0) hX d_Wr_putTree_8 (by decide) ?_
  refine q_istore hX 2 d_Wr_putTree_9 rfl (by decide) ?_
  refine loop n 0 _ _ (by omega) ⟨⟨by rw [ev_set_ne _ _ (by decide)]; exact htr.1, by rw [ev_set_ne _ _ (by decide)]; exact htr.2.1, by rw [ev_set_ne _ _ (by decide)]; exact htr.2.2.1, by rw [ev_set_ne _ _ (by decide)]; exact htr.2.2.2⟩, ?_, ⟨?_, ?_⟩, ?_, rfl⟩ rfl rfl rfl
  · exact is_Es.eqE (hes.same (fun q hq => ev_set_ne _ _ (by omega))) (fun i _ => by dsimp only [dp_E]; rw [if_neg (Nat.not_lt_zero _)])
  · rw [ev_set_self]; rfl
  · rw [ev_set_ne _ _ (by decide)]; exact hro.2
  · intro q hq hq2; exact ev_set_ne _ _ (fun z => hq2 (by rw [z]; decide))
