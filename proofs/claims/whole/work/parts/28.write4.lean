/-! ===== Writer: the whole tree ===== -/
theorem is_Es.set1 {w w' : Ev_W} {m : Nat} {L : Nat → Option Nat} {ad : Nat → Nat} {E : Nat → Ev_E} {PF : Nat → Nat → Int32} (h : is_Es w m L ad E PF) {i : Nat} (hi : i < m) {x : Ev_E} (h1 : w'.2 (ad i) = some (el_C (ad i) x)) (hs : ∀ q, 139 ≤ q → q ≠ ad i → w'.2 q = w.2 q) : is_Es w' m L ad (fun j => if j = i then x else E j) PF := by
  refine ⟨fun j hj => ?_, h.2⟩
  obtain ⟨a1, a2, a3, a4⟩ := h.1 j hj
  obtain ⟨b1, b2, b3, b4⟩ := h.1 i hi
  by_cases z : j = i
  · subst z
    refine ⟨a1, a2, ?_, ?_⟩
    · dsimp only; rw [if_pos rfl]; exact h1
    · rw [hs _ (by omega) (by omega)]; exact a4
  · refine ⟨a1, a2, ?_, ?_⟩
    · dsimp only; rw [if_neg z, hs _ a2 (fun q => z (h.2 j i hj hi q))]; exact a3
    · rw [hs _ (by omega) (fun q => by rw [q, b3] at a4; cases a4)]; exact a4
theorem is_Es.same {w w' : Ev_W} {m : Nat} {L : Nat → Option Nat} {ad : Nat → Nat} {E : Nat → Ev_E} {PF : Nat → Nat → Int32} (h : is_Es w m L ad E PF) (hs : ∀ q, 139 ≤ q → w'.2 q = w.2 q) : is_Es w' m L ad E PF := by
  refine ⟨fun j hj => ?_, h.2⟩
  obtain ⟨a1, a2, a3, a4⟩ := h.1 j hj
  exact ⟨a1, a2, by rw [hs _ a2]; exact a3, by rw [hs _ (by omega)]; exact a4⟩
theorem is_Es.eqE {w : Ev_W} {m : Nat} {L : Nat → Option Nat} {ad : Nat → Nat} {E E' : Nat → Ev_E} {PF : Nat → Nat → Int32} (h : is_Es w m L ad E PF) (hs : ∀ i, i < m → E i = E' i) : is_Es w m L ad E' PF := by
  refine ⟨fun j hj => ?_, h.2⟩
  rw [← hs j hj]; exact h.1 j hj
def el_ds (E : Ev_E) (x : Int32) : Ev_E := (E.1, E.2.1, E.2.2.1, upd E.2.2.2 11 x)
def ds_E (n : Nat) (E : Nat → Ev_E) (d : Nat → Nat) : Nat → Ev_E := fun i => if i < n then el_ds (E i) (nI (d i)) else E i
/-- the length of an element's ID and size -/
def hdl (E : Ev_E) (live : Int32) (d : Nat) : Nat := wr_fb (E.2.2.2 0).toInt64 7 1 + (if wr_op E.1 live = true then 1 else wr_sv (lN d) 7 1)
theorem hdl_le (E : Ev_E) (live : Int32) (d : Nat) : hdl E live d ≤ 16 := by
  have b1 := wr_fb_le (E.2.2.2 0).toInt64 7 1
  have b2 := wr_sv_le (lN d) 7 1
  unfold hdl; split <;> omega
def me_go (E : Nat → Ev_E) (mi : Nat → Option Nat) (live : Int32) : Nat → (Nat → Nat) → Nat → (Nat → Nat) × Nat
  | 0, d, t => (d, t)
  | k + 1, d, t => match mi k with
    | none => me_go E mi live k d (t + (hdl (E k) live (d k) + d k))
    | some j => me_go E mi live k (fun i => if i = j then d j + (hdl (E k) live (d k) + d k) else d i) t
def sm_N (d : Nat → Nat) : Nat → Nat
  | 0 => 0
  | k + 1 => sm_N d k + d k
theorem sm_upd (d : Nat → Nat) (j x : Nat) : ∀ k, sm_N (fun i => if i = j then d j + x else d i) k = sm_N d k + (if j < k then x else 0)
  | 0 => by simp [sm_N]
  | k + 1 => by
    rw [sm_N, sm_N, sm_upd d j x k]
    by_cases z : k = j
    · subst z; rw [if_pos rfl, if_neg (Nat.lt_irrefl _), if_pos (by omega)]; omega
    · rw [if_neg z]
      by_cases z2 : j < k
      · rw [if_pos z2, if_pos (by omega)]; omega
      · rw [if_neg z2, if_neg (by omega)]; omega
theorem sm_le {d : Nat → Nat} {b : Nat} : ∀ k, (∀ i, i < k → d i ≤ b) → sm_N d k ≤ k * b
  | 0, _ => Nat.zero_le _
  | k + 1, h => by
    have h1 := sm_le k (fun i hi => h i (by omega))
    have h2 := h k (by omega)
    rw [sm_N, Nat.succ_mul]; omega
theorem ev_lo {w w1 w2 : Ev_W} {l : List Nat} (h : ∀ q, q < 139 → q ∉ l → w1.2 q = w.2 q) (k : ∀ q, q < 139 → q ∉ l → w2.2 q = w1.2 q) : ∀ q, q < 139 → q ∉ l → w2.2 q = w.2 q := fun q a b => (k q a b).trans (h q a b)
/-- what the measuring keeps -/
def ms_inv (w w1 : Ev_W) (n m sd : Nat) (L As : Nat → Option Nat) (sf : Nat → Int32) (ad : Nat → Nat) (E : Nat → Ev_E) (PF : Nat → Nat → Int32) : Prop := is_Tr w1 n L As sf sd ∧ is_Es w1 m L ad E PF ∧ (∃ c f, is_Ro w1 114 115 0 c f) ∧ (∀ q, q < 139 → q ∉ [114, 115] → w1.2 q = w.2 q) ∧ w1.1 = w.1
theorem c_Wr_measureTree {G : Ev_G} {w : Ev_W} {n sd : Nat} {L As : Nat → Option Nat} {sf : Nat → Int32} (hwr : is_Wr w) (htr : is_Tr w n L As sf sd) (hn : n ≤ 60) (hsd : sd ≤ 1200) {m : Nat} {ad : Nat → Nat} {E : Nat → Ev_E} {PF : Nat → Nat → Int32} {mi : Nat → Option Nat} (hes : is_Es w m L ad E PF) (hm : n ≤ m) (hok : el_ok n ad E mi) {am ss : Nat → Nat} {sz : Nat → Nat → Nat} (hlf : ∀ i, i < n → lf_ok (E i) (PF i) (am i) (ss i) (sz i)) (hro : ∃ c f, is_Ro w 114 115 0 c f) (live : Int32) : ev_Met G M_Wr_measureTree 5 0 0 [.ref 113, .int live] w (fun v w' => v = some (.int (nI (me_go E mi live n (fun i => (lf_L sf sd (E i) (PF i) (am i) (ss i) (sz i)).length) 0).2)) ∧ ms_inv w w' n m sd L As sf ad (ds_E n E (me_go E mi live n (fun i => (lf_L sf sd (E i) (PF i) (am i) (ss i) (sz i)).length) 0).1) PF) := by
  refine ev_Met.of md_Wr_measureTree (Nat.le_of_ble_eq_true rfl) (fun X hX hR => ?_)
  have loop2 : ∀ (f : Nat) (d : Nat → Nat) (t : Nat) (ls : Ev_L) (w1 : Ev_W), f ≤ n → sm_N d f + t + 16 * f ≤ 84960 → me_go E mi live f d t = me_go E mi live n (fun i => (lf_L sf sd (E i) (PF i) (am i) (ss i) (sz i)).length) 0 → ms_inv w w1 n m sd L As sf ad (ds_E n E d) PF → ls.1 0 = some (.ref 113) → ls.1 1 = some (.int live) → ls.1 2 = some (.int (nI t)) → ls.1 3 = some (.int (nI f - 1)) → ev_W G M_Wr_measureTree X 0 0 75 ls [] w1 := by
    intro f
    induction f with
    | zero =>
      intro d t ls w1 e1 e2 e3 h1 l0 l1 l2 l3
      refine q_iload hX 3 d_Wr_measureTree_75 rfl (by first | rfl | assumption) ?_
      refine r_if_lt hX 171 d_Wr_measureTree_76 (by decide) (fun _ => ?_) (fun c76 => absurd (by decide) c76)
      refine q_iload hX 2 d_Wr_measureTree_171 rfl (by first | rfl | assumption) ?_
      refine r_iret hX hR d_Wr_measureTree_172 rfl (by first | rfl | assumption) ?_
      exact ⟨by rw [← e3]; rfl, by rw [← e3]; exact h1⟩
    | succ f ih =>
      intro d t ls w1 e1 e2 e3 h1 l0 l1 l2 l3
      have hfm : f < m := by omega
      obtain ⟨u1, u2, u3, u4⟩ := h1.2.1.1 f hfm
      have hwr1 : w1.2 113 = _ := (h1.2.2.2.1 113 (by decide) (by decide)).trans hwr
      obtain ⟨o1, o2, o3, o4⟩ := hok f (by omega)
      rw [show ds_E n E d f = el_ds (E f) (nI (d f)) from if_pos (show f < n by omega)] at u3
      have hcl : (nI f).toNatClampNeg = f := nI_clamp (by omega)
      have hd11 : (el_ds (E f) (nI (d f))).2.2.2 11 = nI (d f) := rfl
      have hd0 : (el_ds (E f) (nI (d f))).2.2.2 0 = (E f).2.2.2 0 := rfl
      have hdf : d f ≤ 84960 := by have := e2; rw [sm_N] at this; omega
      have hdl16 := hdl_le (E f) live (d f)
      have hf1 : nI (f + 1) - 1 = nI f := nI_1m (by omega)
      have tl : ∀ (x : Int32) (ls : Ev_L), x = nI (if wr_op (E f).1 live = true then 1 else wr_sv (lN (d f)) 7 1) → ls.1 0 = some (.ref 113) → ls.1 1 = some (.int live) → ls.1 2 = some (.int (nI t)) → ls.1 3 = some (.int (nI f)) → ls.1 4 = some (.ref (ad f)) → ev_W G M_Wr_measureTree X 0 0 112 ls [.int x] w1 := by
        intro x ls hx l0 l1 l2 l3 l4
        have hwh : nI (wr_fb ((E f).2.2.2 0).toInt64 7 1) + x + nI (d f) = nI (hdl (E f) live (d f) + d f) := by rw [hx, nI_add, nI_add]; rfl
        cases hmi : mi f with
        | none =>
          have hmf : (el_ds (E f) (nI (d f))).2.1 = none := by show (E f).2.1 = none; rw [o3, hmi]; rfl
          refine r_istore hX d_Wr_measureTree_112 (by decide) ?_
          refine r_aload hX d_Wr_measureTree_114 (by first | rfl | assumption) ?_
          refine r_getf hX d_Wr_measureTree_116 fl_Wr_55 u3 rfl ?_
          rw [hd0]
          refine r_i2l hX d_Wr_measureTree_119 ?_
          refine r_callS (as := [_]) hX d_Wr_measureTree_120 lk_Wr_58 rfl (Nat.le_of_ble_eq_true rfl) (by decide) 0 0 (Nat.le_refl _) (Nat.le_refl _) (c_Wr_fewestBytes (G := G) _) (fun v w2 hq => ?_)
          obtain ⟨rfl, hw⟩ := hq
          rw [hw]
          refine r_iload hX d_Wr_measureTree_123 (by first | rfl | assumption) ?_
          refine r_iadd hX d_Wr_measureTree_125 ?_
          refine r_aload hX d_Wr_measureTree_126 (by first | rfl | assumption) ?_
          refine r_getf hX d_Wr_measureTree_128 fl_Wr_42 u3 rfl ?_
          rw [hd11]
          refine r_iadd hX d_Wr_measureTree_131 ?_
          rw [hwh]
          refine r_istore hX d_Wr_measureTree_132 (by decide) ?_
          refine r_aload hX d_Wr_measureTree_134 (by first | rfl | assumption) ?_
          refine r_getf hX d_Wr_measureTree_136 fl_Wr_61 u3 rfl ?_
          rw [hmf]
          refine r_ifnonnullN hX d_Wr_measureTree_139 ?_
          refine q_iload hX 2 d_Wr_measureTree_142 rfl (by first | rfl | assumption) ?_
          refine r_iload hX d_Wr_measureTree_143 (by first | rfl | assumption) ?_
          refine r_iadd hX d_Wr_measureTree_145 ?_
          refine q_istore hX 2 d_Wr_measureTree_146 rfl (by decide) ?_
          refine r_goto hX 165 d_Wr_measureTree_147 (by decide) ?_
          refine r_iinc hX d_Wr_measureTree_165 (by first | rfl | assumption) ?_
          refine r_goto hX 75 d_Wr_measureTree_168 (by decide) ?_
          exact ih d (t + (hdl (E f) live (d f) + d f)) _ w1 (by omega) (by rw [sm_N] at e2; omega) (by rw [← e3, me_go, hmi]) h1 l0 l1 (by show some (Value.int (nI t + nI _)) = _; rw [nI_add]) (by show some (Value.int (nI f + Int32.ofInt (-1))) = _; rw [i_dec])
        | some j =>
          have hjf := o4 j hmi
          have hmf : (el_ds (E f) (nI (d f))).2.1 = some (ad j) := by show (E f).2.1 = _; rw [o3, hmi]; rfl
          obtain ⟨v1, v2, v3, v4⟩ := h1.2.1.1 j (by omega)
          have uj : w1.2 (ad j) = some (el_C (ad j) (el_ds (E j) (nI (d j)))) := by rw [v3, show ds_E n E d j = el_ds (E j) (nI (d j)) from if_pos (show j < n by omega)]
          have hdj : (el_ds (E j) (nI (d j))).2.2.2 11 = nI (d j) := rfl
          refine r_istore hX d_Wr_measureTree_112 (by decide) ?_
          refine r_aload hX d_Wr_measureTree_114 (by first | rfl | assumption) ?_
          refine r_getf hX d_Wr_measureTree_116 fl_Wr_55 u3 rfl ?_
          rw [hd0]
          refine r_i2l hX d_Wr_measureTree_119 ?_
          refine r_callS (as := [_]) hX d_Wr_measureTree_120 lk_Wr_58 rfl (Nat.le_of_ble_eq_true rfl) (by decide) 0 0 (Nat.le_refl _) (Nat.le_refl _) (c_Wr_fewestBytes (G := G) _) (fun v w2 hq => ?_)
          obtain ⟨rfl, hw⟩ := hq
          rw [hw]
          refine r_iload hX d_Wr_measureTree_123 (by first | rfl | assumption) ?_
          refine r_iadd hX d_Wr_measureTree_125 ?_
          refine r_aload hX d_Wr_measureTree_126 (by first | rfl | assumption) ?_
          refine r_getf hX d_Wr_measureTree_128 fl_Wr_42 u3 rfl ?_
          rw [hd11]
          refine r_iadd hX d_Wr_measureTree_131 ?_
          rw [hwh]
          refine r_istore hX d_Wr_measureTree_132 (by decide) ?_
          refine r_aload hX d_Wr_measureTree_134 (by first | rfl | assumption) ?_
          refine r_getf hX d_Wr_measureTree_136 fl_Wr_61 u3 rfl ?_
          rw [hmf]
          refine r_ifnonnull hX 150 d_Wr_measureTree_139 (by decide) ?_
          refine r_aload hX d_Wr_measureTree_150 (by first | rfl | assumption) ?_
          refine r_getf hX d_Wr_measureTree_152 fl_Wr_61 u3 rfl ?_
          rw [hmf]
          refine r_dup hX d_Wr_measureTree_155 rfl ?_
          refine r_getf hX d_Wr_measureTree_156 fl_Wr_42 uj rfl ?_
          rw [hdj]
          refine r_iload hX d_Wr_measureTree_159 (by first | rfl | assumption) ?_
          refine r_iadd hX d_Wr_measureTree_161 ?_
          rw [nI_add]
          refine r_putf hX d_Wr_measureTree_162 fp_Wr_42 uj (by first | assumption | decide | omega) rfl rfl (Nat.le_of_ble_eq_true rfl) ?_
          refine r_iinc hX d_Wr_measureTree_165 (by first | rfl | assumption) ?_
          refine r_goto hX 75 d_Wr_measureTree_168 (by decide) ?_
          refine ih (fun i => if i = j then d j + (hdl (E f) live (d f) + d f) else d i) t _ _ (by omega) (by rw [sm_upd, if_pos hjf]; rw [sm_N] at e2; omega) (by rw [← e3, me_go, hmi]) ⟨⟨by rw [ev_set_ne _ _ (by omega)]; exact h1.1.1, by rw [ev_set_ne _ _ (by omega)]; exact h1.1.2.1, by rw [ev_set_ne _ _ (by omega)]; exact h1.1.2.2.1, by rw [ev_set_ne _ _ (by omega)]; exact h1.1.2.2.2⟩, ?_, ?_, ?_, h1.2.2.2.2⟩ l0 l1 l2 (by show some (Value.int (nI f + Int32.ofInt (-1))) = _; rw [i_dec])
          · refine is_Es.eqE (h1.2.1.set1 (i := j) (x := el_ds (E j) (nI (d j + (hdl (E f) live (d f) + d f)))) (by omega) ?_ (fun q _ hq => ev_set_ne _ _ hq)) (fun i hi => ?_)
            · rw [ev_set_self]; rfl
            · dsimp only [ds_E]
              by_cases z : i = j
              · subst z; rw [if_pos rfl, if_pos (by omega), if_pos rfl]
              · rw [if_neg z, if_neg z]
          · obtain ⟨c9, f9, hro⟩ := h1.2.2.1
            exact ⟨c9, f9, by rw [ev_set_ne _ _ (by omega)]; exact hro.1, by rw [ev_set_ne _ _ (by omega)]; exact hro.2⟩
          · intro q hq hq2
            rw [ev_set_ne _ _ (by omega)]; exact h1.2.2.2.1 q hq hq2
      refine q_iload hX 3 d_Wr_measureTree_75 rfl (by first | rfl | assumption) ?_
      refine r_if_lt hX 171 d_Wr_measureTree_76 (by decide) (fun c76 => absurd c76 (by rw [hf1, i_lt, nI_toInt (by omega), i_0]; omega)) (fun _ => ?_)
      refine q_aload hX 0 d_Wr_measureTree_79 rfl (by first | rfl | assumption) ?_
      refine r_getf hX d_Wr_measureTree_80 fl_Wr_20 hwr1 rfl ?_
      refine r_getf hX d_Wr_measureTree_83 fl_Wr_34 h1.1.1 rfl ?_
      refine q_iload hX 3 d_Wr_measureTree_86 rfl (by first | rfl | assumption) ?_
      refine r_aald hX d_Wr_measureTree_87 h1.1.2.1 rfl (by rw [hf1]; exact vp_in_nI (by omega) (by decide)) ?_
      rw [hf1, hcl, u1]
      refine r_astore hX d_Wr_measureTree_88 (by decide) ?_
      refine r_aload hX d_Wr_measureTree_90 (by first | rfl | assumption) ?_
      refine q_iload hX 1 d_Wr_measureTree_92 rfl (by first | rfl | assumption) ?_
      refine r_callS (as := [_, _]) hX d_Wr_measureTree_93 lk_Wr_47 rfl (Nat.le_of_ble_eq_true rfl) (by decide) 0 0 (Nat.le_refl _) (Nat.le_refl _) (c_Wr_isOpen (G := G) u3 o2 live) (fun v w2 hq => ?_)
      obtain ⟨rfl, hw⟩ := hq
      rw [hw]
      refine r_if_eq hX 103 d_Wr_measureTree_96 (by decide) (fun c96 => ?_) (fun c96 => ?_)
      · refine r_aload hX d_Wr_measureTree_103 (by first | rfl | assumption) ?_
        refine r_getf hX d_Wr_measureTree_105 fl_Wr_42 u3 rfl ?_
        rw [hd11]
        refine r_i2l hX d_Wr_measureTree_108 ?_
        refine r_callSN (as := [_]) hX d_Wr_measureTree_109 lk_Wr_51 rfl (Nat.le_of_ble_eq_true rfl) (by decide) 0 0 (Nat.le_refl _) (Nat.le_refl _) (c_EF_shortestVintLength (G := G) _) (fun v w2 hq => ?_)
        obtain ⟨rfl, hw⟩ := hq
        rw [hw]
        exact tl _ _ (by rw [if_neg (by rw [show wr_op (E f).1 live = false from b_i_0 c96]; decide), nI_l (by omega)]) l0 l1 l2 (by rw [← hf1]; exact l3) rfl
      · refine r_iconst (v := 1) hX d_Wr_measureTree_99 (by decide) ?_
        refine r_goto hX 112 d_Wr_measureTree_100 (by decide) ?_
        exact tl _ _ (by rw [if_pos (show wr_op (E f).1 live = true from b_i_1 c96)]; rfl) l0 l1 l2 (by rw [← hf1]; exact l3) rfl
  have after : ∀ (ls : Ev_L) (w1 : Ev_W), ms_inv w w1 n m sd L As sf ad (ds_E n E (fun i => (lf_L sf sd (E i) (PF i) (am i) (ss i) (sz i)).length)) PF → ls.1 0 = some (.ref 113) → ls.1 1 = some (.int live) → ev_W G M_Wr_measureTree X 0 0 63 ls [] w1 := by
    intro ls w1 h1 l0 l1
    have hwr1 : w1.2 113 = _ := (h1.2.2.2.1 113 (by decide) (by decide)).trans hwr
    refine r_iconst (v := 0) hX d_Wr_measureTree_63 (by decide) ?_
    refine q_istore hX 2 d_Wr_measureTree_64 rfl (by decide) ?_
    refine q_aload hX 0 d_Wr_measureTree_65 rfl (by first | rfl | assumption) ?_
    refine r_getf hX d_Wr_measureTree_66 fl_Wr_20 hwr1 rfl ?_
    refine r_getf hX d_Wr_measureTree_69 fl_Wr_27 h1.1.1 rfl ?_
    refine r_iconst (v := 1) hX d_Wr_measureTree_72 (by decide) ?_
    refine r_isub hX d_Wr_measureTree_73 ?_
    refine q_istore hX 3 d_Wr_measureTree_74 rfl (by decide) ?_
    exact loop2 n (fun i => (lf_L sf sd (E i) (PF i) (am i) (ss i) (sz i)).length) 0 _ w1 (Nat.le_refl _) (by have := sm_le (d := (fun i => (lf_L sf sd (E i) (PF i) (am i) (ss i) (sz i)).length)) (b := 1400) n (fun i hi => lf_len (hlf i hi)); omega) rfl h1 l0 l1 rfl rfl
  have loop : ∀ (f k : Nat) (ls : Ev_L) (w1 : Ev_W), k + f = n → ms_inv w w1 n m sd L As sf ad (ds_E k E (fun i => (lf_L sf sd (E i) (PF i) (am i) (ss i) (sz i)).length)) PF → ls.1 0 = some (.ref 113) → ls.1 1 = some (.int live) → ls.1 2 = some (.int (nI k)) → ev_W G M_Wr_measureTree X 0 0 2 ls [] w1 := by
    intro f
    induction f with
    | zero =>
      intro k ls w1 e1 h1 l0 l1 l2
      have hk : k = n := by omega
      have h1s := h1
      rw [hk] at h1s
      have hwr1 : w1.2 113 = _ := (h1.2.2.2.1 113 (by decide) (by decide)).trans hwr
      refine q_iload hX 2 d_Wr_measureTree_2 rfl (by first | rfl | assumption) ?_
      refine q_aload hX 0 d_Wr_measureTree_3 rfl (by first | rfl | assumption) ?_
      refine r_getf hX d_Wr_measureTree_4 fl_Wr_20 hwr1 rfl ?_
      refine r_getf hX d_Wr_measureTree_7 fl_Wr_27 h1.1.1 rfl ?_
      refine r_icmp_ge hX 63 d_Wr_measureTree_10 (by decide) (fun _ => ?_) (fun c10 => absurd (nI_le (by omega) (by omega)) c10)
      exact after _ w1 h1s l0 l1
    | succ f ih =>
      intro k ls w1 e1 h1 l0 l1 l2
      have hk : k < n := by omega
      have hwr1 : w1.2 113 = _ := (h1.2.2.2.1 113 (by decide) (by decide)).trans hwr
      obtain ⟨c9, f9, hro⟩ := h1.2.2.1
      obtain ⟨u1, u2, u3, u4⟩ := h1.2.1.1 k (by omega)
      have hEk : w1.2 (ad k) = some (el_C (ad k) (E k)) := by rw [u3]; dsimp only [ds_E]; rw [if_neg (Nat.lt_irrefl _)]
      have hcl : (nI k).toNatClampNeg = k := nI_clamp (by omega)
      refine q_iload hX 2 d_Wr_measureTree_2 rfl (by first | rfl | assumption) ?_
      refine q_aload hX 0 d_Wr_measureTree_3 rfl (by first | rfl | assumption) ?_
      refine r_getf hX d_Wr_measureTree_4 fl_Wr_20 hwr1 rfl ?_
      refine r_getf hX d_Wr_measureTree_7 fl_Wr_27 h1.1.1 rfl ?_
      refine r_icmp_ge hX 63 d_Wr_measureTree_10 (by decide) (fun c10 => absurd c10 (nI_ge (by omega) (by omega))) (fun _ => ?_)
      refine q_aload hX 0 d_Wr_measureTree_13 rfl (by first | rfl | assumption) ?_
      refine r_getf hX d_Wr_measureTree_14 fl_Wr_14 hwr1 rfl ?_
      refine r_iconst (v := 0) hX d_Wr_measureTree_17 (by decide) ?_
      refine r_putf hX d_Wr_measureTree_18 fp_Wr_33 hro.1 (by first | assumption | decide | omega) rfl rfl (Nat.le_of_ble_eq_true rfl) ?_
      have hro2 : is_Ro (ev_set w1 114 (.inr (1, [.ref 115, .int 0]))) 114 115 0 0 f9 := ⟨by rw [nI_0]; exact ev_set_self _ _ _, by rw [ev_set_ne _ _ (by decide)]; exact hro.2⟩
      generalize hw2 : (ev_set w1 114 (Sum.inr (1, List.set [Value.ref 115, Value.int (nI c9)] 1 (Value.int 0)))) = w2
      replace hw2 : w2 = ev_set w1 114 (.inr (1, [.ref 115, .int 0])) := hw2.symm
      rw [← hw2] at hro2
      have hs2 : ∀ q, q ≠ 114 → w2.2 q = w1.2 q := fun q hq => by rw [hw2]; exact ev_set_ne _ _ hq
      have hwr2 : w2.2 113 = _ := (hs2 113 (by decide)).trans hwr1
      have htr2 : is_Tr w2 n L As sf sd := ⟨(hs2 108 (by decide)).trans h1.1.1, (hs2 109 (by decide)).trans h1.1.2.1, (hs2 110 (by decide)).trans h1.1.2.2.1, (hs2 111 (by decide)).trans h1.1.2.2.2⟩
      have hE2 : w2.2 (ad k) = some (el_C (ad k) (E k)) := (hs2 _ (by omega)).trans hEk
      have hp2 : w2.2 (ad k + 1) = some (.inl (0, 16, .inl (PF k))) := (hs2 _ (by omega)).trans u4
      refine q_aload hX 0 d_Wr_measureTree_21 rfl (by first | rfl | assumption) ?_
      refine q_aload hX 0 d_Wr_measureTree_22 rfl (by first | rfl | assumption) ?_
      refine r_getf hX d_Wr_measureTree_23 fl_Wr_20 hwr2 rfl ?_
      refine r_getf hX d_Wr_measureTree_26 fl_Wr_34 htr2.1 rfl ?_
      refine q_iload hX 2 d_Wr_measureTree_29 rfl (by first | rfl | assumption) ?_
      refine r_aald hX d_Wr_measureTree_30 htr2.2.1 rfl (vp_in_nI (by omega) (by decide)) ?_
      rw [hcl, u1]
      refine q_aload hX 0 d_Wr_measureTree_31 rfl (by first | rfl | assumption) ?_
      refine r_getf hX d_Wr_measureTree_32 fl_Wr_14 hwr2 rfl ?_
      refine r_callV (as := [_, _]) hX d_Wr_measureTree_35 lk_Wr_38 hwr2 rfl rfl (Nat.le_of_ble_eq_true rfl) (by decide) 0 0 (Nat.le_refl _) (Nat.le_refl _) (c_Wr_putLeaf (G := G) hwr2 htr2 hn hsd hro2 (Or.inr ⟨rfl, rfl⟩) (by decide) (by decide) hE2 u2 hp2 (hlf k hk)) (fun v w3 hq => ?_)
      obtain ⟨rfl, q1⟩ := hq
      have hwr3 := q1.el hwr2 (by decide)
      have htr3 : is_Tr w3 n L As sf sd := ⟨q1.el htr2.1 (by decide), q1.el htr2.2.1 (by decide), q1.el htr2.2.2.1 (by decide), q1.el htr2.2.2.2 (by decide)⟩
      have hE3 := q1.el hE2 (by omega)
      refine q_aload hX 0 d_Wr_measureTree_38 rfl (by first | rfl | assumption) ?_
      refine r_getf hX d_Wr_measureTree_39 fl_Wr_20 hwr3 rfl ?_
      refine r_getf hX d_Wr_measureTree_42 fl_Wr_34 htr3.1 rfl ?_
      refine q_iload hX 2 d_Wr_measureTree_45 rfl (by first | rfl | assumption) ?_
      refine r_aald hX d_Wr_measureTree_46 htr3.2.1 rfl (vp_in_nI (by omega) (by decide)) ?_
      rw [hcl, u1]
      refine q_aload hX 0 d_Wr_measureTree_47 rfl (by first | rfl | assumption) ?_
      refine r_getf hX d_Wr_measureTree_48 fl_Wr_14 hwr3 rfl ?_
      refine r_getf hX d_Wr_measureTree_51 fl_Wr_33 q1.1.1 rfl ?_
      refine r_putf hX d_Wr_measureTree_54 fp_Wr_42 hE3 (by first | assumption | decide | omega) rfl rfl (Nat.le_of_ble_eq_true rfl) ?_
      refine r_iinc hX d_Wr_measureTree_57 (by first | rfl | assumption) ?_
      refine r_goto hX 2 d_Wr_measureTree_60 (by decide) ?_
      exact ih (k + 1) _ _ (by omega) (by
        refine ⟨⟨by rw [ev_set_ne _ _ (by omega)]; exact htr3.1, by rw [ev_set_ne _ _ (by omega)]; exact htr3.2.1, by rw [ev_set_ne _ _ (by omega)]; exact htr3.2.2.1, by rw [ev_set_ne _ _ (by omega)]; exact htr3.2.2.2⟩, ?_, ⟨_, _, ⟨by rw [ev_set_ne _ _ (by omega)]; exact q1.1.1, by rw [ev_set_ne _ _ (by omega)]; exact q1.1.2⟩⟩, ?_, ?_⟩
        · refine is_Es.eqE ((h1.2.1.same (w' := w3) (fun q hq => ?_)).set1 (i := k) (x := el_ds (E k) (nI (lf_L sf sd (E k) (PF k) (am k) (ss k) (sz k)).length)) (by omega) ?_ (fun q _ hq => ev_set_ne _ _ hq)) (fun i hi => ?_)
          · rw [q1.2.2 q (by simp; omega)]; exact hs2 q (by omega)
          · rw [ev_set_self, Nat.zero_add]; rfl
          · dsimp only [ds_E]
            by_cases z : i = k
            · subst z; rw [if_pos rfl, if_pos (by omega)]
            · rw [if_neg z]
              by_cases z2 : i < k
              · rw [if_pos z2, if_pos (by omega)]
              · rw [if_neg z2, if_neg (by omega)]
        · intro q hq hq2
          rw [ev_set_ne _ _ (by omega), q1.2.2 q hq2, hs2 q (fun z => hq2 (by rw [z]; decide))]
          exact h1.2.2.2.1 q hq hq2
        · show w3.1 = w.1
          rw [q1.2.1, hw2]; exact h1.2.2.2.2) l0 l1 (by show some (Value.int (nI k + Int32.ofInt 1)) = _; rw [show Int32.ofInt 1 = 1 from rfl, nI_1])
  refine r_iconst (v := 0) hX d_Wr_measureTree_0 (by decide) ?_
  refine q_istore hX 2 d_Wr_measureTree_1 rfl (by decide) ?_
  exact loop n 0 _ w (by omega) ⟨htr, is_Es.eqE hes (fun i _ => by dsimp only [ds_E]; rw [if_neg (Nat.not_lt_zero _)]), hro, fun _ _ _ => rfl, rfl⟩ rfl rfl rfl
