/-! ===== the reference: fillSum; where bytes come to stand ===== -/
theorem bs_get (n : Nat) : ∀ (L : List Int32) (f : Nat → Int32) (c i : Nat), c + L.length ≤ n → (i < c → ro_bs n L f c i = f i) ∧ (c ≤ i → i < c + L.length → ro_bs n L f c i = L.getD (i - c) 0 &&& 255)
  | [], f, c, i, h => ⟨fun _ => rfl, fun h1 h2 => by simp at h2; omega⟩
  | x :: t, f, c, i, h => by
    rw [List.length_cons] at h
    obtain ⟨a, b⟩ := bs_get n t (ro_p1 n f c x) (c + 1) i (by omega)
    have hp : ro_p1 n f c x = upd f c (x &&& 255) := by rw [ro_p1, if_pos (by omega)]
    refine ⟨fun h1 => ?_, fun h1 h2 => ?_⟩
    · show ro_bs n t (ro_p1 n f c x) (c + 1) i = f i
      rw [a (by omega), hp]; unfold upd; rw [if_neg (by omega)]
    · show ro_bs n t (ro_p1 n f c x) (c + 1) i = _
      rw [List.length_cons] at h2
      by_cases z : i = c
      · subst z
        rw [a (by omega), hp, Nat.sub_self]; simp [upd]
      · rw [b (by omega) (by omega), show i - c = (i - (c + 1)) + 1 by omega, List.getD_cons_succ]
theorem so_f9 : ∀ s, s < 17 → ∀ t, t < 17 → ¬ t = 1 → so_fits s (so_in t) = true → ¬ so_fm s = 0 := by decide +kernel
abbrev wE (S : Ev_S) (D : Nat → Ev_D) (sf : Nat → Int32) (sd : Nat) (live : Int32) : Nat → Ev_E := ds_E (sn S) (sE S) (wDS S D sf sd live).1
abbrev wL (S : Ev_S) (D : Nat → Ev_D) (sf : Nat → Int32) (sd : Nat) (live : Int32) (k : Nat) : List Int32 := wt_L sf sd (wE S D sf sd live) (sP S) (fun i => (D i).1) (fun i => (D i).2.1) (fun i => (D i).2.2.1) live k
abbrev wP (S : Ev_S) (D : Nat → Ev_D) (sf : Nat → Int32) (sd : Nat) (live : Int32) (k : Nat) : Nat := wt_p sf sd (wE S D sf sd live) (sP S) (fun i => (D i).1) (fun i => (D i).2.1) (fun i => (D i).2.2.1) live k
section wLs
variable {I : Nat → Int32} {A : Ev_A} {S : Ev_S} {D : Nat → Ev_D} {sf : Nat → Int32} {sd : Nat}
theorem wL_hd (hm : mdl I A S D sf sd) (live : Int32) {k : Nat} (hk : k < sn S) : (hd_L (wE S D sf sd live k) live).length = hdl (sE S k) live ((wDS S D sf sd live).1 k) := by
  have := hm.wb live k hk
  rw [show wE S D sf sd live k = el_ds (sE S k) (nI ((wDS S D sf sd live).1 k)) from by rw [wE, ds_E, if_pos hk]]
  exact hd_hdl _ _ (by omega)
theorem wL_lf (live : Int32) {k : Nat} (hk : k < sn S) : lf_L sf sd (wE S D sf sd live k) (sP S k) (D k).1 (D k).2.1 (D k).2.2.1 = lfS S D sf sd k := by
  rw [show wE S D sf sd live k = el_ds (sE S k) (nI ((wDS S D sf sd live).1 k)) from by rw [wE, ds_E, if_pos hk]]
  rfl
theorem wL_len (hm : mdl I A S D sf sd) (live : Int32) {k : Nat} (hk : k < sn S) : (wL S D sf sd live (k + 1)).length = wP S D sf sd live k + (lfS S D sf sd k).length := by
  show (wt_L _ _ _ _ _ _ _ _ _ ++ wt_1 _ _ _ _ _ _ _ _ _).length = _
  rw [List.length_append, wt_1, List.length_append, wL_lf live hk]
  show _ = (_ + _) + _
  omega
theorem wL_mono (live : Int32) : ∀ {a b : Nat}, a ≤ b → (wL S D sf sd live a).length ≤ (wL S D sf sd live b).length
  | a, 0, h => by rw [show a = 0 by omega]; exact Nat.le_refl _
  | a, b + 1, h => by
    by_cases z : a = b + 1
    · rw [z]; exact Nat.le_refl _
    · have := wL_mono live (show a ≤ b by omega)
      refine Nat.le_trans this ?_
      show _ ≤ (wt_L _ _ _ _ _ _ _ _ _ ++ wt_1 _ _ _ _ _ _ _ _ _).length
      rw [List.length_append]; exact Nat.le_add_right _ _
theorem wL_suf (hm : mdl I A S D sf sd) (live : Int32) {j : Nat} (hs1 : ¬ (sE S j).1 = 1) (hj : j < sn S) : ∀ t, j + 1 + t ≤ tr_end (el_lev (sE S)) (sn S) j → (wL S D sf sd live (j + 1 + t)).length = (wL S D sf sd live (j + 1)).length + suf (fun c => decide (si S c = some j)) (chv S D sf sd live) t (j + 1)
  | 0, _ => rfl
  | t + 1, h => by
    obtain ⟨hc, hn, hu, hsd, hpo, hpl, hrow, hhp⟩ := id hm
    have hb := (tr_end_spec hn hpo hj).2.1
    have hx : j + 1 + t < sn S := by omega
    have hmi := in_leaf hn hpo hpl hj hs1 (show j < j + 1 + t by omega) (by omega)
    have hnf := so_f9 _ (hpl _ hx).1 _ (hpl j hj).1 hs1 ((hpl _ hx).2.2 j hmi)
    have ih := wL_suf hm live hs1 hj t (by omega)
    rw [suf_snoc, if_pos (decide_eq_true hmi), show j + 1 + (t + 1) = (j + 1 + t) + 1 from rfl, wL_len hm live hx]
    have h1 := wL_hd hm live hx
    have h2 := wD_leaf hm live hx hnf
    show ((wL S D sf sd live (j + 1 + t)).length + (hd_L (wE S D sf sd live (j + 1 + t)) live).length) + (lfS S D sf sd (j + 1 + t)).length = _
    rw [h1, chv, h2]; omega
/-- the data of a master that is no SEGMENT end where its last element ends -/
theorem wL_end (hm : mdl I A S D sf sd) (live : Int32) {j : Nat} (hj : j < sn S) (hs1 : ¬ (sE S j).1 = 1) (hf : so_fm (sE S j).1 = 0) : wP S D sf sd live j + (wDS S D sf sd live).1 j = (wL S D sf sd live (tr_end (el_lev (sE S)) (sn S) j)).length := by
  obtain ⟨hc, hn, hu, hsd, hpo, hpl, hrow, hhp⟩ := id hm
  obtain ⟨b1, b2, b3, b4⟩ := tr_end_spec hn hpo hj
  have hl0 : (lfS S D sf sd j).length = 0 := by
    unfold lfS lf_L
    rw [if_neg (by rw [hf]; decide), if_neg (by rw [hf]; decide), if_neg (by rw [hf]; decide), if_neg (by rw [hf]; decide), if_neg (by rw [hf]; decide), if_neg (by rw [hf]; decide)]; rfl
  have h1 := wL_suf hm live hs1 hj (tr_end (el_lev (sE S)) (sn S) j - (j + 1)) (by omega)
  rw [show j + 1 + (tr_end (el_lev (sE S)) (sn S) j - (j + 1)) = tr_end (el_lev (sE S)) (sn S) j by omega] at h1
  rw [h1, wL_len hm live hj, hl0, wD_fix hm live hj, hl0]
  have h2 : suf (fun c => decide (si S c = some j)) (chv S D sf sd live) (sn S - (j + 1)) (j + 1) = suf (fun c => decide (si S c = some j)) (chv S D sf sd live) (tr_end (el_lev (sE S)) (sn S) j - (j + 1)) (j + 1) := by
    have key : ∀ b a, j + 1 + a = tr_end (el_lev (sE S)) (sn S) j → a + b = sn S - (j + 1) → suf (fun c => decide (si S c = some j)) (chv S D sf sd live) (a + b) (j + 1) = suf (fun c => decide (si S c = some j)) (chv S D sf sd live) a (j + 1) := by
      intro b a ha
      induction b with
      | zero => intro _; rfl
      | succ b ih =>
        intro hab
        have ih2 : ∀ b', b' ≤ b → suf (fun c => decide (si S c = some j)) (chv S D sf sd live) (a + b') (j + 1) = suf (fun c => decide (si S c = some j)) (chv S D sf sd live) a (j + 1) := by
          intro b'
          induction b' with
          | zero => intro _; rfl
          | succ b' ih3 =>
            intro hb'
            rw [show a + (b' + 1) = (a + b') + 1 from rfl, suf_snoc, if_neg (by
              rw [decide_eq_true_eq]
              exact fun z => by have := mi_in1 hn hpo (show j + 1 + (a + b') < sn S by omega) z; omega), ih3 (by omega)]; rfl
        rw [show a + (b + 1) = (a + b) + 1 from rfl, suf_snoc, if_neg (by
          rw [decide_eq_true_eq]
          exact fun z => by have := mi_in1 hn hpo (show j + 1 + (a + b) < sn S by omega) z; omega), ih2 b (Nat.le_refl _)]; rfl
    have := key (sn S - tr_end (el_lev (sE S)) (sn S) j) (tr_end (el_lev (sE S)) (sn S) j - (j + 1)) (by omega) (by omega)
    rw [show tr_end (el_lev (sE S)) (sn S) j - (j + 1) + (sn S - tr_end (el_lev (sE S)) (sn S) j) = sn S - (j + 1) by omega] at this
    exact this
  rw [h2]; omega
end wLs
theorem ro_at_lt {n c i : Nat} {f : Nat → Int32} (h : i < c) (hc : c ≤ n) (hn : n ≤ 640) : ro_at n f c (nI i) = f i := by rw [ro_at, nI_toInt (by omega), nI_clamp (by omega), if_pos ⟨by omega, by omega, by omega⟩]
theorem ro_ch_get {c i p : Nat} {f : Nat → Int32} {x : Int32} (hp : p < c) (hc : c ≤ 640) : ro_ch 640 f c (nI p) x i = if i = p then x &&& 255 else f i := by
  rw [ro_ch, nI_toInt (by omega), nI_clamp (by omega), if_pos ⟨by omega, by omega, by omega⟩]; rfl
theorem c_Mo_fillSum {G : Ev_G} {w : Ev_W} {I : Nat → Int32} {v0 : Int64} {A : Ev_A} (hM : is_M w I v0 A) {k j pk pj dj c : Nat} {f : Nat → Int32} (hk : k < 61) (hj : j < 61) (hmk : A.1 119 k = nI j) (hbk : A.1 138 k = nI pk) (hbj : A.1 138 j = nI pj) (hdj : A.1 137 j = nI dj) (hc6 : c ≤ 640) (hp4 : pk + 4 ≤ c) (hpe : pk + 4 ≤ pj + dj) (hec : pj + dj ≤ c) (hfo : ∀ x, x < c → A.1 133 x = f x) (hfb : ∀ x, x < c → f x &&& 255 = f x) : ev_Met G M_Mo_fillSum 1 0 0 [.ref 117, .int (nI k)] w (fun v w' => v = none ∧ ∃ A', is_M w' I v0 A' ∧ mo_sm w w' ∧ (∀ q, q ≠ 133 → A'.1 q = A.1 q) ∧ A'.2 = A.2 ∧ ∀ x, x < c → A'.1 133 x = fc_f 640 c (nI pk) (cr_s (fun i => ro_at 640 f c (nI i)) (pj + dj - (pk + 4)) (pk + 4) (-1) ^^^ -1) 4 f x) := by
  refine ev_Met.of md_Mo_fillSum (Nat.le_of_ble_eq_true rfl) (fun X hX hR => ?_)
  obtain ⟨w0, hw0⟩ : ∃ w0, w0 = w := ⟨_, rfl⟩
  have hs : mo_sm w0 w := by rw [hw0]; exact mo_sm.rf
  have loop2 : ∀ (t i : Nat) (A1 : Ev_A) (w1 : Ev_W) (ls : Ev_L), i + t = 4 → is_M w1 I v0 A1 → mo_sm w0 w1 → (∀ q, q ≠ 133 → A1.1 q = A.1 q) → A1.2 = A.2 → (∀ x, x < c → A1.1 133 x = fc_f 640 c (nI pk) (cr_s (fun i => ro_at 640 f c (nI i)) (pj + dj - (pk + 4)) (pk + 4) (-1) ^^^ -1) i f x) → ls.1 0 = some (.ref 117) → ls.1 1 = some (.int (nI k)) → ls.1 2 = some (.int (cr_s (fun i => ro_at 640 f c (nI i)) (pj + dj - (pk + 4)) (pk + 4) (-1) ^^^ -1)) → ls.1 4 = some (.int (nI i)) → ev_W G M_Mo_fillSum X 0 0 67 ls [] w1 := by
    intro t
    induction t with
    | zero =>
      intro i A1 w ls e1 hM hs g1 g2 g3 l0 l1 l2 l4
      have e1 : i = 4 := e1
      subst e1
      refine r_iload hX d_Mo_fillSum_67 (by first | rfl | assumption) ?_
      refine r_iconst (v := 4) hX d_Mo_fillSum_69 (by decide) ?_
      refine r_icmp_ge hX 104 d_Mo_fillSum_70 (by decide) (fun _ => ?_) (fun c70 => absurd (by decide) c70)
      refine r_vret hX hR d_Mo_fillSum_104 rfl ?_
      exact ⟨rfl, A1, hM, hw0 ▸ hs, g1, g2, g3⟩
    | succ t ih =>
      intro i A1 w ls e1 hM hs g1 g2 g3 l0 l1 l2 l4
      refine r_iload hX d_Mo_fillSum_67 (by first | rfl | assumption) ?_
      refine r_iconst (v := 4) hX d_Mo_fillSum_69 (by decide) ?_
      refine r_icmp_ge hX 104 d_Mo_fillSum_70 (by decide) (fun c70 => absurd c70 (nI_ge (a := i) (b := 4) (by omega) (by decide))) (fun _ => ?_)
      refine q_aload hX 0 d_Mo_fillSum_73 rfl (by first | rfl | assumption) ?_
      refine r_getf hX d_Mo_fillSum_74 fl_Mo_57 hM.1 rfl ?_
      refine q_aload hX 0 d_Mo_fillSum_77 rfl (by first | rfl | assumption) ?_
      refine r_getf hX d_Mo_fillSum_78 fl_Mo_76 hM.1 rfl ?_
      refine q_iload hX 1 d_Mo_fillSum_81 rfl (by first | rfl | assumption) ?_
      refine r_ialdm (c := 138) (x := nI pk) hX d_Mo_fillSum_82 hM rfl rfl (by omega) (by rw [g1 138 (by decide)]; exact hbk) ?_
      refine r_iload hX d_Mo_fillSum_83 (by first | rfl | assumption) ?_
      refine r_iadd hX d_Mo_fillSum_85 ?_
      refine q_iload hX 2 d_Mo_fillSum_86 rfl (by first | rfl | assumption) ?_
      refine r_bipush (v := 8) hX d_Mo_fillSum_87 (by decide) ?_
      refine r_iload hX d_Mo_fillSum_89 (by first | rfl | assumption) ?_
      refine r_imul hX d_Mo_fillSum_91 ?_
      refine r_ishr hX d_Mo_fillSum_92 ?_
      refine r_sipush (v := 255) hX d_Mo_fillSum_93 (by decide) ?_
      refine r_iand hX d_Mo_fillSum_96 ?_
      rw [cr_by _ (by omega)]
      refine r_iastm (c := 133) hX d_Mo_fillSum_97 hM hs rfl (j := pk + i) (by rw [nI_add]) (by omega) (fun w hM hs => ?_)
      refine r_iinc hX d_Mo_fillSum_98 (by first | rfl | assumption) ?_
      refine r_goto hX 67 d_Mo_fillSum_101 (by decide) ?_
      refine ih (i + 1) _ w _ (by omega) hM hs (fun q hq => by rw [aset_ne _ _ _ hq]; exact g1 q hq) g2 (fun x hx => ?_) l0 l1 l2 (by show some (Value.int (nI i + Int32.ofInt 1)) = _; rw [show Int32.ofInt 1 = 1 from rfl, nI_1])
      rw [fc_f, nI_add, ro_ch_get (by omega) hc6]
      by_cases z : x = pk + i
      · rw [if_pos z, z, aset_self]
      · rw [if_neg z, aset_off _ _ _ _ _ _ (Or.inr z)]; exact g3 x hx
  have loop1 : ∀ (t i : Nat) (ls : Ev_L) (y : Int32), i + t = pj + dj → cr_s (fun i => ro_at 640 f c (nI i)) t i y = cr_s (fun i => ro_at 640 f c (nI i)) (pj + dj - (pk + 4)) (pk + 4) (-1) → ls.1 0 = some (.ref 117) → ls.1 1 = some (.int (nI k)) → ls.1 2 = some (.int y) → ls.1 3 = some (.int (nI (pj + dj))) → ls.1 4 = some (.int (nI i)) → ev_W G M_Mo_fillSum X 0 0 36 ls [] w := by
    intro t
    induction t with
    | zero =>
      intro i ls y e1 e2 l0 l1 l2 l3 l4
      refine r_iload hX d_Mo_fillSum_36 (by first | rfl | assumption) ?_
      refine q_iload hX 3 d_Mo_fillSum_38 rfl (by first | rfl | assumption) ?_
      refine r_icmp_ge hX 60 d_Mo_fillSum_39 (by decide) (fun _ => ?_) (fun c39 => absurd (nI_le (by omega) (by omega)) c39)
      refine q_iload hX 2 d_Mo_fillSum_60 rfl (by first | rfl | assumption) ?_
      refine r_iconst (v := -1) hX d_Mo_fillSum_61 (by decide) ?_
      refine r_ixor hX d_Mo_fillSum_62 ?_
      refine q_istore hX 2 d_Mo_fillSum_63 rfl (by decide) ?_
      refine r_iconst (v := 0) hX d_Mo_fillSum_64 (by decide) ?_
      refine r_istore hX d_Mo_fillSum_65 (by decide) ?_
      exact loop2 4 0 A w _ rfl hM hs (fun _ _ => rfl) rfl hfo l0 l1 (by show some (Value.int (y ^^^ -1)) = _; rw [← e2]; rfl) rfl
    | succ t ih =>
      intro i ls y e1 e2 l0 l1 l2 l3 l4
      refine r_iload hX d_Mo_fillSum_36 (by first | rfl | assumption) ?_
      refine q_iload hX 3 d_Mo_fillSum_38 rfl (by first | rfl | assumption) ?_
      refine r_icmp_ge hX 60 d_Mo_fillSum_39 (by decide) (fun c39 => absurd c39 (nI_ge (by omega) (by omega))) (fun _ => ?_)
      refine q_iload hX 2 d_Mo_fillSum_42 rfl (by first | rfl | assumption) ?_
      refine q_aload hX 0 d_Mo_fillSum_43 rfl (by first | rfl | assumption) ?_
      refine r_getf hX d_Mo_fillSum_44 fl_Mo_57 hM.1 rfl ?_
      refine r_iload hX d_Mo_fillSum_47 (by first | rfl | assumption) ?_
      refine r_ialdm (c := 133) (x := f i) hX d_Mo_fillSum_49 hM rfl rfl (by omega) (hfo i (by omega)) ?_
      refine r_callS (as := [_, _]) hX d_Mo_fillSum_50 lk_Mo_136 rfl (Nat.le_of_ble_eq_true rfl) (by decide) 0 0 (Nat.le_refl _) (Nat.le_refl _) (c_Mo_crcStep (G := G) _ _) (fun v w1 hq => ?_)
      obtain ⟨rfl, hw⟩ := hq
      rw [hw]
      refine q_istore hX 2 d_Mo_fillSum_53 rfl (by decide) ?_
      refine r_iinc hX d_Mo_fillSum_54 (by first | rfl | assumption) ?_
      refine r_goto hX 36 d_Mo_fillSum_57 (by decide) ?_
      exact ih (i + 1) _ _ (by omega) (by rw [← e2, cr_s, ro_at_lt (by omega) hc6 (by decide), hfb i (by omega)]) l0 l1 rfl l3 (by show some (Value.int (nI i + Int32.ofInt 1)) = _; rw [show Int32.ofInt 1 = 1 from rfl, nI_1])
  refine r_iconst (v := -1) hX d_Mo_fillSum_0 (by decide) ?_
  refine q_istore hX 2 d_Mo_fillSum_1 rfl (by decide) ?_
  refine q_aload hX 0 d_Mo_fillSum_2 rfl (by first | rfl | assumption) ?_
  refine r_getf hX d_Mo_fillSum_3 fl_Mo_76 hM.1 rfl ?_
  refine q_aload hX 0 d_Mo_fillSum_6 rfl (by first | rfl | assumption) ?_
  refine r_getf hX d_Mo_fillSum_7 fl_Mo_13 hM.1 rfl ?_
  refine q_iload hX 1 d_Mo_fillSum_10 rfl (by first | rfl | assumption) ?_
  refine r_ialdm (c := 119) (x := nI j) hX d_Mo_fillSum_11 hM rfl rfl (by omega) hmk ?_
  refine r_ialdm (c := 138) (x := nI pj) hX d_Mo_fillSum_12 hM rfl rfl (by omega) hbj ?_
  refine q_aload hX 0 d_Mo_fillSum_13 rfl (by first | rfl | assumption) ?_
  refine r_getf hX d_Mo_fillSum_14 fl_Mo_73 hM.1 rfl ?_
  refine q_aload hX 0 d_Mo_fillSum_17 rfl (by first | rfl | assumption) ?_
  refine r_getf hX d_Mo_fillSum_18 fl_Mo_13 hM.1 rfl ?_
  refine q_iload hX 1 d_Mo_fillSum_21 rfl (by first | rfl | assumption) ?_
  refine r_ialdm (c := 119) (x := nI j) hX d_Mo_fillSum_22 hM rfl rfl (by omega) hmk ?_
  refine r_ialdm (c := 137) (x := nI dj) hX d_Mo_fillSum_23 hM rfl rfl (by omega) hdj ?_
  refine r_iadd hX d_Mo_fillSum_24 ?_
  rw [nI_add]
  refine q_istore hX 3 d_Mo_fillSum_25 rfl (by decide) ?_
  refine q_aload hX 0 d_Mo_fillSum_26 rfl (by first | rfl | assumption) ?_
  refine r_getf hX d_Mo_fillSum_27 fl_Mo_76 hM.1 rfl ?_
  refine q_iload hX 1 d_Mo_fillSum_30 rfl (by first | rfl | assumption) ?_
  refine r_ialdm (c := 138) (x := nI pk) hX d_Mo_fillSum_31 hM rfl rfl (by omega) hbk ?_
  refine r_iconst (v := 4) hX d_Mo_fillSum_32 (by decide) ?_
  refine r_iadd hX d_Mo_fillSum_33 ?_
  rw [show (4 : Int32) = nI 4 from rfl, nI_add]
  refine r_istore hX d_Mo_fillSum_34 (by decide) ?_
  exact loop1 (pj + dj - (pk + 4)) (pk + 4) _ (-1) (by omega) rfl rfl rfl rfl rfl rfl
