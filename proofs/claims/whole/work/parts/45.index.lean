/-! ===== Finder: renewCues; ElementFiles: index ===== -/
def ix_end (S : Ev_S) (k : Nat) : Nat := tr_end (el_lev (sE S)) (sn S) k
def ix_S (S : Ev_S) (k : Nat) (L1 : Nat → Option Nat) : Ev_S := ix_go k (ix_end (tk_S S k 10 L1) k - (k + 1)) (k + 1) 0 (tk_S S k 10 L1)
def ix_fr (w w' : Ev_W) : Prop := ∀ q, q < 139 → q ∉ [108, 109, 110] → w'.2 q = w.2 q
def ix_post (w w' : Ev_W) (S : Ev_S) (sf : Nat → Int32) (sd k : Nat) (v : Option Value) : Prop :=
  (60 < sn S - (tr_wg (sE S) (sa S k) 10 (tr_end (el_lev (sE S)) (sn S) k - (k + 1)) (k + 1) false) + 4 * (fi_ck (sE S) (tr_end (el_lev (sE S)) (sn S) k - (k + 1)) (k + 1)) ∧ v = some (.int (-6)) ∧ w' = w) ∨
  (sn S - (tr_wg (sE S) (sa S k) 10 (tr_end (el_lev (sE S)) (sn S) k - (k + 1)) (k + 1) false) + 4 * (fi_ck (sE S) (tr_end (el_lev (sE S)) (sn S) k - (k + 1)) (k + 1)) ≤ 60 ∧ v = some (.int (nI (fi_ck (sE S) (tr_end (el_lev (sE S)) (sn S) k - (k + 1)) (k + 1)))) ∧ ∃ L1 As1, is_S w' (ix_S S k L1) As1 sf sd ∧ is_po (sn (ix_S S k L1)) (sE (ix_S S k L1)) (si (ix_S S k L1)) ∧ is_po (sn (tk_S S k 10 L1)) (sE (tk_S S k 10 L1)) (si (tk_S S k 10 L1)) ∧ ix_fr w w')
theorem c_Fi_renewCues {G : Ev_G} {w : Ev_W} {S : Ev_S} {As : Nat → Option Nat} {sf : Nat → Int32} {sd : Nat} (hS : is_S w S As sf sd) (hsd : sd ≤ 1200) (hpo : is_po (sn S) (sE S) (si S)) (hfi : is_Fi w) {k : Nat} (hk : k < sn S) : ev_Met G M_Fi_renewCues 5 120 1980 [.ref 116, .ref (sa S k)] w (fun v w' => ix_post w w' S sf sd k v) := by
  have hn60 : sn S ≤ 60 := by have h1 := hS.2.2.2.1; have h2 := hS.2.2.2.2.1; omega
  have hsp := tr_end_spec hn60 hpo hk
  have hwgl := tr_wg_le (sE S) (sa S k) 10 (tr_end (el_lev (sE S)) (sn S) k - (k + 1)) (k + 1) false
  have hckl := fi_ck_le (sE S) (tr_end (el_lev (sE S)) (sn S) k - (k + 1)) (k + 1)
  refine ev_Met.of md_Fi_renewCues (Nat.le_of_ble_eq_true rfl) (fun X hX hR => ?_)
  unfold is_Fi at hfi
  generalize hcu : (fi_ck (sE S) (tr_end (el_lev (sE S)) (sn S) k - (k + 1)) (k + 1)) = cu at *
  have loop : ∀ (L1 As1 : Nat → Option Nat) (S1 : Ev_S), S1 = tk_S S k 10 L1 → is_po (sn S1) (sE S1) (si S1) → k < sn S1 → sn S1 ≤ 60 → sn S - (tr_wg (sE S) (sa S k) 10 (tr_end (el_lev (sE S)) (sn S) k - (k + 1)) (k + 1) false) + 4 * cu ≤ 60 → ix_end S1 k ≤ sn S1 → k < ix_end S1 k → (∀ t, k < t → t < ix_end S1 k → el_ln (sE S1) k < el_ln (sE S1) t) → ∀ (f j bef : Nat) (Sc : Ev_S) (ls : Ev_L) (w1 : Ev_W) (bc bs : Nat), j + f = ix_end S1 k → k < j → bef ≤ j → ix_go k f j bef Sc = ix_go k (ix_end (tk_S S k 10 L1) k - (k + 1)) (k + 1) 0 (tk_S S k 10 L1) → is_S w1 Sc As1 sf sd → is_po (sn Sc) (sE Sc) (si Sc) → (∀ i, i < ix_end S1 k → sa Sc i = sa S1 i ∧ sE Sc i = sE S1 i) → ix_end S1 k ≤ cup Sc k → sn Sc + 4 * fi_ck (sE S1) f j ≤ 60 → ix_fr w w1 → 8 * fi_ck (sE S1) f j ≤ bc → 132 * fi_ck (sE S1) f j ≤ bs → ls.1 0 = some (.ref 116) → ls.1 1 = some (.ref (sa S k)) → ls.1 2 = some (.int (nI cu)) → ls.1 4 = some (.int (nI bef)) → ls.1 5 = some (.int (nI (ix_end S1 k))) → ls.1 6 = some (.int (nI j)) → ev_W G M_Fi_renewCues X bc bs 71 ls [] w1 := by
    intro L1 As1 S1 hS1e hpo1 hk1 hn1 h60 he1 hke hd1 f
    induction f with
    | zero =>
      intro j bef Sc ls w1 bc bs e1 hkj hbj eR hSc hpc hsame hend hroom hfr hb1 hb2 l0 l1 l2 l4 l5 l6
      subst hS1e
      refine r_iload hX d_Fi_renewCues_71 (by first | rfl | assumption) ?_
      refine r_iload hX d_Fi_renewCues_73 (by first | rfl | assumption) ?_
      refine r_icmp_ge hX 127 d_Fi_renewCues_75 (by decide) (fun _ => ?_) (fun c75 => absurd (nI_le (by omega) (by omega)) c75)
      refine q_iload hX 2 d_Fi_renewCues_127 rfl (by first | rfl | assumption) ?_
      refine r_iret hX hR d_Fi_renewCues_128 rfl (by first | rfl | assumption) ?_
      exact Or.inr ⟨by rw [hcu]; exact h60, by rw [hcu], L1, As1, by rw [ix_S, ← eR]; exact hSc, by rw [ix_S, ← eR]; exact hpc, hpo1, hfr⟩
    | succ f ih =>
      intro j bef Sc ls w1 bc bs e1 hkj hbj eR hSc hpc hsame hend hroom hfr hb1 hb2 l0 l1 l2 l4 l5 l6
      have hfi1 : w1.2 116 = _ := (hfr 116 (by decide) (by decide)).trans hfi
      have hcn : cup Sc k ≤ sn Sc := by
        by_cases z : k < sn Sc
        · exact mk_pn (fun j hj => by cases hj; exact z)
        · exfalso
          have h1 : cup Sc k = tr_go (el_lev (sE Sc)) (sn Sc) (el_lev (sE Sc) k) (sn Sc - (k + 1)) (k + 1) := rfl
          rw [show sn Sc - (k + 1) = 0 by omega] at h1
          have h2 : cup Sc k = k + 1 := h1
          omega
      have hm60 := hSc.2.2.2.2.1
      have hnm := hSc.2.2.2.1
      obtain ⟨u1, u2, u3, u4⟩ := hSc.2.1.1 j (by omega)
      obtain ⟨o1, o2, o3, o4⟩ := hSc.2.2.1 j (by omega)
      have hcl : (nI j).toNatClampNeg = j := nI_clamp (by omega)
      have hEj : sE Sc j = sE S1 j := (hsame j (by omega)).2
      have hak : sa S k = sa Sc k := by
        rw [(hsame k (by omega)).1, hS1e]
        have hkk := tk_of (E := sE S) (a := sa S k) (s := 10) (i := k) hk hk (tk_Q_lo (Nat.le_refl k))
        rw [kc_k _ _ _ _ _ (by omega)] at hkk
        show sa S k = sa S (tk_pi _ _ _ _ _ k); rw [hkk.2]
      refine r_iload hX d_Fi_renewCues_71 (by first | rfl | assumption) ?_
      refine r_iload hX d_Fi_renewCues_73 (by first | rfl | assumption) ?_
      refine r_icmp_ge hX 127 d_Fi_renewCues_75 (by decide) (fun c75 => absurd c75 (nI_ge (by omega) (by omega))) (fun _ => ?_)
      refine q_aload hX 0 d_Fi_renewCues_78 rfl (by first | rfl | assumption) ?_
      refine r_getf hX d_Fi_renewCues_79 fl_Fi_9 hfi1 rfl ?_
      refine r_getf hX d_Fi_renewCues_82 fl_Fi_47 hSc.1.1 rfl ?_
      refine r_iload hX d_Fi_renewCues_85 (by first | rfl | assumption) ?_
      refine r_aald hX d_Fi_renewCues_87 hSc.1.2.1 rfl (vp_in_nI (by omega) (by decide)) ?_
      rw [hcl, u1]
      refine r_astore hX d_Fi_renewCues_88 (by decide) ?_
      refine r_aload hX d_Fi_renewCues_90 (by first | rfl | assumption) ?_
      refine r_getf hX d_Fi_renewCues_92 fl_Fi_51 u3 rfl ?_
      refine r_getsE (i := 9) hX d_Fi_renewCues_95 (by decide) m_558 ?_
      refine r_acmp_ne (o := some (sE Sc j).1) (u := some 9) hX 121 (by intro r h; cases h; exact Or.inl o2) (by intro r h; cases h; omega) d_Fi_renewCues_98 (by decide) (fun c98 => ?_) (fun c98 => ?_)
      · have h9 : ¬ (sE Sc j).1 = 9 := fun z => c98 (by rw [z])
        have hck : fi_ck (sE S1) (f + 1) j = fi_ck (sE S1) f (j + 1) := by rw [fi_ck, if_neg (by rw [← hEj]; exact fun z => h9 z.1), Nat.zero_add]
        refine r_iinc hX d_Fi_renewCues_121 (by first | rfl | assumption) ?_
        refine r_goto hX 71 d_Fi_renewCues_124 (by decide) ?_
        exact ih (j + 1) bef Sc _ w1 bc bs (by omega) (by omega) (by omega) (by rw [← eR, ix_go, if_neg h9]) hSc hpc hsame hend (by omega) hfr (by omega) (by omega) l0 l1 l2 l4 l5 (by show some (Value.int (nI j + Int32.ofInt 1)) = _; rw [show Int32.ofInt 1 = 1 from rfl, nI_1])
      · refine r_aload hX d_Fi_renewCues_101 (by first | rfl | assumption) ?_
        refine r_getf hX d_Fi_renewCues_103 fl_Fi_57 u3 rfl ?_
        refine r_if_eq hX 118 d_Fi_renewCues_106 (by decide) (fun c106 => ?_) (fun c106 => ?_)
        · have h9 : (sE Sc j).1 = 9 := Option.some.inj c98
          have hck : fi_ck (sE S1) (f + 1) j = fi_ck (sE S1) f (j + 1) := by rw [fi_ck, if_neg (by rw [← hEj]; exact fun z => z.2 c106), Nat.zero_add]
          refine r_iinc hX d_Fi_renewCues_118 (by first | rfl | assumption) ?_
          refine r_iinc hX d_Fi_renewCues_121 (by first | rfl | assumption) ?_
          refine r_goto hX 71 d_Fi_renewCues_124 (by decide) ?_
          exact ih (j + 1) (bef + 1) Sc _ w1 bc bs (by omega) (by omega) (by omega) (by rw [← eR, ix_go, if_pos h9, if_neg (fun z => z c106)]) hSc hpc hsame hend (by omega) hfr (by omega) (by omega) l0 l1 l2 (by show some (Value.int (nI bef + Int32.ofInt 1)) = _; rw [show Int32.ofInt 1 = 1 from rfl, nI_1]) l5 (by show some (Value.int (nI j + Int32.ofInt 1)) = _; rw [show Int32.ofInt 1 = 1 from rfl, nI_1])
        · refine q_aload hX 0 d_Fi_renewCues_109 rfl (by first | rfl | assumption) ?_
          refine q_aload hX 1 d_Fi_renewCues_110 rfl (by first | rfl | assumption) ?_
          refine r_aload hX d_Fi_renewCues_111 (by first | rfl | assumption) ?_
          refine r_iload hX d_Fi_renewCues_113 (by first | rfl | assumption) ?_
          have h9 : (sE Sc j).1 = 9 := Option.some.inj c98
          have hck : fi_ck (sE S1) (f + 1) j = 1 + fi_ck (sE S1) f (j + 1) := by rw [fi_ck, if_pos (by rw [← hEj]; exact ⟨h9, c106⟩)]
          rw [hak]
          refine r_callV (as := [_, _, _]) hX d_Fi_renewCues_115 lk_Fi_61 hfi1 rfl rfl (Nat.le_of_ble_eq_true rfl) (by decide) (bc - 8) (bs - 132) (by omega) (by omega) (c_Fi_addCue (G := G) hSc hsd hfi1 (k := k) (b := j) (by omega) (by omega) (by omega) (by omega) bef (by omega)) (fun v w4 hq => ?_)
          obtain ⟨rfl, hS4, hf4⟩ := hq
          have hpc4 := cu_po (b := j) (bef := bef) (by omega) hpc (show k < sn Sc by omega)
          have hsame4 : ∀ i, i < ix_end S1 k → sa (cu4 Sc k j bef) i = sa S1 i ∧ sE (cu4 Sc k j bef) i = sE S1 i := fun i hi => by
            have h1 := cu_lo (S := Sc) (k := k) (b := j) (bef := bef) (show i < cup Sc k by omega)
            exact ⟨h1.1.trans (hsame i hi).1, h1.2.1.trans (hsame i hi).2⟩
          have hn4 : sn (cu4 Sc k j bef) = sn Sc + 4 := rfl
          have hend4 : ix_end S1 k ≤ cup (cu4 Sc k j bef) k := end_ge (by omega) hpc4 (by omega) (by omega) (fun t t1 t2 => by
            unfold el_ln
            rw [(hsame4 t t2).2, (hsame4 k (by omega)).2]
            exact hd1 t t1 t2)
          refine r_iinc hX d_Fi_renewCues_118 (by first | rfl | assumption) ?_
          refine r_iinc hX d_Fi_renewCues_121 (by first | rfl | assumption) ?_
          refine r_goto hX 71 d_Fi_renewCues_124 (by decide) ?_
          exact ih (j + 1) (bef + 1) (cu4 Sc k j bef) _ w4 (bc - 8) (bs - 132) (by omega) (by omega) (by omega) (by rw [← eR, ix_go, if_pos h9, if_pos c106]) hS4 hpc4 hsame4 hend4 (by omega) (fun q h1 h2 => (hf4 q h1 (fun z => h2 (by simp at z ⊢; omega))).trans (hfr q h1 h2)) (by omega) (by omega) l0 l1 l2 (by show some (Value.int (nI bef + Int32.ofInt 1)) = _; rw [show Int32.ofInt 1 = 1 from rfl, nI_1]) l5 (by show some (Value.int (nI j + Int32.ofInt 1)) = _; rw [show Int32.ofInt 1 = 1 from rfl, nI_1])
  refine q_aload hX 0 d_Fi_renewCues_0 rfl (by first | rfl | assumption) ?_
  refine q_aload hX 1 d_Fi_renewCues_1 rfl (by first | rfl | assumption) ?_
  refine r_callV (as := [_]) hX d_Fi_renewCues_2 lk_Fi_15 hfi rfl rfl (Nat.le_of_ble_eq_true rfl) (by decide) 120 1980 (by decide) (by decide) (c_Fi_countKeyBlocks (G := G) hS.1 hn60 hsd hS.2.1 hS.2.2.2.1 hS.2.2.1 hfi hk) (fun v w1 hq => ?_)
  obtain ⟨rfl, hw⟩ := hq
  rw [hw]
  refine q_istore hX 2 d_Fi_renewCues_5 rfl (by decide) ?_
  refine q_aload hX 0 d_Fi_renewCues_6 rfl (by first | rfl | assumption) ?_
  refine r_getf hX d_Fi_renewCues_7 fl_Fi_9 hfi rfl ?_
  refine r_getf hX d_Fi_renewCues_10 fl_Fi_19 hS.1.1 rfl ?_
  refine q_aload hX 0 d_Fi_renewCues_13 rfl (by first | rfl | assumption) ?_
  refine r_getf hX d_Fi_renewCues_14 fl_Fi_9 hfi rfl ?_
  refine q_aload hX 1 d_Fi_renewCues_17 rfl (by first | rfl | assumption) ?_
  refine r_getsE (i := 10) hX d_Fi_renewCues_18 (by decide) m_559 ?_
  refine r_callV (as := [_, _]) hX d_Fi_renewCues_21 lk_Fi_31 hS.1.1 rfl rfl (Nat.le_of_ble_eq_true rfl) (by decide) 120 1980 (by decide) (by decide) (c_Tr_weigh (G := G) hS.1 hn60 hsd hS.2.1 hS.2.2.2.1 hS.2.2.1 hk (s := 10) (by decide)) (fun v w1 hq => ?_)
  obtain ⟨rfl, hw⟩ := hq
  rw [hw]
  refine r_isub hX d_Fi_renewCues_24 ?_
  rw [nI_sb (by omega)]
  refine q_istore hX 3 d_Fi_renewCues_25 rfl (by decide) ?_
  refine q_iload hX 3 d_Fi_renewCues_26 rfl (by first | rfl | assumption) ?_
  refine r_iconst (v := 4) hX d_Fi_renewCues_27 (by decide) ?_
  refine q_iload hX 2 d_Fi_renewCues_28 rfl (by first | rfl | assumption) ?_
  refine r_imul hX d_Fi_renewCues_29 ?_
  refine r_iadd hX d_Fi_renewCues_30 ?_
  rw [show (4 : Int32) * nI (fi_ck (sE S) (tr_end (el_lev (sE S)) (sn S) k - (k + 1)) (k + 1)) = nI (4 * (fi_ck (sE S) (tr_end (el_lev (sE S)) (sn S) k - (k + 1)) (k + 1))) from nI_ml 4 _, nI_add]
  refine r_bipush (v := 60) hX d_Fi_renewCues_31 (by decide) ?_
  refine r_icmp_le hX 39 d_Fi_renewCues_33 (by decide) (fun c33 => ?_) (fun c33 => ?_)
  · have h60 : sn S - (tr_wg (sE S) (sa S k) 10 (tr_end (el_lev (sE S)) (sn S) k - (k + 1)) (k + 1) false) + 4 * (fi_ck (sE S) (tr_end (el_lev (sE S)) (sn S) k - (k + 1)) (k + 1)) ≤ 60 := (nI_leI (b := 60) (by omega) (by decide)).mp c33
    refine q_aload hX 0 d_Fi_renewCues_39 rfl (by first | rfl | assumption) ?_
    refine r_getf hX d_Fi_renewCues_40 fl_Fi_9 hfi rfl ?_
    refine q_aload hX 1 d_Fi_renewCues_43 rfl (by first | rfl | assumption) ?_
    refine r_getsE (i := 10) hX d_Fi_renewCues_44 (by decide) m_559 ?_
    refine r_callV (as := [_, _]) hX d_Fi_renewCues_47 lk_Fi_35 hS.1.1 rfl rfl (Nat.le_of_ble_eq_true rfl) (by decide) 120 1980 (by decide) (by decide) (c_Tr_takeOut (G := G) hS.1 hn60 hsd hS.2.1 hS.2.2.2.1 hS.2.2.1 hk (s := 10) (by decide)) (fun v w1 hq => ?_)
    obtain ⟨rfl, htk⟩ := hq
    obtain ⟨L1, As1, hS1, hpo1⟩ := S_tk hS hpo hk htk
    have hfr1 : ix_fr w w1 := by
      obtain ⟨_, _, _, _, _, z, _⟩ := htk
      exact fun q h1 h2 => z q h1 (fun y => h2 (by rw [y]; decide)) (fun y => h2 (by rw [y]; decide)) (fun y => h2 (by rw [y]; decide))
    have hfi1 : w1.2 116 = _ := (hfr1 116 (by decide) (by decide)).trans hfi
    have hkk := tk_of (E := sE S) (a := sa S k) (s := 10) (i := k) hk hk (tk_Q_lo (Nat.le_refl k))
    rw [kc_k _ _ _ _ _ (by omega)] at hkk
    have hk1 : k < sn (tk_S S k 10 L1) := hkk.1
    have hak1 : sa S k = sa (tk_S S k 10 L1) k := by show sa S k = sa S (tk_pi _ _ _ _ _ k); rw [hkk.2]
    have hn1 : sn (tk_S S k 10 L1) ≤ 60 := by have h1 := hS1.2.2.2.1; have h2 := hS1.2.2.2.2.1; omega
    have hte := tk_end (s := 10) (L1 := L1) hn60 hpo hpo1 hk
    have hcle := tk_ck (s := 10) (L1 := L1) hk hsp.2.1 hsp.1
    have hleft := tk_left (sE S) (sa S k) 10 hk
    have hsn1 : sn (tk_S S k 10 L1) = (tk_K (sE S) (sa S k) 10 (sn S) k).length := rfl
    have uk := (hS1.2.1.1 k (by have h1 := hS1.2.2.2.1; omega)).2.2.1
    rw [← hak1] at uk
    have hnum := (hS1.2.2.1 k hk1).1
    rw [← hte] at hcle
    refine r_iconst (v := 0) hX d_Fi_renewCues_50 (by decide) ?_
    refine r_istore hX d_Fi_renewCues_51 (by decide) ?_
    refine q_aload hX 0 d_Fi_renewCues_53 rfl (by first | rfl | assumption) ?_
    refine r_getf hX d_Fi_renewCues_54 fl_Fi_9 hfi1 rfl ?_
    refine q_aload hX 1 d_Fi_renewCues_57 rfl (by first | rfl | assumption) ?_
    rw [hak1]
    refine r_callV (as := [_]) hX d_Fi_renewCues_58 lk_Fi_39 hS1.1.1 rfl rfl (Nat.le_of_ble_eq_true rfl) (by decide) 120 1980 (by decide) (by decide) (c_Tr_endOf (G := G) hS1.1 hn1 hsd hS1.2.1 hS1.2.2.2.1 hk1 hnum) (fun v w2 hq => ?_)
    obtain ⟨rfl, hw⟩ := hq
    rw [hw, ← hak1]
    refine r_istore hX d_Fi_renewCues_61 (by decide) ?_
    refine q_aload hX 1 d_Fi_renewCues_63 rfl (by first | rfl | assumption) ?_
    refine r_getf hX d_Fi_renewCues_64 fl_Fi_42 uk rfl ?_
    rw [hnum]
    refine r_iconst (v := 1) hX d_Fi_renewCues_67 (by decide) ?_
    refine r_iadd hX d_Fi_renewCues_68 ?_
    rw [nI_1]
    refine r_istore hX d_Fi_renewCues_69 (by decide) ?_
    have hsp1 := tr_end_spec hn1 hpo1 hk1
    refine loop L1 As1 (tk_S S k 10 L1) rfl hpo1 hk1 hn1 (by rw [← hcu]; exact h60) hsp1.2.1 hsp1.1 hsp1.2.2.1 (ix_end (tk_S S k 10 L1) k - (k + 1)) (k + 1) 0 (tk_S S k 10 L1) _ w1 120 1980 ?_ (by omega) (by omega) rfl hS1 hpo1 (fun i _ => ⟨rfl, rfl⟩) (Nat.le_refl _) ?_ hfr1 ?_ ?_ rfl rfl (by rw [← hcu]; rfl) rfl rfl rfl
    · show k + 1 + (tr_end _ _ k - (k + 1)) = tr_end _ _ k; omega
    · show sn (tk_S S k 10 L1) + 4 * fi_ck _ (tr_end _ _ k - (k + 1)) (k + 1) ≤ 60; omega
    · show 8 * fi_ck _ (tr_end _ _ k - (k + 1)) (k + 1) ≤ 120; omega
    · show 132 * fi_ck _ (tr_end _ _ k - (k + 1)) (k + 1) ≤ 1980; omega
  · refine r_bipush (v := -6) hX d_Fi_renewCues_36 (by decide) ?_
    refine r_iret hX hR d_Fi_renewCues_38 rfl (by first | rfl | assumption) ?_
    exact Or.inl ⟨Nat.lt_of_not_le (fun z => c33 (nI_le (b := 60) z (by decide))), rfl, rfl⟩
theorem c_EF_index {G : Ev_G} {w : Ev_W} (he : is_EF w) {S : Ev_S} {As : Nat → Option Nat} {sf : Nat → Int32} {sd : Nat} (hS : is_S w S As sf sd) (hsd : sd ≤ 1200) (hpo : is_po (sn S) (sE S) (si S)) (hfi : is_Fi w) (k : Int32) : ev_Met G M_EF_index 6 120 1980 [.ref 100, .int k] w (fun v w' => match ef_seg (sE S) (sn S) k with | none => v = some (.int (-1)) ∧ w' = w | some j => ix_post w w' S sf sd j v) := by
  have hn60 : sn S ≤ 60 := by have h1 := hS.2.2.2.1; have h2 := hS.2.2.2.2.1; omega
  refine ev_Met.of md_EF_index (Nat.le_of_ble_eq_true rfl) (fun X hX hR => ?_)
  rcases ef_seg_c (sE S) hn60 k with ⟨j, hj, hsg, hs1, hkj⟩ | hsg
  · refine q_aload hX 0 d_EF_index_0 rfl (by first | rfl | assumption) ?_
    refine q_iload hX 1 d_EF_index_1 rfl (by first | rfl | assumption) ?_
    refine r_callV (as := [_]) hX d_EF_index_2 lk_EF_213 he rfl rfl (Nat.le_of_ble_eq_true rfl) (by decide) 120 1980 (by decide) (by decide) (c_EF_segmentAt (G := G) he hS.1 hn60 hsd hS.2.1 hS.2.2.2.1 hS.2.2.1 k) (fun v w1 hq => ?_)
    obtain ⟨rfl, hw0⟩ := hq
    rw [hw0, hsg]
    refine q_astore hX 2 d_EF_index_5 rfl (by decide) ?_
    refine q_aload hX 2 d_EF_index_6 rfl (by first | rfl | assumption) ?_
    refine r_ifnonnull hX 14 d_EF_index_7 (by decide) ?_
    refine q_aload hX 0 d_EF_index_14 rfl (by first | rfl | assumption) ?_
    refine r_getf hX d_EF_index_15 fl_EF_58 he rfl ?_
    refine q_aload hX 2 d_EF_index_18 rfl (by first | rfl | assumption) ?_
    refine r_callV (as := [_]) hX d_EF_index_19 lk_EF_216 hfi rfl rfl (Nat.le_of_ble_eq_true rfl) (by decide) 0 0 (by decide) (by decide) (c_Fi_renewCues (G := G) hS hsd hpo hfi hj) (fun v w2 hq => ?_)
    have hv : ∃ x, v = some (.int x) := by rcases hq with ⟨_, h, _⟩ | ⟨_, h, _⟩ <;> exact ⟨_, h⟩
    obtain ⟨x, rfl⟩ := hv
    refine r_iret hX hR d_EF_index_22 rfl (by first | rfl | assumption) ?_
    rw [hsg]
    exact hq
  · refine q_aload hX 0 d_EF_index_0 rfl (by first | rfl | assumption) ?_
    refine q_iload hX 1 d_EF_index_1 rfl (by first | rfl | assumption) ?_
    refine r_callV (as := [_]) hX d_EF_index_2 lk_EF_213 he rfl rfl (Nat.le_of_ble_eq_true rfl) (by decide) 120 1980 (by decide) (by decide) (c_EF_segmentAt (G := G) he hS.1 hn60 hsd hS.2.1 hS.2.2.2.1 hS.2.2.1 k) (fun v w1 hq => ?_)
    obtain ⟨rfl, hw0⟩ := hq
    rw [hw0, hsg]
    refine q_astoreN hX 2 d_EF_index_5 rfl (by decide) ?_
    refine q_aloadN hX 2 d_EF_index_6 rfl (by first | rfl | assumption) ?_
    refine r_ifnonnullN hX d_EF_index_7 ?_
    refine r_iconst (v := -1) hX d_EF_index_10 (by decide) ?_
    refine r_goto hX 22 d_EF_index_11 (by decide) ?_
    refine r_iret hX hR d_EF_index_22 rfl (by first | rfl | assumption) ?_
    rw [hsg]
    exact ⟨rfl, rfl⟩
