/-! ===== the reference: putData ===== -/
theorem pt_snocL (am : Nat) (pf : Nat → Int32) : ∀ k i, pt_L am pf (k + 1) i = pt_L am pf k i ++ [el_at am pf (nI (i + k))]
  | 0, i => by rw [pt_L, pt_L, pt_L, Nat.add_zero]; simp
  | k + 1, i => by
    rw [pt_L, pt_snocL am pf k (i + 1), pt_L, show i + 1 + k = i + (k + 1) by omega]; simp
theorem rp_snoc (k : Nat) : List.replicate (k + 1) (0 : Int32) = List.replicate k 0 ++ [0] := List.replicate_succ'
theorem nm_0 : nm_L 0 4 = List.replicate 4 0 := by decide
set_option maxHeartbeats 1000000 in
theorem c_Mo_putData {G : Ev_G} {w : Ev_W} {I : Nat → Int32} {v0 : Int64} {A : Ev_A} (hM : is_M w I v0 A) {S : Ev_S} {D : Nat → Ev_D} {sf : Nat → Int32} {sd : Nat} (hm : mdl I A S D sf sd) {k : Nat} (hk : k < sn S) {c : Nat} (hou : I 5 = nI c) (hc7 : c + (lf_L sf sd (sE S k) (sP S k) (D k).1 (D k).2.1 (D k).2.2.1).length ≤ 700) (hby : ∀ j, j < sd → sf j &&& 255 = sf j) (hlt : so_fm (sE S k).1 = 2 → ∀ i, i < (D k).1 → sP S k i &&& 255 = sP S k i) (hda : A.1 137 k = nI (lf_L sf sd (sE S k) (sP S k) (D k).1 (D k).2.1 (D k).2.2.1).length ∨ so_fm (sE S k).1 = 0) : ev_Met G M_Mo_putData 4 0 0 [.ref 117, .int (nI k)] w (fun v w' => v = none ∧ wo w I v0 A c (lf_L sf sd (sE S k) (sP S k) (D k).1 (D k).2.1 (D k).2.2.1) w') := by
  refine ev_Met.of md_Mo_putData (Nat.le_of_ble_eq_true rfl) (fun X hX hR => ?_)
  obtain ⟨hc, hn, hu, hsd, hpo, hpl, hrow, hhp⟩ := id hm
  obtain ⟨hD, hQ, hMa⟩ := hrow k hk
  obtain ⟨d1, d2, d3, d4, d5, d6, d7, d8⟩ := hD
  obtain ⟨q1, q2, q3, q4, q5, q6⟩ := hQ
  obtain ⟨w0, hw0⟩ : ∃ w0, w0 = w := ⟨_, rfl⟩
  have hs : mo_sm w0 w := by rw [hw0]; exact mo_sm.rf
  have hda : ¬ so_fm (sE S k).1 = 0 → A.1 137 k = nI (lf_L sf sd (sE S k) (sP S k) (D k).1 (D k).2.1 (D k).2.2.1).length := fun z => hda.resolve_right z
  rcases so_fm_c _ (hpl k hk).1 with hf | hf | hf | hf | hf | hf | hf
  · skip
    have hLL : (lf_L sf sd (sE S k) (sP S k) (D k).1 (D k).2.1 (D k).2.2.1) = [] := by rw [lf_L, if_neg (by rw [hf]; decide), if_neg (by rw [hf]; decide), if_neg (by rw [hf]; decide), if_neg (by rw [hf]; decide), if_neg (by rw [hf]; decide), if_neg (by rw [hf]; decide)]
    refine q_aload hX 0 d_Mo_putData_0 rfl (by first | rfl | assumption) ?_
    refine r_getf hX d_Mo_putData_1 fl_Mo_7 hM.1 rfl ?_
    refine q_iload hX 1 d_Mo_putData_4 rfl (by first | rfl | assumption) ?_
    refine r_ialdm (c := 118) (x := (sE S k).2.2.2 0) hX d_Mo_putData_5 hM rfl rfl (by omega) q1 ?_
    refine r_callS (as := [_]) hX d_Mo_putData_6 lk_Mo_82 rfl (Nat.le_of_ble_eq_true rfl) (by decide) 0 0 (Nat.le_refl _) (Nat.le_refl _) (c_Mo_kindOf (G := G) _) (fun v w1 hq => ?_)
    obtain ⟨rfl, hw⟩ := hq
    rw [hw, ← d1, hf]
    refine r_tableIn hX 148 d_Mo_putData_9 (by decide) (by decide) rfl (by decide) ?_
    refine r_vret hX hR d_Mo_putData_148 rfl ?_
    exact ⟨rfl, A, by rw [hLL, show c + ([] : List Int32).length = c from rfl, upd_id hou]; exact hM, hw0 ▸ hs, by rw [hLL]; exact ou.rf⟩
  · skip
    have hLL : (lf_L sf sd (sE S k) (sP S k) (D k).1 (D k).2.1 (D k).2.2.1) = nm_L (sE S k).2.2.1 (wr_fb (sE S k).2.2.1 7 1) := by rw [lf_L, if_pos hf]
    have hfb := wr_fb_le (sE S k).2.2.1 7 1
    rw [hLL, nm_len] at hc7
    refine q_aload hX 0 d_Mo_putData_0 rfl (by first | rfl | assumption) ?_
    refine r_getf hX d_Mo_putData_1 fl_Mo_7 hM.1 rfl ?_
    refine q_iload hX 1 d_Mo_putData_4 rfl (by first | rfl | assumption) ?_
    refine r_ialdm (c := 118) (x := (sE S k).2.2.2 0) hX d_Mo_putData_5 hM rfl rfl (by omega) q1 ?_
    refine r_callS (as := [_]) hX d_Mo_putData_6 lk_Mo_82 rfl (Nat.le_of_ble_eq_true rfl) (by decide) 0 0 (Nat.le_refl _) (Nat.le_refl _) (c_Mo_kindOf (G := G) _) (fun v w1 hq => ?_)
    obtain ⟨rfl, hw⟩ := hq
    rw [hw, ← d1, hf]
    refine r_tableIn hX 52 d_Mo_putData_9 (by decide) (by decide) rfl (by decide) ?_
    refine q_aload hX 0 d_Mo_putData_52 rfl (by first | rfl | assumption) ?_
    refine q_aload hX 0 d_Mo_putData_53 rfl (by first | rfl | assumption) ?_
    refine r_getf hX d_Mo_putData_54 fl_Mo_16 hM.1 rfl ?_
    refine q_iload hX 1 d_Mo_putData_57 rfl (by first | rfl | assumption) ?_
    refine r_laldm (x := (sE S k).2.2.1) hX d_Mo_putData_58 hM rfl (by omega) (q2 hf) ?_
    refine q_aload hX 0 d_Mo_putData_59 rfl (by first | rfl | assumption) ?_
    refine r_getf hX d_Mo_putData_60 fl_Mo_73 hM.1 rfl ?_
    refine q_iload hX 1 d_Mo_putData_63 rfl (by first | rfl | assumption) ?_
    refine r_ialdm (c := 137) (x := nI (wr_fb (sE S k).2.2.1 7 1)) hX d_Mo_putData_64 hM rfl rfl (by omega) (by rw [hda (by rw [hf]; decide), hLL, nm_len]) ?_
    refine r_callV (as := [_, _]) hX d_Mo_putData_65 lk_Mo_246 hM.1 rfl rfl (Nat.le_of_ble_eq_true rfl) (by decide) 0 0 (Nat.le_refl _) (Nat.le_refl _) (c_Mo_putBytes (G := G) hM hou _ _ (by omega) (by omega)) (fun v w1 hq => ?_)
    obtain ⟨rfl, hq⟩ := hq
    refine r_vret hX hR d_Mo_putData_68 rfl ?_
    exact ⟨rfl, by rw [hLL]; exact hq⟩
  · skip
    have hLL : (lf_L sf sd (sE S k) (sP S k) (D k).1 (D k).2.1 (D k).2.2.1) = pt_L (D k).1 (sP S k) (D k).1 0 := by rw [lf_L, if_neg (by rw [hf]; decide), if_pos hf]
    have h16 := d4 hf
    rw [hLL, pt_len] at hc7
    have lp : ∀ (t i : Nat) (A1 : Ev_A) (w1 : Ev_W) (ls : Ev_L), i + t = (D k).1 → is_M w1 (upd I 5 (nI (c + (pt_L (D k).1 (sP S k) i 0).length))) v0 A1 → mo_sm w0 w1 → ou A A1 c (pt_L (D k).1 (sP S k) i 0) → ls.1 0 = some (.ref 117) → ls.1 1 = some (.int (nI k)) → ls.1 2 = some (.int (nI i)) → ev_W G M_Mo_putData X 0 0 71 ls [] w1 := by
      intro t
      induction t with
      | zero =>
        intro i A1 w ls e0 hM hs g l0 l1 l2
        have e0 : i = (D k).1 := e0
        subst e0
        refine q_iload hX 2 d_Mo_putData_71 rfl (by first | rfl | assumption) ?_
        refine q_aload hX 0 d_Mo_putData_72 rfl (by first | rfl | assumption) ?_
        refine r_getf hX d_Mo_putData_73 fl_Mo_20 hM.1 rfl ?_
        refine q_iload hX 1 d_Mo_putData_76 rfl (by first | rfl | assumption) ?_
        refine r_ialdm (c := 121) (x := nI (D k).1) hX d_Mo_putData_77 hM rfl rfl (by omega) (by first | exact q3 (Or.inl hf) | (rw [g.2.2.1 121 (by decide)]; exact q3 (Or.inl hf))) ?_
        refine r_icmp_ge hX 102 d_Mo_putData_78 (by decide) (fun _ => ?_) (fun c78 => absurd (nI_le (Nat.le_refl _) (by omega)) c78)
        refine r_vret hX hR d_Mo_putData_102 rfl ?_
        exact ⟨rfl, A1, by rw [hLL]; exact hM, hw0 ▸ hs, by rw [hLL]; exact g⟩
      | succ t ih =>
        intro i A1 w ls e0 hM hs g l0 l1 l2
        skip
        refine q_iload hX 2 d_Mo_putData_71 rfl (by first | rfl | assumption) ?_
        refine q_aload hX 0 d_Mo_putData_72 rfl (by first | rfl | assumption) ?_
        refine r_getf hX d_Mo_putData_73 fl_Mo_20 hM.1 rfl ?_
        refine q_iload hX 1 d_Mo_putData_76 rfl (by first | rfl | assumption) ?_
        refine r_ialdm (c := 121) (x := nI (D k).1) hX d_Mo_putData_77 hM rfl rfl (by omega) (by first | exact q3 (Or.inl hf) | (rw [g.2.2.1 121 (by decide)]; exact q3 (Or.inl hf))) ?_
        refine r_icmp_ge hX 102 d_Mo_putData_78 (by decide) (fun c78 => absurd c78 (nI_ge (by omega) (by omega))) (fun _ => ?_)
        refine q_aload hX 0 d_Mo_putData_81 rfl (by first | rfl | assumption) ?_
        refine q_aload hX 0 d_Mo_putData_82 rfl (by first | rfl | assumption) ?_
        refine r_getf hX d_Mo_putData_83 fl_Mo_23 hM.1 rfl ?_
        refine r_bipush (v := 16) hX d_Mo_putData_86 (by decide) ?_
        refine q_iload hX 1 d_Mo_putData_88 rfl (by first | rfl | assumption) ?_
        refine r_imul hX d_Mo_putData_89 ?_
        refine q_iload hX 2 d_Mo_putData_90 rfl (by first | rfl | assumption) ?_
        refine r_iadd hX d_Mo_putData_91 ?_
        refine r_ialdm (c := 122) (x := sP S k i) hX d_Mo_putData_92 hM rfl (j := 16 * k + i) (by rw [show (16 : Int32) = nI 16 from rfl, nI_ml, nI_add]) (by omega) (by rw [g.2.2.1 122 (by decide)]; exact q4 hf i (by omega)) ?_
        refine r_callV (as := [_]) hX d_Mo_putData_93 lk_Mo_243 hM.1 rfl rfl (Nat.le_of_ble_eq_true rfl) (by decide) 0 0 (Nat.le_refl _) (Nat.le_refl _) (c_Mo_putL (G := G) hM (c := c + (pt_L (D k).1 (sP S k) i 0).length) rfl (by rw [pt_len]; omega) (x := el_at (D k).1 (sP S k) (nI (0 + i))) (by rw [Nat.zero_add, el_at_nI (by omega) h16]; exact (hlt hf i (by omega)).symm)) (fun v w hq => ?_)
        obtain ⟨rfl, A1, hM, hs2, g2⟩ := hq
        have hs := hs.tr hs2
        rw [upd2, Nat.add_assoc, ← List.length_append] at hM
        have g := g.app g2
        refine r_iinc hX d_Mo_putData_96 (by first | rfl | assumption) ?_
        refine r_goto hX 71 d_Mo_putData_99 (by decide) ?_
        exact ih (i + 1) A1 w _ (by omega) (by rw [pt_snocL]; exact hM) hs (by rw [pt_snocL]; exact g) l0 l1 (by show some (Value.int (nI i + Int32.ofInt 1)) = _; rw [show Int32.ofInt 1 = 1 from rfl, nI_1])
    refine q_aload hX 0 d_Mo_putData_0 rfl (by first | rfl | assumption) ?_
    refine r_getf hX d_Mo_putData_1 fl_Mo_7 hM.1 rfl ?_
    refine q_iload hX 1 d_Mo_putData_4 rfl (by first | rfl | assumption) ?_
    refine r_ialdm (c := 118) (x := (sE S k).2.2.2 0) hX d_Mo_putData_5 hM rfl rfl (by omega) q1 ?_
    refine r_callS (as := [_]) hX d_Mo_putData_6 lk_Mo_82 rfl (Nat.le_of_ble_eq_true rfl) (by decide) 0 0 (Nat.le_refl _) (Nat.le_refl _) (c_Mo_kindOf (G := G) _) (fun v w1 hq => ?_)
    obtain ⟨rfl, hw⟩ := hq
    rw [hw, ← d1, hf]
    refine r_tableIn hX 69 d_Mo_putData_9 (by decide) (by decide) rfl (by decide) ?_
    refine r_iconst (v := 0) hX d_Mo_putData_69 (by decide) ?_
    refine q_istore hX 2 d_Mo_putData_70 rfl (by decide) ?_
    exact lp (D k).1 0 A w _ (by omega) (by rw [show pt_L (D k).1 (sP S k) 0 0 = [] from rfl, show c + ([] : List Int32).length = c from rfl, upd_id hou]; exact hM) hs (by rw [show pt_L (D k).1 (sP S k) 0 0 = [] from rfl]; exact ou.rf) rfl rfl rfl
  · skip
    have hLL : (lf_L sf sd (sE S k) (sP S k) (D k).1 (D k).2.1 (D k).2.2.1) = (bh_L (sE S k) ++ ps_L ((sE S k).2.2.2 8) (D k).2.2.1 ((D k).1 - 1) 0) ++ st_L sf sd ((sE S k).2.2.2 3) (D k).2.1 0 := by rw [lf_L, if_neg (by rw [hf]; decide), if_neg (by rw [hf]; decide), if_pos hf]
    rw [hLL] at hc7
    refine q_aload hX 0 d_Mo_putData_0 rfl (by first | rfl | assumption) ?_
    refine r_getf hX d_Mo_putData_1 fl_Mo_7 hM.1 rfl ?_
    refine q_iload hX 1 d_Mo_putData_4 rfl (by first | rfl | assumption) ?_
    refine r_ialdm (c := 118) (x := (sE S k).2.2.2 0) hX d_Mo_putData_5 hM rfl rfl (by omega) q1 ?_
    refine r_callS (as := [_]) hX d_Mo_putData_6 lk_Mo_82 rfl (Nat.le_of_ble_eq_true rfl) (by decide) 0 0 (Nat.le_refl _) (Nat.le_refl _) (c_Mo_kindOf (G := G) _) (fun v w1 hq => ?_)
    obtain ⟨rfl, hw⟩ := hq
    rw [hw, ← d1, hf]
    refine r_tableIn hX 103 d_Mo_putData_9 (by decide) (by decide) rfl (by decide) ?_
    refine q_aload hX 0 d_Mo_putData_103 rfl (by first | rfl | assumption) ?_
    refine q_iload hX 1 d_Mo_putData_104 rfl (by first | rfl | assumption) ?_
    refine r_callV (as := [_]) hX d_Mo_putData_105 lk_Mo_253 hM.1 rfl rfl (Nat.le_of_ble_eq_true rfl) (by decide) 0 0 (Nat.le_refl _) (Nat.le_refl _) (c_Mo_putBlock (G := G) hM hm hk hf hou hc7 hby) (fun v w1 hq => ?_)
    obtain ⟨rfl, hq⟩ := hq
    refine r_vret hX hR d_Mo_putData_108 rfl ?_
    exact ⟨rfl, by rw [hLL]; exact hq⟩
  · skip
    have hLL : (lf_L sf sd (sE S k) (sP S k) (D k).1 (D k).2.1 (D k).2.2.1) = List.replicate 4 0 := by rw [lf_L, if_neg (by rw [hf]; decide), if_neg (by rw [hf]; decide), if_neg (by rw [hf]; decide), if_pos hf, nm_0]
    rw [hLL, List.length_replicate] at hc7
    have lp : ∀ (t i : Nat) (A1 : Ev_A) (w1 : Ev_W) (ls : Ev_L), i + t = 4 → is_M w1 (upd I 5 (nI (c + (List.replicate i (0 : Int32)).length))) v0 A1 → mo_sm w0 w1 → ou A A1 c (List.replicate i (0 : Int32)) → ls.1 0 = some (.ref 117) → ls.1 1 = some (.int (nI k)) → ls.1 2 = some (.int (nI i)) → ev_W G M_Mo_putData X 0 0 151 ls [] w1 := by
      intro t
      induction t with
      | zero =>
        intro i A1 w ls e0 hM hs g l0 l1 l2
        have e0 : i = 4 := e0
        subst e0
        refine q_iload hX 2 d_Mo_putData_151 rfl (by first | rfl | assumption) ?_
        refine q_aload hX 0 d_Mo_putData_152 rfl (by first | rfl | assumption) ?_
        refine r_getf hX d_Mo_putData_153 fl_Mo_73 hM.1 rfl ?_
        refine q_iload hX 1 d_Mo_putData_156 rfl (by first | rfl | assumption) ?_
        refine r_ialdm (c := 137) (x := nI 4) hX d_Mo_putData_157 hM rfl rfl (by omega) (by first | (rw [hda (by rw [hf]; decide), hLL, List.length_replicate]) | (rw [g.2.2.1 137 (by decide), hda (by rw [hf]; decide), hLL, List.length_replicate])) ?_
        refine r_icmp_ge hX 172 d_Mo_putData_158 (by decide) (fun _ => ?_) (fun c158 => absurd (nI_le (Nat.le_refl _) (by omega)) c158)
        refine r_vret hX hR d_Mo_putData_172 rfl ?_
        exact ⟨rfl, A1, by rw [hLL]; exact hM, hw0 ▸ hs, by rw [hLL]; exact g⟩
      | succ t ih =>
        intro i A1 w ls e0 hM hs g l0 l1 l2
        skip
        refine q_iload hX 2 d_Mo_putData_151 rfl (by first | rfl | assumption) ?_
        refine q_aload hX 0 d_Mo_putData_152 rfl (by first | rfl | assumption) ?_
        refine r_getf hX d_Mo_putData_153 fl_Mo_73 hM.1 rfl ?_
        refine q_iload hX 1 d_Mo_putData_156 rfl (by first | rfl | assumption) ?_
        refine r_ialdm (c := 137) (x := nI 4) hX d_Mo_putData_157 hM rfl rfl (by omega) (by first | (rw [hda (by rw [hf]; decide), hLL, List.length_replicate]) | (rw [g.2.2.1 137 (by decide), hda (by rw [hf]; decide), hLL, List.length_replicate])) ?_
        refine r_icmp_ge hX 172 d_Mo_putData_158 (by decide) (fun c158 => absurd c158 (nI_ge (by omega) (by omega))) (fun _ => ?_)
        refine q_aload hX 0 d_Mo_putData_161 rfl (by first | rfl | assumption) ?_
        refine r_iconst (v := 0) hX d_Mo_putData_162 (by decide) ?_
        refine r_callV (as := [_]) hX d_Mo_putData_163 lk_Mo_243 hM.1 rfl rfl (Nat.le_of_ble_eq_true rfl) (by decide) 0 0 (Nat.le_refl _) (Nat.le_refl _) (c_Mo_putL (G := G) hM (c := c + (List.replicate i (0 : Int32)).length) rfl (by rw [List.length_replicate]; omega) (x := 0) (by decide)) (fun v w hq => ?_)
        obtain ⟨rfl, A1, hM, hs2, g2⟩ := hq
        have hs := hs.tr hs2
        rw [upd2, Nat.add_assoc, ← List.length_append] at hM
        have g := g.app g2
        refine r_iinc hX d_Mo_putData_166 (by first | rfl | assumption) ?_
        refine r_goto hX 151 d_Mo_putData_169 (by decide) ?_
        exact ih (i + 1) A1 w _ (by omega) (by rw [rp_snoc]; exact hM) hs (by rw [rp_snoc]; exact g) l0 l1 (by show some (Value.int (nI i + Int32.ofInt 1)) = _; rw [show Int32.ofInt 1 = 1 from rfl, nI_1])
    refine q_aload hX 0 d_Mo_putData_0 rfl (by first | rfl | assumption) ?_
    refine r_getf hX d_Mo_putData_1 fl_Mo_7 hM.1 rfl ?_
    refine q_iload hX 1 d_Mo_putData_4 rfl (by first | rfl | assumption) ?_
    refine r_ialdm (c := 118) (x := (sE S k).2.2.2 0) hX d_Mo_putData_5 hM rfl rfl (by omega) q1 ?_
    refine r_callS (as := [_]) hX d_Mo_putData_6 lk_Mo_82 rfl (Nat.le_of_ble_eq_true rfl) (by decide) 0 0 (Nat.le_refl _) (Nat.le_refl _) (c_Mo_kindOf (G := G) _) (fun v w1 hq => ?_)
    obtain ⟨rfl, hw⟩ := hq
    rw [hw, ← d1, hf]
    refine r_tableIn hX 149 d_Mo_putData_9 (by decide) (by decide) rfl (by decide) ?_
    refine r_iconst (v := 0) hX d_Mo_putData_149 (by decide) ?_
    refine q_istore hX 2 d_Mo_putData_150 rfl (by decide) ?_
    exact lp 4 0 A w _ (by omega) (by rw [show List.replicate 0 (0 : Int32) = [] from rfl, show c + ([] : List Int32).length = c from rfl, upd_id hou]; exact hM) hs (by rw [show List.replicate 0 (0 : Int32) = [] from rfl]; exact ou.rf) rfl rfl rfl
  · skip
    have h640 := (d3 (Or.inr (Or.inr (Or.inl hf)))).2
    have hLL : (lf_L sf sd (sE S k) (sP S k) (D k).1 (D k).2.1 (D k).2.2.1) = List.replicate (D k).1 0 := by rw [lf_L, if_neg (by rw [hf]; decide), if_neg (by rw [hf]; decide), if_neg (by rw [hf]; decide), if_neg (by rw [hf]; decide), if_pos hf]
    rw [hLL, List.length_replicate] at hc7
    have lp : ∀ (t i : Nat) (A1 : Ev_A) (w1 : Ev_W) (ls : Ev_L), i + t = (D k).1 → is_M w1 (upd I 5 (nI (c + (List.replicate i (0 : Int32)).length))) v0 A1 → mo_sm w0 w1 → ou A A1 c (List.replicate i (0 : Int32)) → ls.1 0 = some (.ref 117) → ls.1 1 = some (.int (nI k)) → ls.1 2 = some (.int (nI i)) → ev_W G M_Mo_putData X 0 0 151 ls [] w1 := by
      intro t
      induction t with
      | zero =>
        intro i A1 w ls e0 hM hs g l0 l1 l2
        have e0 : i = (D k).1 := e0
        subst e0
        refine q_iload hX 2 d_Mo_putData_151 rfl (by first | rfl | assumption) ?_
        refine q_aload hX 0 d_Mo_putData_152 rfl (by first | rfl | assumption) ?_
        refine r_getf hX d_Mo_putData_153 fl_Mo_73 hM.1 rfl ?_
        refine q_iload hX 1 d_Mo_putData_156 rfl (by first | rfl | assumption) ?_
        refine r_ialdm (c := 137) (x := nI (D k).1) hX d_Mo_putData_157 hM rfl rfl (by omega) (by first | (rw [hda (by rw [hf]; decide), hLL, List.length_replicate]) | (rw [g.2.2.1 137 (by decide), hda (by rw [hf]; decide), hLL, List.length_replicate])) ?_
        refine r_icmp_ge hX 172 d_Mo_putData_158 (by decide) (fun _ => ?_) (fun c158 => absurd (nI_le (Nat.le_refl _) (by omega)) c158)
        refine r_vret hX hR d_Mo_putData_172 rfl ?_
        exact ⟨rfl, A1, by rw [hLL]; exact hM, hw0 ▸ hs, by rw [hLL]; exact g⟩
      | succ t ih =>
        intro i A1 w ls e0 hM hs g l0 l1 l2
        skip
        refine q_iload hX 2 d_Mo_putData_151 rfl (by first | rfl | assumption) ?_
        refine q_aload hX 0 d_Mo_putData_152 rfl (by first | rfl | assumption) ?_
        refine r_getf hX d_Mo_putData_153 fl_Mo_73 hM.1 rfl ?_
        refine q_iload hX 1 d_Mo_putData_156 rfl (by first | rfl | assumption) ?_
        refine r_ialdm (c := 137) (x := nI (D k).1) hX d_Mo_putData_157 hM rfl rfl (by omega) (by first | (rw [hda (by rw [hf]; decide), hLL, List.length_replicate]) | (rw [g.2.2.1 137 (by decide), hda (by rw [hf]; decide), hLL, List.length_replicate])) ?_
        refine r_icmp_ge hX 172 d_Mo_putData_158 (by decide) (fun c158 => absurd c158 (nI_ge (by omega) (by omega))) (fun _ => ?_)
        refine q_aload hX 0 d_Mo_putData_161 rfl (by first | rfl | assumption) ?_
        refine r_iconst (v := 0) hX d_Mo_putData_162 (by decide) ?_
        refine r_callV (as := [_]) hX d_Mo_putData_163 lk_Mo_243 hM.1 rfl rfl (Nat.le_of_ble_eq_true rfl) (by decide) 0 0 (Nat.le_refl _) (Nat.le_refl _) (c_Mo_putL (G := G) hM (c := c + (List.replicate i (0 : Int32)).length) rfl (by rw [List.length_replicate]; omega) (x := 0) (by decide)) (fun v w hq => ?_)
        obtain ⟨rfl, A1, hM, hs2, g2⟩ := hq
        have hs := hs.tr hs2
        rw [upd2, Nat.add_assoc, ← List.length_append] at hM
        have g := g.app g2
        refine r_iinc hX d_Mo_putData_166 (by first | rfl | assumption) ?_
        refine r_goto hX 151 d_Mo_putData_169 (by decide) ?_
        exact ih (i + 1) A1 w _ (by omega) (by rw [rp_snoc]; exact hM) hs (by rw [rp_snoc]; exact g) l0 l1 (by show some (Value.int (nI i + Int32.ofInt 1)) = _; rw [show Int32.ofInt 1 = 1 from rfl, nI_1])
    refine q_aload hX 0 d_Mo_putData_0 rfl (by first | rfl | assumption) ?_
    refine r_getf hX d_Mo_putData_1 fl_Mo_7 hM.1 rfl ?_
    refine q_iload hX 1 d_Mo_putData_4 rfl (by first | rfl | assumption) ?_
    refine r_ialdm (c := 118) (x := (sE S k).2.2.2 0) hX d_Mo_putData_5 hM rfl rfl (by omega) q1 ?_
    refine r_callS (as := [_]) hX d_Mo_putData_6 lk_Mo_82 rfl (Nat.le_of_ble_eq_true rfl) (by decide) 0 0 (Nat.le_refl _) (Nat.le_refl _) (c_Mo_kindOf (G := G) _) (fun v w1 hq => ?_)
    obtain ⟨rfl, hw⟩ := hq
    rw [hw, ← d1, hf]
    refine r_tableIn hX 149 d_Mo_putData_9 (by decide) (by decide) rfl (by decide) ?_
    refine r_iconst (v := 0) hX d_Mo_putData_149 (by decide) ?_
    refine q_istore hX 2 d_Mo_putData_150 rfl (by decide) ?_
    exact lp (D k).1 0 A w _ (by omega) (by rw [show List.replicate 0 (0 : Int32) = [] from rfl, show c + ([] : List Int32).length = c from rfl, upd_id hou]; exact hM) hs (by rw [show List.replicate 0 (0 : Int32) = [] from rfl]; exact ou.rf) rfl rfl rfl
  · skip
    have h6 := d6 hf
    have h7 := d7 (Or.inr hf)
    have h640 := (d3 (Or.inr (Or.inr (Or.inr hf)))).2
    have hLL : (lf_L sf sd (sE S k) (sP S k) (D k).1 (D k).2.1 (D k).2.2.1) = st_L sf sd ((sE S k).2.2.2 3) (D k).2.1 0 := by rw [lf_L, if_neg (by rw [hf]; decide), if_neg (by rw [hf]; decide), if_neg (by rw [hf]; decide), if_neg (by rw [hf]; decide), if_neg (by rw [hf]; decide), if_pos hf]
    have hLL : (lf_L sf sd (sE S k) (sP S k) (D k).1 (D k).2.1 (D k).2.2.1) = st_L sf sd ((sE S k).2.2.2 3) (D k).1 0 := by rw [hLL, h6]
    rw [hLL, st_len] at hc7
    rw [h6] at h7
    have lp : ∀ (t i : Nat) (A1 : Ev_A) (w1 : Ev_W) (ls : Ev_L), i + t = (D k).1 → is_M w1 (upd I 5 (nI (c + (st_L sf sd ((sE S k).2.2.2 3) i 0).length))) v0 A1 → mo_sm w0 w1 → ou A A1 c (st_L sf sd ((sE S k).2.2.2 3) i 0) → ls.1 0 = some (.ref 117) → ls.1 1 = some (.int (nI k)) → ls.1 2 = some (.int (nI i)) → ev_W G M_Mo_putData X 0 0 111 ls [] w1 := by
      intro t
      induction t with
      | zero =>
        intro i A1 w ls e0 hM hs g l0 l1 l2
        have e0 : i = (D k).1 := e0
        subst e0
        refine q_iload hX 2 d_Mo_putData_111 rfl (by first | rfl | assumption) ?_
        refine q_aload hX 0 d_Mo_putData_112 rfl (by first | rfl | assumption) ?_
        refine r_getf hX d_Mo_putData_113 fl_Mo_20 hM.1 rfl ?_
        refine q_iload hX 1 d_Mo_putData_116 rfl (by first | rfl | assumption) ?_
        refine r_ialdm (c := 121) (x := nI (D k).1) hX d_Mo_putData_117 hM rfl rfl (by omega) (by rw [g.2.2.1 121 (by decide)]; exact q3 (Or.inr (Or.inr (Or.inr hf)))) ?_
        refine r_icmp_ge hX 147 d_Mo_putData_118 (by decide) (fun _ => ?_) (fun c118 => absurd (nI_le (Nat.le_refl _) (by omega)) c118)
        refine r_vret hX hR d_Mo_putData_147 rfl ?_
        exact ⟨rfl, A1, by rw [hLL]; exact hM, hw0 ▸ hs, by rw [hLL]; exact g⟩
      | succ t ih =>
        intro i A1 w ls e0 hM hs g l0 l1 l2
        skip
        refine q_iload hX 2 d_Mo_putData_111 rfl (by first | rfl | assumption) ?_
        refine q_aload hX 0 d_Mo_putData_112 rfl (by first | rfl | assumption) ?_
        refine r_getf hX d_Mo_putData_113 fl_Mo_20 hM.1 rfl ?_
        refine q_iload hX 1 d_Mo_putData_116 rfl (by first | rfl | assumption) ?_
        refine r_ialdm (c := 121) (x := nI (D k).1) hX d_Mo_putData_117 hM rfl rfl (by omega) (by rw [g.2.2.1 121 (by decide)]; exact q3 (Or.inr (Or.inr (Or.inr hf)))) ?_
        refine r_icmp_ge hX 147 d_Mo_putData_118 (by decide) (fun c118 => absurd c118 (nI_ge (by omega) (by omega))) (fun _ => ?_)
        refine q_aload hX 0 d_Mo_putData_121 rfl (by first | rfl | assumption) ?_
        refine q_aload hX 0 d_Mo_putData_122 rfl (by first | rfl | assumption) ?_
        refine r_getf hX d_Mo_putData_123 fl_Mo_45 hM.1 rfl ?_
        refine q_aload hX 0 d_Mo_putData_126 rfl (by first | rfl | assumption) ?_
        refine r_getf hX d_Mo_putData_127 fl_Mo_42 hM.1 rfl ?_
        refine r_bipush (v := 8) hX d_Mo_putData_130 (by decide) ?_
        refine q_iload hX 1 d_Mo_putData_132 rfl (by first | rfl | assumption) ?_
        refine r_imul hX d_Mo_putData_133 ?_
        refine r_ialdm (c := 128) (x := nI (D k).2.2.2) hX d_Mo_putData_134 hM rfl (j := 8 * k) (by rw [show (8 : Int32) = nI 8 from rfl, nI_ml]) (by omega) (by rw [g.2.2.1 128 (by decide)]; exact q6 hf) ?_
        refine q_iload hX 2 d_Mo_putData_135 rfl (by first | rfl | assumption) ?_
        refine r_iadd hX d_Mo_putData_136 ?_
        refine r_ialdm (c := 129) (x := sf ((D k).2.2.2 + i)) hX d_Mo_putData_137 hM rfl (j := (D k).2.2.2 + i) (by rw [nI_add]) (by omega) (by rw [g.2.2.1 129 (by decide)]; exact hhp _ (by omega)) ?_
        refine r_callV (as := [_]) hX d_Mo_putData_138 lk_Mo_243 hM.1 rfl rfl (Nat.le_of_ble_eq_true rfl) (by decide) 0 0 (Nat.le_refl _) (Nat.le_refl _) (c_Mo_putL (G := G) hM (c := c + (st_L sf sd ((sE S k).2.2.2 3) i 0).length) rfl (by rw [st_len]; omega) (x := tr_sa sf sd ((sE S k).2.2.2 3 + nI (0 + i))) (by rw [h7.1, Nat.zero_add, nI_add, tr_sa_nI (by omega) hsd]; exact (hby _ (by omega)).symm)) (fun v w hq => ?_)
        obtain ⟨rfl, A1, hM, hs2, g2⟩ := hq
        have hs := hs.tr hs2
        rw [upd2, Nat.add_assoc, ← List.length_append] at hM
        have g := g.app g2
        refine r_iinc hX d_Mo_putData_141 (by first | rfl | assumption) ?_
        refine r_goto hX 111 d_Mo_putData_144 (by decide) ?_
        exact ih (i + 1) A1 w _ (by omega) (by rw [st_snocL]; exact hM) hs (by rw [st_snocL]; exact g) l0 l1 (by show some (Value.int (nI i + Int32.ofInt 1)) = _; rw [show Int32.ofInt 1 = 1 from rfl, nI_1])
    refine q_aload hX 0 d_Mo_putData_0 rfl (by first | rfl | assumption) ?_
    refine r_getf hX d_Mo_putData_1 fl_Mo_7 hM.1 rfl ?_
    refine q_iload hX 1 d_Mo_putData_4 rfl (by first | rfl | assumption) ?_
    refine r_ialdm (c := 118) (x := (sE S k).2.2.2 0) hX d_Mo_putData_5 hM rfl rfl (by omega) q1 ?_
    refine r_callS (as := [_]) hX d_Mo_putData_6 lk_Mo_82 rfl (Nat.le_of_ble_eq_true rfl) (by decide) 0 0 (Nat.le_refl _) (Nat.le_refl _) (c_Mo_kindOf (G := G) _) (fun v w1 hq => ?_)
    obtain ⟨rfl, hw⟩ := hq
    rw [hw, ← d1, hf]
    refine r_tableIn hX 109 d_Mo_putData_9 (by decide) (by decide) rfl (by decide) ?_
    refine r_iconst (v := 0) hX d_Mo_putData_109 (by decide) ?_
    refine q_istore hX 2 d_Mo_putData_110 rfl (by decide) ?_
    exact lp (D k).1 0 A w _ (by omega) (by rw [show st_L sf sd ((sE S k).2.2.2 3) 0 0 = [] from rfl, show c + ([] : List Int32).length = c from rfl, upd_id hou]; exact hM) hs (by rw [show st_L sf sd ((sE S k).2.2.2 3) 0 0 = [] from rfl]; exact ou.rf) rfl rfl rfl
