/-! ===== the reference: isLive, blockBytes ===== -/
theorem ps_snoc (la : Int32) (sz : Nat → Nat) : ∀ k i, (ps_L la sz (k + 1) i).length = (ps_L la sz k i).length + (ps_1 la sz (i + k)).length
  | 0, i => by rw [ps_L, ps_L, ps_L, List.length_append]; simp
  | k + 1, i => by
    rw [ps_L, List.length_append, ps_snoc la sz k (i + 1), ps_L, List.length_append, show i + 1 + k = i + (k + 1) by omega]; omega
theorem sb_3 {q : Nat} (h : q ≤ 640) : (sb_L 3 q).length = q / 255 + 1 := by
  unfold sb_L
  split
  · rename_i z; simp; omega
  · rename_i z
    rw [List.length_cons]
    unfold sb_L
    split
    · rename_i z2; simp; omega
    · rename_i z2
      rw [List.length_cons]
      unfold sb_L
      split
      · rename_i z3; simp; omega
      · rename_i z3; omega
theorem bh_len2 {E : Ev_E} (h1 : 1 ≤ (E.2.2.2 5).toInt) (h2 : (E.2.2.2 5).toInt ≤ 126) : (bh_L E).length = if E.2.2.2 8 = 0 then 4 else 5 := by
  obtain ⟨t, ht, e⟩ := vp_in_of (x := E.2.2.2 5) (n := 127) (vp_in_iff.mpr ⟨by omega, by omega⟩) (by decide)
  have hsv : wr_sv (E.2.2.2 5).toInt64 7 1 = 1 := by
    rw [e, nI_l (by omega), wr_sv, if_pos (by rw [pk_lT (by omega), show (ef_allOnes (nI 1)).toInt = 127 from by decide]; omega)]
  unfold bh_L
  rw [List.length_append, List.length_append, vn_len, nm_len, hsv, List.length_cons]
  split <;> rfl
theorem la_c {x : Int32} (h0 : 0 ≤ x.toInt) (h3 : x.toInt ≤ 3) : x = 0 ∨ x = 1 ∨ x = 2 ∨ x = 3 := by
  have : x.toInt = 0 ∨ x.toInt = 1 ∨ x.toInt = 2 ∨ x.toInt = 3 := by omega
  rcases this with h | h | h | h
  · exact Or.inl (Int32.toInt_inj.mp h)
  · exact Or.inr (Or.inl (Int32.toInt_inj.mp h))
  · exact Or.inr (Or.inr (Or.inl (Int32.toInt_inj.mp h)))
  · exact Or.inr (Or.inr (Or.inr (Int32.toInt_inj.mp h)))
theorem c_Mo_isLive {G : Ev_G} {w : Ev_W} {I : Nat → Int32} {v0 : Int64} {A : Ev_A} (hM : is_M w I v0 A) {S : Ev_S} {D : Nat → Ev_D} {sf : Nat → Int32} {sd : Nat} (hm : mdl I A S D sf sd) {j : Nat} (hj : j < sn S) (live : Int32) : ev_Met G M_Mo_isLive 0 0 0 [.ref 117, .int (nI j), .int live] w (fun v w' => v = some (.int (b_i (wr_op (sE S j).1 live))) ∧ w' = w) := by
  refine ev_Met.of md_Mo_isLive (Nat.le_of_ble_eq_true rfl) (fun X hX hR => ?_)
  obtain ⟨hc, hn, hu, hsd, hpo, hpl, hrow, hhp⟩ := id hm
  refine q_iload hX 2 d_Mo_isLive_0 rfl (by first | rfl | assumption) ?_
  refine r_if_eq hX 30 d_Mo_isLive_1 (by decide) (fun c1 => ?_) (fun c1 => ?_)
  · refine r_iconst (v := 0) hX d_Mo_isLive_30 (by decide) ?_
    refine r_iret hX hR d_Mo_isLive_31 rfl (by first | rfl | assumption) ?_
    exact ⟨by rw [wr_op, decide_eq_false (fun z => z.1 c1)]; rfl, rfl⟩
  · refine q_aload hX 0 d_Mo_isLive_4 rfl (by first | rfl | assumption) ?_
    refine r_getf hX d_Mo_isLive_5 fl_Mo_7 hM.1 rfl ?_
    refine q_iload hX 1 d_Mo_isLive_8 rfl (by first | rfl | assumption) ?_
    refine r_ialdm (c := 118) (x := (sE S j).2.2.2 0) hX d_Mo_isLive_9 hM rfl rfl (by omega) (hrow j hj).2.1.1 ?_
    refine r_ldc hX d_Mo_isLive_10 m_682 ?_
    refine r_icmp_eq hX 26 d_Mo_isLive_12 (by decide) (fun c12 => ?_) (fun c12 => ?_)
    · refine r_iconst (v := 1) hX d_Mo_isLive_26 (by decide) ?_
      refine r_goto hX 31 d_Mo_isLive_27 (by decide) ?_
      refine r_iret hX hR d_Mo_isLive_31 rfl (by first | rfl | assumption) ?_
      exact ⟨by rw [wr_op, decide_eq_true ⟨c1, Or.inl (by rw [(hrow j hj).1.1]; exact (tg_iff (s := 1) (by decide)).mp c12)⟩]; rfl, rfl⟩
    · refine q_aload hX 0 d_Mo_isLive_15 rfl (by first | rfl | assumption) ?_
      refine r_getf hX d_Mo_isLive_16 fl_Mo_7 hM.1 rfl ?_
      refine q_iload hX 1 d_Mo_isLive_19 rfl (by first | rfl | assumption) ?_
      refine r_ialdm (c := 118) (x := (sE S j).2.2.2 0) hX d_Mo_isLive_20 hM rfl rfl (by omega) (hrow j hj).2.1.1 ?_
      refine r_ldc hX d_Mo_isLive_21 m_683 ?_
      refine r_icmp_ne hX 30 d_Mo_isLive_23 (by decide) (fun c23 => ?_) (fun c23 => ?_)
      · refine r_iconst (v := 0) hX d_Mo_isLive_30 (by decide) ?_
        refine r_iret hX hR d_Mo_isLive_31 rfl (by first | rfl | assumption) ?_
        exact ⟨by rw [wr_op, decide_eq_false (fun z => by
            have h1 := (hrow j hj).1.1
            rcases z.2 with y | y
            · exact c12 ((tg_iff (s := 1) (by decide)).mpr (by rw [← h1]; exact y))
            · exact c23 ((tg_iff (s := 7) (by decide)).mpr (by rw [← h1]; exact y)))]; rfl, rfl⟩
      · refine r_iconst (v := 1) hX d_Mo_isLive_26 (by decide) ?_
        refine r_goto hX 31 d_Mo_isLive_27 (by decide) ?_
        refine r_iret hX hR d_Mo_isLive_31 rfl (by first | rfl | assumption) ?_
        exact ⟨by rw [wr_op, decide_eq_true ⟨c1, Or.inr (by rw [(hrow j hj).1.1]; exact (tg_iff (s := 7) (by decide)).mp c23)⟩]; rfl, rfl⟩
set_option maxHeartbeats 1000000 in
theorem c_Mo_blockBytes {G : Ev_G} {w : Ev_W} {I : Nat → Int32} {v0 : Int64} {A : Ev_A} (hM : is_M w I v0 A) {S : Ev_S} {D : Nat → Ev_D} {sf : Nat → Int32} {sd : Nat} (hm : mdl I A S D sf sd) {k : Nat} (hk : k < sn S) (hf : so_fm (sE S k).1 = 3) : ev_Met G M_Mo_blockBytes 1 0 0 [.ref 117, .int (nI k)] w (fun v w' => v = some (.int (nI ((bh_L (sE S k) ++ ps_L ((sE S k).2.2.2 8) (D k).2.2.1 ((D k).1 - 1) 0) ++ st_L sf sd ((sE S k).2.2.2 3) (D k).2.1 0).length)) ∧ w' = w) := by
  refine ev_Met.of md_Mo_blockBytes (Nat.le_of_ble_eq_true rfl) (fun X hX hR => ?_)
  obtain ⟨hc, hn, hu, hsd, hpo, hpl, hrow, hhp⟩ := id hm
  have hj := hk
  obtain ⟨hD, hQ, hMa⟩ := hrow k hk
  obtain ⟨d1, d2, d3, d4, d5, d6, d7, d8⟩ := hD
  obtain ⟨q1, q2, q3, q4, q5, q6⟩ := hQ
  obtain ⟨e1, e2, e3, e4, e5, e6, e7, e8, e9, e10, e11⟩ := d5 hf
  obtain ⟨p1, p2, p3, h26, p5⟩ := q5 hf
  have q3 := q3 (Or.inr (Or.inl hf))
  have h7 := d7 (Or.inl hf)
  have hsz : ∀ i, i < (D k).1 → A.1 127 (8 * k + i) = nI ((D k).2.2.1 i) ∧ (D k).2.2.1 i ≤ 640 := fun i hi => ⟨(p5 i hi).1, (e3 i hi).2⟩
  have hbl := bh_len2 e5 e6
  have loop : ∀ (B : Nat), B ≤ 5 → ∀ (t i : Nat) (ls : Ev_L), i + t = (D k).1 → ls.1 0 = some (.ref 117) → ls.1 1 = some (.int (nI k)) → ls.1 2 = some (.int (nI (B + sm_N (D k).2.2.1 i + (ps_L ((sE S k).2.2.2 8) (D k).2.2.1 (min i ((D k).1 - 1)) 0).length))) → ls.1 3 = some (.int (nI i)) → B = (bh_L (sE S k)).length → ev_W G M_Mo_blockBytes X 0 0 17 ls [] w := by
    intro B hB t
    induction t with
    | zero =>
      intro i ls e0 l0 l1 l2 l3 hBe
      have e0 : i = (D k).1 := e0
      subst e0
      refine q_iload hX 3 d_Mo_blockBytes_17 rfl (by first | rfl | assumption) ?_
      refine q_aload hX 0 d_Mo_blockBytes_18 rfl (by first | rfl | assumption) ?_
      refine r_getf hX d_Mo_blockBytes_19 fl_Mo_20 hM.1 rfl ?_
      refine q_iload hX 1 d_Mo_blockBytes_22 rfl (by first | rfl | assumption) ?_
      refine r_ialdm (c := 121) (x := nI (D k).1) hX d_Mo_blockBytes_23 hM rfl rfl (by omega) q3 ?_
      refine r_icmp_ge hX 145 d_Mo_blockBytes_24 (by decide) (fun _ => ?_) (fun c24 => absurd (nI_le (Nat.le_refl _) (by omega)) c24)
      refine q_iload hX 2 d_Mo_blockBytes_145 rfl (by first | rfl | assumption) ?_
      refine r_iret hX hR d_Mo_blockBytes_146 rfl (by first | rfl | assumption) ?_
      refine ⟨congrArg (fun q => some (Value.int (nI q))) ?_, rfl⟩
      rw [show min (D k).1 ((D k).1 - 1) = (D k).1 - 1 by omega, List.length_append, List.length_append, st_len, ← e4, hBe]; omega
    | succ t ih =>
      intro i ls e0 l0 l1 l2 l3 hBe
      have hi : i < (D k).1 := by omega
      have ih := fun i ls a b c d e => ih i ls a b c d e hBe
      by_cases hlast : i + 1 = (D k).1
      · refine q_iload hX 3 d_Mo_blockBytes_17 rfl (by first | rfl | assumption) ?_
        refine q_aload hX 0 d_Mo_blockBytes_18 rfl (by first | rfl | assumption) ?_
        refine r_getf hX d_Mo_blockBytes_19 fl_Mo_20 hM.1 rfl ?_
        refine q_iload hX 1 d_Mo_blockBytes_22 rfl (by first | rfl | assumption) ?_
        refine r_ialdm (c := 121) (x := nI (D k).1) hX d_Mo_blockBytes_23 hM rfl rfl (by omega) q3 ?_
        refine r_icmp_ge hX 145 d_Mo_blockBytes_24 (by decide) (fun c24 => absurd c24 (nI_ge hi (by omega))) (fun _ => ?_)
        refine q_aload hX 0 d_Mo_blockBytes_27 rfl (by first | rfl | assumption) ?_
        refine r_getf hX d_Mo_blockBytes_28 fl_Mo_39 hM.1 rfl ?_
        refine r_bipush (v := 8) hX d_Mo_blockBytes_31 (by decide) ?_
        refine q_iload hX 1 d_Mo_blockBytes_33 rfl (by first | rfl | assumption) ?_
        refine r_imul hX d_Mo_blockBytes_34 ?_
        refine q_iload hX 3 d_Mo_blockBytes_35 rfl (by first | rfl | assumption) ?_
        refine r_iadd hX d_Mo_blockBytes_36 ?_
        refine r_ialdm (c := 127) (x := nI ((D k).2.2.1 i)) hX d_Mo_blockBytes_37 hM rfl (j := 8 * k + i) (by rw [show (8 : Int32) = nI 8 from rfl, nI_ml, nI_add]) (by omega) (hsz i hi).1 ?_
        refine r_istore hX d_Mo_blockBytes_38 (by decide) ?_
        refine q_iload hX 2 d_Mo_blockBytes_40 rfl (by first | rfl | assumption) ?_
        refine r_iload hX d_Mo_blockBytes_41 (by first | rfl | assumption) ?_
        refine r_iadd hX d_Mo_blockBytes_43 ?_
        rw [nI_add]
        refine q_istore hX 2 d_Mo_blockBytes_44 rfl (by decide) ?_
        refine q_iload hX 3 d_Mo_blockBytes_45 rfl (by first | rfl | assumption) ?_
        refine r_iconst (v := 1) hX d_Mo_blockBytes_46 (by decide) ?_
        refine r_iadd hX d_Mo_blockBytes_47 ?_
        rw [nI_1]
        refine q_aload hX 0 d_Mo_blockBytes_48 rfl (by first | rfl | assumption) ?_
        refine r_getf hX d_Mo_blockBytes_49 fl_Mo_20 hM.1 rfl ?_
        refine q_iload hX 1 d_Mo_blockBytes_52 rfl (by first | rfl | assumption) ?_
        refine r_ialdm (c := 121) (x := nI (D k).1) hX d_Mo_blockBytes_53 hM rfl rfl (by omega) q3 ?_
        refine r_icmp_ge hX 78 d_Mo_blockBytes_54 (by decide) (fun _ => ?_) (fun c54 => absurd (nI_le (b := i + 1) (by omega) (by omega)) c54)
        refine q_iload hX 3 d_Mo_blockBytes_78 rfl (by first | rfl | assumption) ?_
        refine r_iconst (v := 1) hX d_Mo_blockBytes_79 (by decide) ?_
        refine r_iadd hX d_Mo_blockBytes_80 ?_
        rw [nI_1]
        refine q_aload hX 0 d_Mo_blockBytes_81 rfl (by first | rfl | assumption) ?_
        refine r_getf hX d_Mo_blockBytes_82 fl_Mo_20 hM.1 rfl ?_
        refine q_iload hX 1 d_Mo_blockBytes_85 rfl (by first | rfl | assumption) ?_
        refine r_ialdm (c := 121) (x := nI (D k).1) hX d_Mo_blockBytes_86 hM rfl rfl (by omega) q3 ?_
        refine r_icmp_ge hX 139 d_Mo_blockBytes_87 (by decide) (fun _ => ?_) (fun c87 => absurd (nI_le (b := i + 1) (by omega) (by omega)) c87)
        refine r_iinc hX d_Mo_blockBytes_139 (by first | rfl | assumption) ?_
        refine r_goto hX 17 d_Mo_blockBytes_142 (by decide) ?_
        exact ih (i + 1) _ (by omega) l0 l1 (by
          show some (Value.int _) = _
          refine congrArg (fun q => some (Value.int (nI q))) ?_
          rw [sm_N, show min (i + 1) ((D k).1 - 1) = min i ((D k).1 - 1) by omega]; omega) (by show some (Value.int (nI i + Int32.ofInt 1)) = _; rw [show Int32.ofInt 1 = 1 from rfl, nI_1])
      · have hps := ps_snoc ((sE S k).2.2.2 8) (D k).2.2.1 i 0
        rw [Nat.zero_add] at hps
        have hsi := (hsz i hi).2
        by_cases hl1 : ((sE S k).2.2.2 8) = 1
        · refine q_iload hX 3 d_Mo_blockBytes_17 rfl (by first | rfl | assumption) ?_
          refine q_aload hX 0 d_Mo_blockBytes_18 rfl (by first | rfl | assumption) ?_
          refine r_getf hX d_Mo_blockBytes_19 fl_Mo_20 hM.1 rfl ?_
          refine q_iload hX 1 d_Mo_blockBytes_22 rfl (by first | rfl | assumption) ?_
          refine r_ialdm (c := 121) (x := nI (D k).1) hX d_Mo_blockBytes_23 hM rfl rfl (by omega) q3 ?_
          refine r_icmp_ge hX 145 d_Mo_blockBytes_24 (by decide) (fun c24 => absurd c24 (nI_ge hi (by omega))) (fun _ => ?_)
          refine q_aload hX 0 d_Mo_blockBytes_27 rfl (by first | rfl | assumption) ?_
          refine r_getf hX d_Mo_blockBytes_28 fl_Mo_39 hM.1 rfl ?_
          refine r_bipush (v := 8) hX d_Mo_blockBytes_31 (by decide) ?_
          refine q_iload hX 1 d_Mo_blockBytes_33 rfl (by first | rfl | assumption) ?_
          refine r_imul hX d_Mo_blockBytes_34 ?_
          refine q_iload hX 3 d_Mo_blockBytes_35 rfl (by first | rfl | assumption) ?_
          refine r_iadd hX d_Mo_blockBytes_36 ?_
          refine r_ialdm (c := 127) (x := nI ((D k).2.2.1 i)) hX d_Mo_blockBytes_37 hM rfl (j := 8 * k + i) (by rw [show (8 : Int32) = nI 8 from rfl, nI_ml, nI_add]) (by omega) (hsz i hi).1 ?_
          refine r_istore hX d_Mo_blockBytes_38 (by decide) ?_
          refine q_iload hX 2 d_Mo_blockBytes_40 rfl (by first | rfl | assumption) ?_
          refine r_iload hX d_Mo_blockBytes_41 (by first | rfl | assumption) ?_
          refine r_iadd hX d_Mo_blockBytes_43 ?_
          rw [nI_add]
          refine q_istore hX 2 d_Mo_blockBytes_44 rfl (by decide) ?_
          refine q_iload hX 3 d_Mo_blockBytes_45 rfl (by first | rfl | assumption) ?_
          refine r_iconst (v := 1) hX d_Mo_blockBytes_46 (by decide) ?_
          refine r_iadd hX d_Mo_blockBytes_47 ?_
          rw [nI_1]
          refine q_aload hX 0 d_Mo_blockBytes_48 rfl (by first | rfl | assumption) ?_
          refine r_getf hX d_Mo_blockBytes_49 fl_Mo_20 hM.1 rfl ?_
          refine q_iload hX 1 d_Mo_blockBytes_52 rfl (by first | rfl | assumption) ?_
          refine r_ialdm (c := 121) (x := nI (D k).1) hX d_Mo_blockBytes_53 hM rfl rfl (by omega) q3 ?_
          refine r_icmp_ge hX 78 d_Mo_blockBytes_54 (by decide) (fun c54 => absurd c54 (nI_ge (a := i + 1) (by omega) (by omega))) (fun _ => ?_)
          refine q_aload hX 0 d_Mo_blockBytes_57 rfl (by first | rfl | assumption) ?_
          refine r_getf hX d_Mo_blockBytes_58 fl_Mo_36 hM.1 rfl ?_
          refine q_iload hX 1 d_Mo_blockBytes_61 rfl (by first | rfl | assumption) ?_
          refine r_ialdm (c := 126) (x := ((sE S k).2.2.2 8)) hX d_Mo_blockBytes_62 hM rfl rfl (by omega) h26 ?_
          refine r_iconst (v := 1) hX d_Mo_blockBytes_63 (by decide) ?_
          refine r_icmp_ne hX 78 d_Mo_blockBytes_64 (by decide) (fun c64 => absurd hl1 c64) (fun _ => ?_)
          refine q_iload hX 2 d_Mo_blockBytes_67 rfl (by first | rfl | assumption) ?_
          refine r_iload hX d_Mo_blockBytes_68 (by first | rfl | assumption) ?_
          refine r_sipush (v := 255) hX d_Mo_blockBytes_70 (by decide) ?_
          refine r_idiv hX d_Mo_blockBytes_73 (by decide) ?_
          rw [show (255 : Int32) = nI 255 from rfl, nI_dv (by omega) (by decide)]
          refine r_iadd hX d_Mo_blockBytes_74 ?_
          rw [nI_add]
          refine r_iconst (v := 1) hX d_Mo_blockBytes_75 (by decide) ?_
          refine r_iadd hX d_Mo_blockBytes_76 ?_
          rw [nI_1]
          refine q_istore hX 2 d_Mo_blockBytes_77 rfl (by decide) ?_
          refine q_iload hX 3 d_Mo_blockBytes_78 rfl (by first | rfl | assumption) ?_
          refine r_iconst (v := 1) hX d_Mo_blockBytes_79 (by decide) ?_
          refine r_iadd hX d_Mo_blockBytes_80 ?_
          rw [nI_1]
          refine q_aload hX 0 d_Mo_blockBytes_81 rfl (by first | rfl | assumption) ?_
          refine r_getf hX d_Mo_blockBytes_82 fl_Mo_20 hM.1 rfl ?_
          refine q_iload hX 1 d_Mo_blockBytes_85 rfl (by first | rfl | assumption) ?_
          refine r_ialdm (c := 121) (x := nI (D k).1) hX d_Mo_blockBytes_86 hM rfl rfl (by omega) q3 ?_
          refine r_icmp_ge hX 139 d_Mo_blockBytes_87 (by decide) (fun c87 => absurd c87 (nI_ge (a := i + 1) (by omega) (by omega))) (fun _ => ?_)
          refine q_aload hX 0 d_Mo_blockBytes_90 rfl (by first | rfl | assumption) ?_
          refine r_getf hX d_Mo_blockBytes_91 fl_Mo_36 hM.1 rfl ?_
          refine q_iload hX 1 d_Mo_blockBytes_94 rfl (by first | rfl | assumption) ?_
          refine r_ialdm (c := 126) (x := ((sE S k).2.2.2 8)) hX d_Mo_blockBytes_95 hM rfl rfl (by omega) h26 ?_
          refine r_iconst (v := 3) hX d_Mo_blockBytes_96 (by decide) ?_
          refine r_icmp_ne hX 139 d_Mo_blockBytes_97 (by decide) (fun _ => ?_) (fun c97 => absurd c97 (by rw [hl1]; decide))
          refine r_iinc hX d_Mo_blockBytes_139 (by first | rfl | assumption) ?_
          refine r_goto hX 17 d_Mo_blockBytes_142 (by decide) ?_
          exact ih (i + 1) _ (by omega) l0 l1 (by
            show some (Value.int _) = _
            refine congrArg (fun q => some (Value.int (nI q))) ?_
            rw [sm_N, show min (i + 1) ((D k).1 - 1) = i + 1 by omega, hps, show min i ((D k).1 - 1) = i by omega, ps_1, if_pos hl1, sb_3 (hsz i hi).2]; omega) (by show some (Value.int (nI i + Int32.ofInt 1)) = _; rw [show Int32.ofInt 1 = 1 from rfl, nI_1])
        · by_cases hl3 : ((sE S k).2.2.2 8) = 3
          · by_cases hi0 : i = 0
            · refine q_iload hX 3 d_Mo_blockBytes_17 rfl (by first | rfl | assumption) ?_
              refine q_aload hX 0 d_Mo_blockBytes_18 rfl (by first | rfl | assumption) ?_
              refine r_getf hX d_Mo_blockBytes_19 fl_Mo_20 hM.1 rfl ?_
              refine q_iload hX 1 d_Mo_blockBytes_22 rfl (by first | rfl | assumption) ?_
              refine r_ialdm (c := 121) (x := nI (D k).1) hX d_Mo_blockBytes_23 hM rfl rfl (by omega) q3 ?_
              refine r_icmp_ge hX 145 d_Mo_blockBytes_24 (by decide) (fun c24 => absurd c24 (nI_ge hi (by omega))) (fun _ => ?_)
              refine q_aload hX 0 d_Mo_blockBytes_27 rfl (by first | rfl | assumption) ?_
              refine r_getf hX d_Mo_blockBytes_28 fl_Mo_39 hM.1 rfl ?_
              refine r_bipush (v := 8) hX d_Mo_blockBytes_31 (by decide) ?_
              refine q_iload hX 1 d_Mo_blockBytes_33 rfl (by first | rfl | assumption) ?_
              refine r_imul hX d_Mo_blockBytes_34 ?_
              refine q_iload hX 3 d_Mo_blockBytes_35 rfl (by first | rfl | assumption) ?_
              refine r_iadd hX d_Mo_blockBytes_36 ?_
              refine r_ialdm (c := 127) (x := nI ((D k).2.2.1 i)) hX d_Mo_blockBytes_37 hM rfl (j := 8 * k + i) (by rw [show (8 : Int32) = nI 8 from rfl, nI_ml, nI_add]) (by omega) (hsz i hi).1 ?_
              refine r_istore hX d_Mo_blockBytes_38 (by decide) ?_
              refine q_iload hX 2 d_Mo_blockBytes_40 rfl (by first | rfl | assumption) ?_
              refine r_iload hX d_Mo_blockBytes_41 (by first | rfl | assumption) ?_
              refine r_iadd hX d_Mo_blockBytes_43 ?_
              rw [nI_add]
              refine q_istore hX 2 d_Mo_blockBytes_44 rfl (by decide) ?_
              refine q_iload hX 3 d_Mo_blockBytes_45 rfl (by first | rfl | assumption) ?_
              refine r_iconst (v := 1) hX d_Mo_blockBytes_46 (by decide) ?_
              refine r_iadd hX d_Mo_blockBytes_47 ?_
              rw [nI_1]
              refine q_aload hX 0 d_Mo_blockBytes_48 rfl (by first | rfl | assumption) ?_
              refine r_getf hX d_Mo_blockBytes_49 fl_Mo_20 hM.1 rfl ?_
              refine q_iload hX 1 d_Mo_blockBytes_52 rfl (by first | rfl | assumption) ?_
              refine r_ialdm (c := 121) (x := nI (D k).1) hX d_Mo_blockBytes_53 hM rfl rfl (by omega) q3 ?_
              refine r_icmp_ge hX 78 d_Mo_blockBytes_54 (by decide) (fun c54 => absurd c54 (nI_ge (a := i + 1) (by omega) (by omega))) (fun _ => ?_)
              refine q_aload hX 0 d_Mo_blockBytes_57 rfl (by first | rfl | assumption) ?_
              refine r_getf hX d_Mo_blockBytes_58 fl_Mo_36 hM.1 rfl ?_
              refine q_iload hX 1 d_Mo_blockBytes_61 rfl (by first | rfl | assumption) ?_
              refine r_ialdm (c := 126) (x := ((sE S k).2.2.2 8)) hX d_Mo_blockBytes_62 hM rfl rfl (by omega) h26 ?_
              refine r_iconst (v := 1) hX d_Mo_blockBytes_63 (by decide) ?_
              refine r_icmp_ne hX 78 d_Mo_blockBytes_64 (by decide) (fun _ => ?_) (fun c64 => absurd c64 hl1)
              refine q_iload hX 3 d_Mo_blockBytes_78 rfl (by first | rfl | assumption) ?_
              refine r_iconst (v := 1) hX d_Mo_blockBytes_79 (by decide) ?_
              refine r_iadd hX d_Mo_blockBytes_80 ?_
              rw [nI_1]
              refine q_aload hX 0 d_Mo_blockBytes_81 rfl (by first | rfl | assumption) ?_
              refine r_getf hX d_Mo_blockBytes_82 fl_Mo_20 hM.1 rfl ?_
              refine q_iload hX 1 d_Mo_blockBytes_85 rfl (by first | rfl | assumption) ?_
              refine r_ialdm (c := 121) (x := nI (D k).1) hX d_Mo_blockBytes_86 hM rfl rfl (by omega) q3 ?_
              refine r_icmp_ge hX 139 d_Mo_blockBytes_87 (by decide) (fun c87 => absurd c87 (nI_ge (a := i + 1) (by omega) (by omega))) (fun _ => ?_)
              refine q_aload hX 0 d_Mo_blockBytes_90 rfl (by first | rfl | assumption) ?_
              refine r_getf hX d_Mo_blockBytes_91 fl_Mo_36 hM.1 rfl ?_
              refine q_iload hX 1 d_Mo_blockBytes_94 rfl (by first | rfl | assumption) ?_
              refine r_ialdm (c := 126) (x := ((sE S k).2.2.2 8)) hX d_Mo_blockBytes_95 hM rfl rfl (by omega) h26 ?_
              refine r_iconst (v := 3) hX d_Mo_blockBytes_96 (by decide) ?_
              refine r_icmp_ne hX 139 d_Mo_blockBytes_97 (by decide) (fun c97 => absurd hl3 c97) (fun _ => ?_)
              refine q_iload hX 3 d_Mo_blockBytes_100 rfl (by first | rfl | assumption) ?_
              refine r_if_ne hX 113 d_Mo_blockBytes_101 (by decide) (fun c101 => absurd (by rw [hi0]; rfl) c101) (fun _ => ?_)
              refine r_iload hX d_Mo_blockBytes_104 (by first | rfl | assumption) ?_
              refine r_i2l hX d_Mo_blockBytes_106 ?_
              rw [nI_l (by have := (hsz i hi).2; omega)]
              refine r_callS (as := [_]) hX d_Mo_blockBytes_107 lk_Mo_223 rfl (Nat.le_of_ble_eq_true rfl) (by decide) 0 0 (Nat.le_refl _) (Nat.le_refl _) (c_Mo_widthFor (G := G) ((D k).2.2.1 i) (by have := (hsz i hi).2; omega)) (fun v w1 hq => ?_)
              obtain ⟨rfl, hw⟩ := hq
              rw [hw]
              refine r_goto hX 132 d_Mo_blockBytes_110 (by decide) ?_
              refine r_istore hX d_Mo_blockBytes_132 (by decide) ?_
              refine q_iload hX 2 d_Mo_blockBytes_134 rfl (by first | rfl | assumption) ?_
              refine r_iload hX d_Mo_blockBytes_135 (by first | rfl | assumption) ?_
              refine r_iadd hX d_Mo_blockBytes_137 ?_
              rw [nI_add]
              refine q_istore hX 2 d_Mo_blockBytes_138 rfl (by decide) ?_
              refine r_iinc hX d_Mo_blockBytes_139 (by first | rfl | assumption) ?_
              refine r_goto hX 17 d_Mo_blockBytes_142 (by decide) ?_
              exact ih (i + 1) _ (by omega) l0 l1 (by
                show some (Value.int _) = _
                refine congrArg (fun q => some (Value.int (nI q))) ?_
                rw [sm_N, show min (i + 1) ((D k).1 - 1) = i + 1 by omega, hps, show min i ((D k).1 - 1) = i by omega, ps_1, if_neg hl1, if_pos hl3, if_pos hi0, vn_len]; omega) (by show some (Value.int (nI i + Int32.ofInt 1)) = _; rw [show Int32.ofInt 1 = 1 from rfl, nI_1])
            · refine q_iload hX 3 d_Mo_blockBytes_17 rfl (by first | rfl | assumption) ?_
              refine q_aload hX 0 d_Mo_blockBytes_18 rfl (by first | rfl | assumption) ?_
              refine r_getf hX d_Mo_blockBytes_19 fl_Mo_20 hM.1 rfl ?_
              refine q_iload hX 1 d_Mo_blockBytes_22 rfl (by first | rfl | assumption) ?_
              refine r_ialdm (c := 121) (x := nI (D k).1) hX d_Mo_blockBytes_23 hM rfl rfl (by omega) q3 ?_
              refine r_icmp_ge hX 145 d_Mo_blockBytes_24 (by decide) (fun c24 => absurd c24 (nI_ge hi (by omega))) (fun _ => ?_)
              refine q_aload hX 0 d_Mo_blockBytes_27 rfl (by first | rfl | assumption) ?_
              refine r_getf hX d_Mo_blockBytes_28 fl_Mo_39 hM.1 rfl ?_
              refine r_bipush (v := 8) hX d_Mo_blockBytes_31 (by decide) ?_
              refine q_iload hX 1 d_Mo_blockBytes_33 rfl (by first | rfl | assumption) ?_
              refine r_imul hX d_Mo_blockBytes_34 ?_
              refine q_iload hX 3 d_Mo_blockBytes_35 rfl (by first | rfl | assumption) ?_
              refine r_iadd hX d_Mo_blockBytes_36 ?_
              refine r_ialdm (c := 127) (x := nI ((D k).2.2.1 i)) hX d_Mo_blockBytes_37 hM rfl (j := 8 * k + i) (by rw [show (8 : Int32) = nI 8 from rfl, nI_ml, nI_add]) (by omega) (hsz i hi).1 ?_
              refine r_istore hX d_Mo_blockBytes_38 (by decide) ?_
              refine q_iload hX 2 d_Mo_blockBytes_40 rfl (by first | rfl | assumption) ?_
              refine r_iload hX d_Mo_blockBytes_41 (by first | rfl | assumption) ?_
              refine r_iadd hX d_Mo_blockBytes_43 ?_
              rw [nI_add]
              refine q_istore hX 2 d_Mo_blockBytes_44 rfl (by decide) ?_
              refine q_iload hX 3 d_Mo_blockBytes_45 rfl (by first | rfl | assumption) ?_
              refine r_iconst (v := 1) hX d_Mo_blockBytes_46 (by decide) ?_
              refine r_iadd hX d_Mo_blockBytes_47 ?_
              rw [nI_1]
              refine q_aload hX 0 d_Mo_blockBytes_48 rfl (by first | rfl | assumption) ?_
              refine r_getf hX d_Mo_blockBytes_49 fl_Mo_20 hM.1 rfl ?_
              refine q_iload hX 1 d_Mo_blockBytes_52 rfl (by first | rfl | assumption) ?_
              refine r_ialdm (c := 121) (x := nI (D k).1) hX d_Mo_blockBytes_53 hM rfl rfl (by omega) q3 ?_
              refine r_icmp_ge hX 78 d_Mo_blockBytes_54 (by decide) (fun c54 => absurd c54 (nI_ge (a := i + 1) (by omega) (by omega))) (fun _ => ?_)
              refine q_aload hX 0 d_Mo_blockBytes_57 rfl (by first | rfl | assumption) ?_
              refine r_getf hX d_Mo_blockBytes_58 fl_Mo_36 hM.1 rfl ?_
              refine q_iload hX 1 d_Mo_blockBytes_61 rfl (by first | rfl | assumption) ?_
              refine r_ialdm (c := 126) (x := ((sE S k).2.2.2 8)) hX d_Mo_blockBytes_62 hM rfl rfl (by omega) h26 ?_
              refine r_iconst (v := 1) hX d_Mo_blockBytes_63 (by decide) ?_
              refine r_icmp_ne hX 78 d_Mo_blockBytes_64 (by decide) (fun _ => ?_) (fun c64 => absurd c64 hl1)
              refine q_iload hX 3 d_Mo_blockBytes_78 rfl (by first | rfl | assumption) ?_
              refine r_iconst (v := 1) hX d_Mo_blockBytes_79 (by decide) ?_
              refine r_iadd hX d_Mo_blockBytes_80 ?_
              rw [nI_1]
              refine q_aload hX 0 d_Mo_blockBytes_81 rfl (by first | rfl | assumption) ?_
              refine r_getf hX d_Mo_blockBytes_82 fl_Mo_20 hM.1 rfl ?_
              refine q_iload hX 1 d_Mo_blockBytes_85 rfl (by first | rfl | assumption) ?_
              refine r_ialdm (c := 121) (x := nI (D k).1) hX d_Mo_blockBytes_86 hM rfl rfl (by omega) q3 ?_
              refine r_icmp_ge hX 139 d_Mo_blockBytes_87 (by decide) (fun c87 => absurd c87 (nI_ge (a := i + 1) (by omega) (by omega))) (fun _ => ?_)
              refine q_aload hX 0 d_Mo_blockBytes_90 rfl (by first | rfl | assumption) ?_
              refine r_getf hX d_Mo_blockBytes_91 fl_Mo_36 hM.1 rfl ?_
              refine q_iload hX 1 d_Mo_blockBytes_94 rfl (by first | rfl | assumption) ?_
              refine r_ialdm (c := 126) (x := ((sE S k).2.2.2 8)) hX d_Mo_blockBytes_95 hM rfl rfl (by omega) h26 ?_
              refine r_iconst (v := 3) hX d_Mo_blockBytes_96 (by decide) ?_
              refine r_icmp_ne hX 139 d_Mo_blockBytes_97 (by decide) (fun c97 => absurd hl3 c97) (fun _ => ?_)
              refine q_iload hX 3 d_Mo_blockBytes_100 rfl (by first | rfl | assumption) ?_
              refine r_if_ne hX 113 d_Mo_blockBytes_101 (by decide) (fun _ => ?_) (fun c101 => absurd ((nI_eq (b := 0) (by omega) (by decide)).mp c101) hi0)
              refine r_iload hX d_Mo_blockBytes_113 (by first | rfl | assumption) ?_
              refine q_aload hX 0 d_Mo_blockBytes_115 rfl (by first | rfl | assumption) ?_
              refine r_getf hX d_Mo_blockBytes_116 fl_Mo_39 hM.1 rfl ?_
              refine r_bipush (v := 8) hX d_Mo_blockBytes_119 (by decide) ?_
              refine q_iload hX 1 d_Mo_blockBytes_121 rfl (by first | rfl | assumption) ?_
              refine r_imul hX d_Mo_blockBytes_122 ?_
              refine q_iload hX 3 d_Mo_blockBytes_123 rfl (by first | rfl | assumption) ?_
              refine r_iadd hX d_Mo_blockBytes_124 ?_
              refine r_iconst (v := 1) hX d_Mo_blockBytes_125 (by decide) ?_
              refine r_isub hX d_Mo_blockBytes_126 ?_
              refine r_ialdm (c := 127) (x := nI ((D k).2.2.1 (i - 1))) hX d_Mo_blockBytes_127 hM rfl (j := 8 * k + (i - 1)) (by rw [show (8 : Int32) = nI 8 from rfl, nI_ml, nI_add, show 8 * k + i = (8 * k + (i - 1)) + 1 by omega, nI_pred]) (by omega) (hsz (i - 1) (by omega)).1 ?_
              refine r_isub hX d_Mo_blockBytes_128 ?_
              refine r_callS (as := [_]) hX d_Mo_blockBytes_129 lk_Mo_227 rfl (Nat.le_of_ble_eq_true rfl) (by decide) 0 0 (Nat.le_refl _) (Nat.le_refl _) (c_Mo_widthForStep (G := G) (d := nI ((D k).2.2.1 i) - nI ((D k).2.2.1 (i - 1))) (nI_d (by have := (hsz i hi).2; omega) (by have := (hsz (i - 1) (by omega)).2; omega)) (by have := (hsz i hi).2; have := (hsz (i - 1) (by omega)).2; omega) (by have := (hsz i hi).2; have := (hsz (i - 1) (by omega)).2; omega)) (fun v w1 hq => ?_)
              obtain ⟨rfl, hw⟩ := hq
              rw [hw]
              refine r_istore hX d_Mo_blockBytes_132 (by decide) ?_
              refine q_iload hX 2 d_Mo_blockBytes_134 rfl (by first | rfl | assumption) ?_
              refine r_iload hX d_Mo_blockBytes_135 (by first | rfl | assumption) ?_
              refine r_iadd hX d_Mo_blockBytes_137 ?_
              rw [nI_add]
              refine q_istore hX 2 d_Mo_blockBytes_138 rfl (by decide) ?_
              refine r_iinc hX d_Mo_blockBytes_139 (by first | rfl | assumption) ?_
              refine r_goto hX 17 d_Mo_blockBytes_142 (by decide) ?_
              exact ih (i + 1) _ (by omega) l0 l1 (by
                show some (Value.int _) = _
                refine congrArg (fun q => some (Value.int (nI q))) ?_
                rw [sm_N, show min (i + 1) ((D k).1 - 1) = i + 1 by omega, hps, show min i ((D k).1 - 1) = i by omega, ps_1, if_neg hl1, if_pos hl3, if_neg hi0, vn_len]; omega) (by show some (Value.int (nI i + Int32.ofInt 1)) = _; rw [show Int32.ofInt 1 = 1 from rfl, nI_1])
          · refine q_iload hX 3 d_Mo_blockBytes_17 rfl (by first | rfl | assumption) ?_
            refine q_aload hX 0 d_Mo_blockBytes_18 rfl (by first | rfl | assumption) ?_
            refine r_getf hX d_Mo_blockBytes_19 fl_Mo_20 hM.1 rfl ?_
            refine q_iload hX 1 d_Mo_blockBytes_22 rfl (by first | rfl | assumption) ?_
            refine r_ialdm (c := 121) (x := nI (D k).1) hX d_Mo_blockBytes_23 hM rfl rfl (by omega) q3 ?_
            refine r_icmp_ge hX 145 d_Mo_blockBytes_24 (by decide) (fun c24 => absurd c24 (nI_ge hi (by omega))) (fun _ => ?_)
            refine q_aload hX 0 d_Mo_blockBytes_27 rfl (by first | rfl | assumption) ?_
            refine r_getf hX d_Mo_blockBytes_28 fl_Mo_39 hM.1 rfl ?_
            refine r_bipush (v := 8) hX d_Mo_blockBytes_31 (by decide) ?_
            refine q_iload hX 1 d_Mo_blockBytes_33 rfl (by first | rfl | assumption) ?_
            refine r_imul hX d_Mo_blockBytes_34 ?_
            refine q_iload hX 3 d_Mo_blockBytes_35 rfl (by first | rfl | assumption) ?_
            refine r_iadd hX d_Mo_blockBytes_36 ?_
            refine r_ialdm (c := 127) (x := nI ((D k).2.2.1 i)) hX d_Mo_blockBytes_37 hM rfl (j := 8 * k + i) (by rw [show (8 : Int32) = nI 8 from rfl, nI_ml, nI_add]) (by omega) (hsz i hi).1 ?_
            refine r_istore hX d_Mo_blockBytes_38 (by decide) ?_
            refine q_iload hX 2 d_Mo_blockBytes_40 rfl (by first | rfl | assumption) ?_
            refine r_iload hX d_Mo_blockBytes_41 (by first | rfl | assumption) ?_
            refine r_iadd hX d_Mo_blockBytes_43 ?_
            rw [nI_add]
            refine q_istore hX 2 d_Mo_blockBytes_44 rfl (by decide) ?_
            refine q_iload hX 3 d_Mo_blockBytes_45 rfl (by first | rfl | assumption) ?_
            refine r_iconst (v := 1) hX d_Mo_blockBytes_46 (by decide) ?_
            refine r_iadd hX d_Mo_blockBytes_47 ?_
            rw [nI_1]
            refine q_aload hX 0 d_Mo_blockBytes_48 rfl (by first | rfl | assumption) ?_
            refine r_getf hX d_Mo_blockBytes_49 fl_Mo_20 hM.1 rfl ?_
            refine q_iload hX 1 d_Mo_blockBytes_52 rfl (by first | rfl | assumption) ?_
            refine r_ialdm (c := 121) (x := nI (D k).1) hX d_Mo_blockBytes_53 hM rfl rfl (by omega) q3 ?_
            refine r_icmp_ge hX 78 d_Mo_blockBytes_54 (by decide) (fun c54 => absurd c54 (nI_ge (a := i + 1) (by omega) (by omega))) (fun _ => ?_)
            refine q_aload hX 0 d_Mo_blockBytes_57 rfl (by first | rfl | assumption) ?_
            refine r_getf hX d_Mo_blockBytes_58 fl_Mo_36 hM.1 rfl ?_
            refine q_iload hX 1 d_Mo_blockBytes_61 rfl (by first | rfl | assumption) ?_
            refine r_ialdm (c := 126) (x := ((sE S k).2.2.2 8)) hX d_Mo_blockBytes_62 hM rfl rfl (by omega) h26 ?_
            refine r_iconst (v := 1) hX d_Mo_blockBytes_63 (by decide) ?_
            refine r_icmp_ne hX 78 d_Mo_blockBytes_64 (by decide) (fun _ => ?_) (fun c64 => absurd c64 hl1)
            refine q_iload hX 3 d_Mo_blockBytes_78 rfl (by first | rfl | assumption) ?_
            refine r_iconst (v := 1) hX d_Mo_blockBytes_79 (by decide) ?_
            refine r_iadd hX d_Mo_blockBytes_80 ?_
            rw [nI_1]
            refine q_aload hX 0 d_Mo_blockBytes_81 rfl (by first | rfl | assumption) ?_
            refine r_getf hX d_Mo_blockBytes_82 fl_Mo_20 hM.1 rfl ?_
            refine q_iload hX 1 d_Mo_blockBytes_85 rfl (by first | rfl | assumption) ?_
            refine r_ialdm (c := 121) (x := nI (D k).1) hX d_Mo_blockBytes_86 hM rfl rfl (by omega) q3 ?_
            refine r_icmp_ge hX 139 d_Mo_blockBytes_87 (by decide) (fun c87 => absurd c87 (nI_ge (a := i + 1) (by omega) (by omega))) (fun _ => ?_)
            refine q_aload hX 0 d_Mo_blockBytes_90 rfl (by first | rfl | assumption) ?_
            refine r_getf hX d_Mo_blockBytes_91 fl_Mo_36 hM.1 rfl ?_
            refine q_iload hX 1 d_Mo_blockBytes_94 rfl (by first | rfl | assumption) ?_
            refine r_ialdm (c := 126) (x := ((sE S k).2.2.2 8)) hX d_Mo_blockBytes_95 hM rfl rfl (by omega) h26 ?_
            refine r_iconst (v := 3) hX d_Mo_blockBytes_96 (by decide) ?_
            refine r_icmp_ne hX 139 d_Mo_blockBytes_97 (by decide) (fun _ => ?_) (fun c97 => absurd c97 hl3)
            refine r_iinc hX d_Mo_blockBytes_139 (by first | rfl | assumption) ?_
            refine r_goto hX 17 d_Mo_blockBytes_142 (by decide) ?_
            exact ih (i + 1) _ (by omega) l0 l1 (by
              show some (Value.int _) = _
              refine congrArg (fun q => some (Value.int (nI q))) ?_
              rw [sm_N, show min (i + 1) ((D k).1 - 1) = i + 1 by omega, hps, show min i ((D k).1 - 1) = i by omega, ps_1, if_neg hl1, if_neg hl3, List.length_nil]; omega) (by show some (Value.int (nI i + Int32.ofInt 1)) = _; rw [show Int32.ofInt 1 = 1 from rfl, nI_1])
  refine q_aload hX 0 d_Mo_blockBytes_0 rfl (by first | rfl | assumption) ?_
  refine r_getf hX d_Mo_blockBytes_1 fl_Mo_36 hM.1 rfl ?_
  refine q_iload hX 1 d_Mo_blockBytes_4 rfl (by first | rfl | assumption) ?_
  refine r_ialdm (c := 126) (x := ((sE S k).2.2.2 8)) hX d_Mo_blockBytes_5 hM rfl rfl (by omega) h26 ?_
  refine r_if_le hX 13 d_Mo_blockBytes_6 (by decide) (fun c6 => ?_) (fun c6 => ?_)
  · refine r_iconst (v := 4) hX d_Mo_blockBytes_13 (by decide) ?_
    refine q_istore hX 2 d_Mo_blockBytes_14 rfl (by decide) ?_
    refine r_iconst (v := 0) hX d_Mo_blockBytes_15 (by decide) ?_
    refine q_istore hX 3 d_Mo_blockBytes_16 rfl (by decide) ?_
    exact loop 4 (by decide) (D k).1 0 _ (by omega) rfl rfl (by show some (Value.int 4) = _; rw [Nat.zero_min]; rfl) rfl (by rw [hbl, if_pos (by rcases la_c e10 e11 with z | z | z | z; exact z; all_goals (rw [z] at c6; exact absurd c6 (by decide)))])
  · refine r_iconst (v := 5) hX d_Mo_blockBytes_9 (by decide) ?_
    refine r_goto hX 14 d_Mo_blockBytes_10 (by decide) ?_
    refine q_istore hX 2 d_Mo_blockBytes_14 rfl (by decide) ?_
    refine r_iconst (v := 0) hX d_Mo_blockBytes_15 (by decide) ?_
    refine q_istore hX 3 d_Mo_blockBytes_16 rfl (by decide) ?_
    exact loop 5 (by decide) (D k).1 0 _ (by omega) rfl rfl (by show some (Value.int 5) = _; rw [Nat.zero_min]; rfl) rfl (by rw [hbl, if_neg (fun z => c6 (by rw [z]; decide))])
