/-! ===== the reference: masterId, readSizeOf ===== -/
def mo_mt (A : Ev_A) (o : Option Nat) : Int32 := match o with
  | none => 0
  | some j => A.1 118 j
theorem rs_c_n (g : Nat → Nat) (q e s n : Nat) : rs_c g q e s n = if rs_c g q e s 0 = 0 then (if n = 60 then -6 else 0) else rs_c g q e s 0 := by
  unfold rs_c
  by_cases h1 : e ≤ q
  · simp only [if_pos h1]; rfl
  · simp only [if_neg h1]
    by_cases h2 : g q = 0
    · simp only [if_pos h2]; rfl
    · simp only [if_neg h2]
      cases vi g q e with
      | none => rfl
      | some r =>
        dsimp only
        by_cases h3 : vi_full r = true ∧ ¬ s = 1 ∧ ¬ s = 7
        · simp only [if_pos h3]; rfl
        · simp only [if_neg h3]
          by_cases h4 : vi_full r = false ∧ e - (q + r.2) < r.1
          · simp only [if_pos h4]; rfl
          · simp only [if_neg h4]; rfl
theorem rs_c_none {g : Nat → Nat} {q e s n : Nat} (h : vi g q e = none) : rs_c g q e s n = rv_c g q e := by
  unfold rs_c rv_c
  rw [h]
  by_cases h1 : e ≤ q
  · rw [if_pos h1, if_neg (by omega)]
  · rw [if_neg h1]
    by_cases h2 : g q = 0
    · rw [if_pos h2, if_pos ⟨by omega, h2⟩]
    · rw [if_neg h2]
      show (-2 : Int32) = _
      rw [if_neg (fun z => h2 z.2)]
theorem rs_c_some {g : Nat → Nat} {q e s n : Nat} {r : Nat × Nat} (hg : ∀ i, i < e → g i < 256) (h : vi g q e = some r) : rs_c g q e s n = if vi_full r = true ∧ ¬ s = 1 ∧ ¬ s = 7 then -5 else if vi_full r = false ∧ e - (q + r.2) < r.1 then -2 else if n = 60 then -6 else 0 := by
  have hv := vi_of h
  unfold rs_c
  rw [if_neg (by omega), if_neg (fun z => by have := (vl_z _ (hg q (by omega))).mpr z; omega), h]
theorem c_Mo_masterId {G : Ev_G} {w : Ev_W} {I : Nat → Int32} {v0 : Int64} {A : Ev_A} (hM : is_M w I v0 A) {k : Nat} (hdp : I 10 = nI k) (hk8 : k < 8) {o : Option Nat} (hom : A.1 134 k = o_i o) (ho : ∀ j, o = some j → j < 61) : ev_Met G M_Mo_masterId 0 0 0 [.ref 117] w (fun v w' => v = some (.int (mo_mt A o)) ∧ w' = w) := by
  refine ev_Met.of md_Mo_masterId (Nat.le_of_ble_eq_true rfl) (fun X hX hR => ?_)
  cases o with
  | none =>
    have hom : A.1 134 k = -1 := hom
    refine q_aload hX 0 d_Mo_masterId_0 rfl (by first | rfl | assumption) ?_
    refine r_getf hX d_Mo_masterId_1 fl_Mo_64 hM.1 rfl ?_
    refine q_aload hX 0 d_Mo_masterId_4 rfl (by first | rfl | assumption) ?_
    refine r_getm (J := 10) (x := nI k) hX d_Mo_masterId_5 fl_Mo_132 hM hdp rfl ?_
    refine r_ialdm (c := 134) (x := -1) hX d_Mo_masterId_8 hM rfl rfl (by omega) hom ?_
    refine r_if_ge hX 16 d_Mo_masterId_9 (by decide) (fun c9 => absurd c9 (by decide)) (fun _ => ?_)
    refine r_iconst (v := 0) hX d_Mo_masterId_12 (by decide) ?_
    refine r_goto hX 30 d_Mo_masterId_13 (by decide) ?_
    refine r_iret hX hR d_Mo_masterId_30 rfl (by first | rfl | assumption) ?_
    exact ⟨rfl, rfl⟩
  | some j =>
    have hom : A.1 134 k = nI j := hom
    have hj := ho j rfl
    refine q_aload hX 0 d_Mo_masterId_0 rfl (by first | rfl | assumption) ?_
    refine r_getf hX d_Mo_masterId_1 fl_Mo_64 hM.1 rfl ?_
    refine q_aload hX 0 d_Mo_masterId_4 rfl (by first | rfl | assumption) ?_
    refine r_getm (J := 10) (x := nI k) hX d_Mo_masterId_5 fl_Mo_132 hM hdp rfl ?_
    refine r_ialdm (c := 134) (x := nI j) hX d_Mo_masterId_8 hM rfl rfl (by omega) hom ?_
    refine r_if_ge hX 16 d_Mo_masterId_9 (by decide) (fun _ => ?_) (fun c9 => absurd (nI_le (a := 0) (Nat.zero_le j) (by omega)) c9)
    refine q_aload hX 0 d_Mo_masterId_16 rfl (by first | rfl | assumption) ?_
    refine r_getf hX d_Mo_masterId_17 fl_Mo_7 hM.1 rfl ?_
    refine q_aload hX 0 d_Mo_masterId_20 rfl (by first | rfl | assumption) ?_
    refine r_getf hX d_Mo_masterId_21 fl_Mo_64 hM.1 rfl ?_
    refine q_aload hX 0 d_Mo_masterId_24 rfl (by first | rfl | assumption) ?_
    refine r_getm (J := 10) (x := nI k) hX d_Mo_masterId_25 fl_Mo_132 hM hdp rfl ?_
    refine r_ialdm (c := 134) (x := nI j) hX d_Mo_masterId_28 hM rfl rfl (by omega) hom ?_
    refine r_ialdm (c := 118) (x := _) hX d_Mo_masterId_29 hM rfl rfl (by omega) rfl ?_
    refine r_iret hX hR d_Mo_masterId_30 rfl (by first | rfl | assumption) ?_
    exact ⟨rfl, rfl⟩
def rso_post (w : Ev_W) (I : Nat → Int32) (A : Ev_A) (g : Nat → Nat) (q e s : Nat) (v : Option Value) (w' : Ev_W) : Prop := (¬ rs_c g q e s 0 = 0 ∧ v = some (.int (rs_c g q e s 0)) ∧ ∃ I' v', is_M w' I' v' A ∧ mo_sm w w' ∧ i_but I I' [7, 8, 9]) ∨ (rs_c g q e s 0 = 0 ∧ v = some (.int 0) ∧ ∃ r, vi g q e = some r ∧ q + r.2 ≤ rs_e q e r ∧ rs_e q e r ≤ e ∧ is_M w' (rv_I I q r) (lN (rs_e q e r - (q + r.2))) A ∧ mo_sm w w')
theorem c_Mo_readSizeOf {G : Ev_G} {w : Ev_W} {I : Nat → Int32} {v0 : Int64} {A : Ev_A} (hM : is_M w I v0 A) {c : Nat} {g : Nat → Nat} (hg : rd_g c (A.1 132) g) {q : Nat} (hat : I 7 = nI q) {e k s : Nat} (hdp : I 10 = nI k) (hk8 : k < 8) (hoe : A.1 135 k = nI e) (hec : e ≤ c) (hq6 : q ≤ 640) (t : Int32) (hs0 : s = so_of t) : ev_Met G M_Mo_readSizeOf 2 0 0 [.ref 117, .int t] w (rso_post w I A g q e s) := by
  refine ev_Met.of md_Mo_readSizeOf (Nat.le_of_ble_eq_true rfl) (fun X hX hR => ?_)
  have hc := hg.1
  have hgb : ∀ i, i < e → g i < 256 := fun i hi => (hg.2 i (by omega)).2
  refine q_aload hX 0 d_Mo_readSizeOf_0 rfl (by first | rfl | assumption) ?_
  refine q_aload hX 0 d_Mo_readSizeOf_1 rfl (by first | rfl | assumption) ?_
  refine r_getf hX d_Mo_readSizeOf_2 fl_Mo_67 hM.1 rfl ?_
  refine q_aload hX 0 d_Mo_readSizeOf_5 rfl (by first | rfl | assumption) ?_
  refine r_getm (J := 10) (x := nI k) hX d_Mo_readSizeOf_6 fl_Mo_132 hM hdp rfl ?_
  refine r_ialdm (c := 135) (x := nI e) hX d_Mo_readSizeOf_9 hM rfl rfl (by omega) hoe ?_
  refine r_callV (as := [_]) hX d_Mo_readSizeOf_10 lk_Mo_140 hM.1 rfl rfl (Nat.le_of_ble_eq_true rfl) (by decide) 0 0 (Nat.le_refl _) (Nat.le_refl _) (c_Mo_readVint (G := G) hM hg hat hec hq6) (fun v w hq => ?_)
  unfold rv_post at hq
  cases hv : vi g q e with
  | none =>
    rw [hv] at hq
    obtain ⟨rfl, x, hM, hs⟩ := hq
    refine q_istore hX 2 d_Mo_readSizeOf_13 rfl (by decide) ?_
    refine q_iload hX 2 d_Mo_readSizeOf_14 rfl (by first | rfl | assumption) ?_
    refine r_if_eq hX 20 d_Mo_readSizeOf_15 (by decide) (fun c15 => absurd c15 (rv_c_ne _ _ _)) (fun _ => ?_)
    refine q_iload hX 2 d_Mo_readSizeOf_18 rfl (by first | rfl | assumption) ?_
    refine r_iret hX hR d_Mo_readSizeOf_19 rfl (by first | rfl | assumption) ?_
    rw [rso_post, rs_c_none hv]
    exact Or.inl ⟨rv_c_ne _ _ _, rfl, _, _, hM, hs, i_but.rf.u (by simp)⟩
  | some r =>
    rw [hv] at hq
    obtain ⟨rfl, hM, hs⟩ := hq
    have hv1 := vi_of hv
    refine q_istore hX 2 d_Mo_readSizeOf_13 rfl (by decide) ?_
    refine q_iload hX 2 d_Mo_readSizeOf_14 rfl (by first | rfl | assumption) ?_
    refine r_if_eq hX 20 d_Mo_readSizeOf_15 (by decide) (fun _ => ?_) (fun c15 => absurd rfl c15)
    refine q_iload hX 1 d_Mo_readSizeOf_20 rfl (by first | rfl | assumption) ?_
    refine r_ldc hX d_Mo_readSizeOf_21 m_682 ?_
    refine r_icmp_eq hX 32 d_Mo_readSizeOf_23 (by decide) (fun c23 => ?_) (fun c23 => ?_)
    · refine r_iconst (v := 1) hX d_Mo_readSizeOf_32 (by decide) ?_
      refine r_goto hX 37 d_Mo_readSizeOf_33 (by decide) ?_
      have hmay : s = 1 ∨ s = 7 := Or.inl (by rw [hs0]; exact ((tg_iff (s := 1) (by decide)).mp c23))
      refine q_istore hX 3 d_Mo_readSizeOf_37 rfl (by decide) ?_
      refine q_aload hX 0 d_Mo_readSizeOf_38 rfl (by first | rfl | assumption) ?_
      refine r_getm (J := 9) (x := b_i (vi_full r)) hX d_Mo_readSizeOf_39 fl_Mo_128 hM rfl rfl ?_
      refine r_if_eq hX 75 d_Mo_readSizeOf_42 (by decide) (fun c42 => ?_) (fun c42 => ?_)
      · refine q_aload hX 0 d_Mo_readSizeOf_75 rfl (by first | rfl | assumption) ?_
        refine r_getf hX d_Mo_readSizeOf_76 fl_Mo_124 hM.1 rfl ?_
        refine q_aload hX 0 d_Mo_readSizeOf_79 rfl (by first | rfl | assumption) ?_
        refine r_getf hX d_Mo_readSizeOf_80 fl_Mo_67 hM.1 rfl ?_
        refine q_aload hX 0 d_Mo_readSizeOf_83 rfl (by first | rfl | assumption) ?_
        refine r_getm (J := 10) (x := nI k) hX d_Mo_readSizeOf_84 fl_Mo_132 hM hdp rfl ?_
        refine r_ialdm (c := 135) (x := nI e) hX d_Mo_readSizeOf_87 hM rfl rfl (by omega) hoe ?_
        refine q_aload hX 0 d_Mo_readSizeOf_88 rfl (by first | rfl | assumption) ?_
        refine r_getm (J := 7) (x := nI (q + r.2)) hX d_Mo_readSizeOf_89 fl_Mo_115 hM rfl rfl ?_
        refine r_isub hX d_Mo_readSizeOf_92 ?_
        rw [nI_sb hv1.2.2.2.2.1]
        refine r_i2l hX d_Mo_readSizeOf_93 ?_
        rw [nI_l (by omega)]
        refine r_lcmp hX d_Mo_readSizeOf_94 ?_
        refine r_if_le hX 103 d_Mo_readSizeOf_95 (by decide) (fun c95 => ?_) (fun c95 => ?_)
        · refine r_iconst (v := 0) hX d_Mo_readSizeOf_103 (by decide) ?_
          refine r_iret hX hR d_Mo_readSizeOf_104 rfl (by first | rfl | assumption) ?_
          have hf : vi_full r = false := by
            cases hz : vi_full r with
            | false => rfl
            | true => rw [hz] at c42; exact absurd c42 (by decide)
          have hcmp : (lN r.1).toInt = (r.1 : Int) := pk_lT (by omega)
          have hcm2 : (lN (e - (q + r.2))).toInt = ((e - (q + r.2) : Nat) : Int) := pk_lT (by omega)
          have hle : r.1 ≤ e - (q + r.2) := by have h := l_le0.mp c95; rw [hcmp, hcm2] at h; omega
          have hc0 : rs_c g q e s 0 = 0 := by rw [rs_c_some hgb hv, if_neg (fun z => by rw [hf] at z; exact absurd z.1 (by decide)), if_neg (fun z => by have := z.2; omega)]; rfl
          have he1 : rs_e q e r = q + r.2 + r.1 := by rw [rs_e, hf]; rfl
          exact Or.inr ⟨hc0, rfl, r, hv, by omega, by omega, by rw [he1, show q + r.2 + r.1 - (q + r.2) = r.1 by omega]; exact hM, hs⟩
        · refine r_bipush (v := -2) hX d_Mo_readSizeOf_98 (by decide) ?_
          refine r_goto hX 104 d_Mo_readSizeOf_100 (by decide) ?_
          refine r_iret hX hR d_Mo_readSizeOf_104 rfl (by first | rfl | assumption) ?_
          have hf : vi_full r = false := by
            cases hz : vi_full r with
            | false => rfl
            | true => rw [hz] at c42; exact absurd c42 (by decide)
          have hcmp : (lN r.1).toInt = (r.1 : Int) := pk_lT (by omega)
          have hcm2 : (lN (e - (q + r.2))).toInt = ((e - (q + r.2) : Nat) : Int) := pk_lT (by omega)
          have hgt : e - (q + r.2) < r.1 := by have h := Int.not_le.mp (fun z => c95 (l_le0.mpr z)); rw [hcmp, hcm2] at h; omega
          have hc0 : rs_c g q e s 0 = -2 := by rw [rs_c_some hgb hv, if_neg (fun z => by rw [hf] at z; exact absurd z.1 (by decide)), if_pos ⟨hf, hgt⟩]
          exact Or.inl ⟨by rw [hc0]; decide, by rw [hc0], _, _, hM, hs, rv_I_but _ _ _⟩
      · refine q_aload hX 0 d_Mo_readSizeOf_45 rfl (by first | rfl | assumption) ?_
        refine q_aload hX 0 d_Mo_readSizeOf_46 rfl (by first | rfl | assumption) ?_
        refine r_getf hX d_Mo_readSizeOf_47 fl_Mo_67 hM.1 rfl ?_
        refine q_aload hX 0 d_Mo_readSizeOf_50 rfl (by first | rfl | assumption) ?_
        refine r_getm (J := 10) (x := nI k) hX d_Mo_readSizeOf_51 fl_Mo_132 hM hdp rfl ?_
        refine r_ialdm (c := 135) (x := nI e) hX d_Mo_readSizeOf_54 hM rfl rfl (by omega) hoe ?_
        refine q_aload hX 0 d_Mo_readSizeOf_55 rfl (by first | rfl | assumption) ?_
        refine r_getm (J := 7) (x := nI (q + r.2)) hX d_Mo_readSizeOf_56 fl_Mo_115 hM rfl rfl ?_
        refine r_isub hX d_Mo_readSizeOf_59 ?_
        rw [nI_sb hv1.2.2.2.2.1]
        refine r_i2l hX d_Mo_readSizeOf_60 ?_
        rw [nI_l (by omega)]
        refine r_putv hX d_Mo_readSizeOf_61 fp_Mo_124 hM hs rfl rfl (Nat.le_of_ble_eq_true rfl) rfl (fun w hM hs => ?_)
        refine q_iload hX 3 d_Mo_readSizeOf_64 rfl (by first | rfl | assumption) ?_
        refine r_if_eq hX 72 d_Mo_readSizeOf_65 (by decide) (fun c65 => absurd c65 (by decide)) (fun _ => ?_)
        refine r_iconst (v := 0) hX d_Mo_readSizeOf_68 (by decide) ?_
        refine r_goto hX 74 d_Mo_readSizeOf_69 (by decide) ?_
        refine r_iret hX hR d_Mo_readSizeOf_74 rfl (by first | rfl | assumption) ?_
        have hf : vi_full r = true := by
          cases hz : vi_full r with
          | true => rfl
          | false => rw [hz] at c42; exact absurd rfl c42
        have hc0 : rs_c g q e s 0 = 0 := by rw [rs_c_some hgb hv, if_neg (fun z => by rcases hmay with y | y; exact z.2.1 y; exact z.2.2 y), if_neg (fun z => by rw [hf] at z; exact absurd z.1 (by decide))]; rfl
        have he1 : rs_e q e r = e := by rw [rs_e, if_pos hf]
        exact Or.inr ⟨hc0, rfl, r, hv, by omega, by omega, by rw [he1]; exact hM, hs⟩
    · refine q_iload hX 1 d_Mo_readSizeOf_26 rfl (by first | rfl | assumption) ?_
      refine r_ldc hX d_Mo_readSizeOf_27 m_683 ?_
      refine r_icmp_ne hX 36 d_Mo_readSizeOf_29 (by decide) (fun c29 => ?_) (fun c29 => ?_)
      · refine r_iconst (v := 0) hX d_Mo_readSizeOf_36 (by decide) ?_
        have hmay : ¬ s = 1 ∧ ¬ s = 7 := ⟨fun z => c23 ((tg_iff (s := 1) (by decide)).mpr (by rw [← hs0]; exact z)), fun z => c29 ((tg_iff (s := 7) (by decide)).mpr (by rw [← hs0]; exact z))⟩
        refine q_istore hX 3 d_Mo_readSizeOf_37 rfl (by decide) ?_
        refine q_aload hX 0 d_Mo_readSizeOf_38 rfl (by first | rfl | assumption) ?_
        refine r_getm (J := 9) (x := b_i (vi_full r)) hX d_Mo_readSizeOf_39 fl_Mo_128 hM rfl rfl ?_
        refine r_if_eq hX 75 d_Mo_readSizeOf_42 (by decide) (fun c42 => ?_) (fun c42 => ?_)
        · refine q_aload hX 0 d_Mo_readSizeOf_75 rfl (by first | rfl | assumption) ?_
          refine r_getf hX d_Mo_readSizeOf_76 fl_Mo_124 hM.1 rfl ?_
          refine q_aload hX 0 d_Mo_readSizeOf_79 rfl (by first | rfl | assumption) ?_
          refine r_getf hX d_Mo_readSizeOf_80 fl_Mo_67 hM.1 rfl ?_
          refine q_aload hX 0 d_Mo_readSizeOf_83 rfl (by first | rfl | assumption) ?_
          refine r_getm (J := 10) (x := nI k) hX d_Mo_readSizeOf_84 fl_Mo_132 hM hdp rfl ?_
          refine r_ialdm (c := 135) (x := nI e) hX d_Mo_readSizeOf_87 hM rfl rfl (by omega) hoe ?_
          refine q_aload hX 0 d_Mo_readSizeOf_88 rfl (by first | rfl | assumption) ?_
          refine r_getm (J := 7) (x := nI (q + r.2)) hX d_Mo_readSizeOf_89 fl_Mo_115 hM rfl rfl ?_
          refine r_isub hX d_Mo_readSizeOf_92 ?_
          rw [nI_sb hv1.2.2.2.2.1]
          refine r_i2l hX d_Mo_readSizeOf_93 ?_
          rw [nI_l (by omega)]
          refine r_lcmp hX d_Mo_readSizeOf_94 ?_
          refine r_if_le hX 103 d_Mo_readSizeOf_95 (by decide) (fun c95 => ?_) (fun c95 => ?_)
          · refine r_iconst (v := 0) hX d_Mo_readSizeOf_103 (by decide) ?_
            refine r_iret hX hR d_Mo_readSizeOf_104 rfl (by first | rfl | assumption) ?_
            have hf : vi_full r = false := by
              cases hz : vi_full r with
              | false => rfl
              | true => rw [hz] at c42; exact absurd c42 (by decide)
            have hcmp : (lN r.1).toInt = (r.1 : Int) := pk_lT (by omega)
            have hcm2 : (lN (e - (q + r.2))).toInt = ((e - (q + r.2) : Nat) : Int) := pk_lT (by omega)
            have hle : r.1 ≤ e - (q + r.2) := by have h := l_le0.mp c95; rw [hcmp, hcm2] at h; omega
            have hc0 : rs_c g q e s 0 = 0 := by rw [rs_c_some hgb hv, if_neg (fun z => by rw [hf] at z; exact absurd z.1 (by decide)), if_neg (fun z => by have := z.2; omega)]; rfl
            have he1 : rs_e q e r = q + r.2 + r.1 := by rw [rs_e, hf]; rfl
            exact Or.inr ⟨hc0, rfl, r, hv, by omega, by omega, by rw [he1, show q + r.2 + r.1 - (q + r.2) = r.1 by omega]; exact hM, hs⟩
          · refine r_bipush (v := -2) hX d_Mo_readSizeOf_98 (by decide) ?_
            refine r_goto hX 104 d_Mo_readSizeOf_100 (by decide) ?_
            refine r_iret hX hR d_Mo_readSizeOf_104 rfl (by first | rfl | assumption) ?_
            have hf : vi_full r = false := by
              cases hz : vi_full r with
              | false => rfl
              | true => rw [hz] at c42; exact absurd c42 (by decide)
            have hcmp : (lN r.1).toInt = (r.1 : Int) := pk_lT (by omega)
            have hcm2 : (lN (e - (q + r.2))).toInt = ((e - (q + r.2) : Nat) : Int) := pk_lT (by omega)
            have hgt : e - (q + r.2) < r.1 := by have h := Int.not_le.mp (fun z => c95 (l_le0.mpr z)); rw [hcmp, hcm2] at h; omega
            have hc0 : rs_c g q e s 0 = -2 := by rw [rs_c_some hgb hv, if_neg (fun z => by rw [hf] at z; exact absurd z.1 (by decide)), if_pos ⟨hf, hgt⟩]
            exact Or.inl ⟨by rw [hc0]; decide, by rw [hc0], _, _, hM, hs, rv_I_but _ _ _⟩
        · refine q_aload hX 0 d_Mo_readSizeOf_45 rfl (by first | rfl | assumption) ?_
          refine q_aload hX 0 d_Mo_readSizeOf_46 rfl (by first | rfl | assumption) ?_
          refine r_getf hX d_Mo_readSizeOf_47 fl_Mo_67 hM.1 rfl ?_
          refine q_aload hX 0 d_Mo_readSizeOf_50 rfl (by first | rfl | assumption) ?_
          refine r_getm (J := 10) (x := nI k) hX d_Mo_readSizeOf_51 fl_Mo_132 hM hdp rfl ?_
          refine r_ialdm (c := 135) (x := nI e) hX d_Mo_readSizeOf_54 hM rfl rfl (by omega) hoe ?_
          refine q_aload hX 0 d_Mo_readSizeOf_55 rfl (by first | rfl | assumption) ?_
          refine r_getm (J := 7) (x := nI (q + r.2)) hX d_Mo_readSizeOf_56 fl_Mo_115 hM rfl rfl ?_
          refine r_isub hX d_Mo_readSizeOf_59 ?_
          rw [nI_sb hv1.2.2.2.2.1]
          refine r_i2l hX d_Mo_readSizeOf_60 ?_
          rw [nI_l (by omega)]
          refine r_putv hX d_Mo_readSizeOf_61 fp_Mo_124 hM hs rfl rfl (Nat.le_of_ble_eq_true rfl) rfl (fun w hM hs => ?_)
          refine q_iload hX 3 d_Mo_readSizeOf_64 rfl (by first | rfl | assumption) ?_
          refine r_if_eq hX 72 d_Mo_readSizeOf_65 (by decide) (fun _ => ?_) (fun c65 => absurd rfl c65)
          refine r_bipush (v := -5) hX d_Mo_readSizeOf_72 (by decide) ?_
          refine r_iret hX hR d_Mo_readSizeOf_74 rfl (by first | rfl | assumption) ?_
          have hf : vi_full r = true := by
            cases hz : vi_full r with
            | true => rfl
            | false => rw [hz] at c42; exact absurd rfl c42
          have hc0 : rs_c g q e s 0 = -5 := by rw [rs_c_some hgb hv, if_pos ⟨hf, hmay⟩]
          exact Or.inl ⟨by rw [hc0]; decide, by rw [hc0], _, _, hM, hs, rv_I_but _ _ _⟩
      · refine r_iconst (v := 1) hX d_Mo_readSizeOf_32 (by decide) ?_
        refine r_goto hX 37 d_Mo_readSizeOf_33 (by decide) ?_
        have hmay : s = 1 ∨ s = 7 := Or.inr (by rw [hs0]; exact ((tg_iff (s := 7) (by decide)).mp c29))
        refine q_istore hX 3 d_Mo_readSizeOf_37 rfl (by decide) ?_
        refine q_aload hX 0 d_Mo_readSizeOf_38 rfl (by first | rfl | assumption) ?_
        refine r_getm (J := 9) (x := b_i (vi_full r)) hX d_Mo_readSizeOf_39 fl_Mo_128 hM rfl rfl ?_
        refine r_if_eq hX 75 d_Mo_readSizeOf_42 (by decide) (fun c42 => ?_) (fun c42 => ?_)
        · refine q_aload hX 0 d_Mo_readSizeOf_75 rfl (by first | rfl | assumption) ?_
          refine r_getf hX d_Mo_readSizeOf_76 fl_Mo_124 hM.1 rfl ?_
          refine q_aload hX 0 d_Mo_readSizeOf_79 rfl (by first | rfl | assumption) ?_
          refine r_getf hX d_Mo_readSizeOf_80 fl_Mo_67 hM.1 rfl ?_
          refine q_aload hX 0 d_Mo_readSizeOf_83 rfl (by first | rfl | assumption) ?_
          refine r_getm (J := 10) (x := nI k) hX d_Mo_readSizeOf_84 fl_Mo_132 hM hdp rfl ?_
          refine r_ialdm (c := 135) (x := nI e) hX d_Mo_readSizeOf_87 hM rfl rfl (by omega) hoe ?_
          refine q_aload hX 0 d_Mo_readSizeOf_88 rfl (by first | rfl | assumption) ?_
          refine r_getm (J := 7) (x := nI (q + r.2)) hX d_Mo_readSizeOf_89 fl_Mo_115 hM rfl rfl ?_
          refine r_isub hX d_Mo_readSizeOf_92 ?_
          rw [nI_sb hv1.2.2.2.2.1]
          refine r_i2l hX d_Mo_readSizeOf_93 ?_
          rw [nI_l (by omega)]
          refine r_lcmp hX d_Mo_readSizeOf_94 ?_
          refine r_if_le hX 103 d_Mo_readSizeOf_95 (by decide) (fun c95 => ?_) (fun c95 => ?_)
          · refine r_iconst (v := 0) hX d_Mo_readSizeOf_103 (by decide) ?_
            refine r_iret hX hR d_Mo_readSizeOf_104 rfl (by first | rfl | assumption) ?_
            have hf : vi_full r = false := by
              cases hz : vi_full r with
              | false => rfl
              | true => rw [hz] at c42; exact absurd c42 (by decide)
            have hcmp : (lN r.1).toInt = (r.1 : Int) := pk_lT (by omega)
            have hcm2 : (lN (e - (q + r.2))).toInt = ((e - (q + r.2) : Nat) : Int) := pk_lT (by omega)
            have hle : r.1 ≤ e - (q + r.2) := by have h := l_le0.mp c95; rw [hcmp, hcm2] at h; omega
            have hc0 : rs_c g q e s 0 = 0 := by rw [rs_c_some hgb hv, if_neg (fun z => by rw [hf] at z; exact absurd z.1 (by decide)), if_neg (fun z => by have := z.2; omega)]; rfl
            have he1 : rs_e q e r = q + r.2 + r.1 := by rw [rs_e, hf]; rfl
            exact Or.inr ⟨hc0, rfl, r, hv, by omega, by omega, by rw [he1, show q + r.2 + r.1 - (q + r.2) = r.1 by omega]; exact hM, hs⟩
          · refine r_bipush (v := -2) hX d_Mo_readSizeOf_98 (by decide) ?_
            refine r_goto hX 104 d_Mo_readSizeOf_100 (by decide) ?_
            refine r_iret hX hR d_Mo_readSizeOf_104 rfl (by first | rfl | assumption) ?_
            have hf : vi_full r = false := by
              cases hz : vi_full r with
              | false => rfl
              | true => rw [hz] at c42; exact absurd c42 (by decide)
            have hcmp : (lN r.1).toInt = (r.1 : Int) := pk_lT (by omega)
            have hcm2 : (lN (e - (q + r.2))).toInt = ((e - (q + r.2) : Nat) : Int) := pk_lT (by omega)
            have hgt : e - (q + r.2) < r.1 := by have h := Int.not_le.mp (fun z => c95 (l_le0.mpr z)); rw [hcmp, hcm2] at h; omega
            have hc0 : rs_c g q e s 0 = -2 := by rw [rs_c_some hgb hv, if_neg (fun z => by rw [hf] at z; exact absurd z.1 (by decide)), if_pos ⟨hf, hgt⟩]
            exact Or.inl ⟨by rw [hc0]; decide, by rw [hc0], _, _, hM, hs, rv_I_but _ _ _⟩
        · refine q_aload hX 0 d_Mo_readSizeOf_45 rfl (by first | rfl | assumption) ?_
          refine q_aload hX 0 d_Mo_readSizeOf_46 rfl (by first | rfl | assumption) ?_
          refine r_getf hX d_Mo_readSizeOf_47 fl_Mo_67 hM.1 rfl ?_
          refine q_aload hX 0 d_Mo_readSizeOf_50 rfl (by first | rfl | assumption) ?_
          refine r_getm (J := 10) (x := nI k) hX d_Mo_readSizeOf_51 fl_Mo_132 hM hdp rfl ?_
          refine r_ialdm (c := 135) (x := nI e) hX d_Mo_readSizeOf_54 hM rfl rfl (by omega) hoe ?_
          refine q_aload hX 0 d_Mo_readSizeOf_55 rfl (by first | rfl | assumption) ?_
          refine r_getm (J := 7) (x := nI (q + r.2)) hX d_Mo_readSizeOf_56 fl_Mo_115 hM rfl rfl ?_
          refine r_isub hX d_Mo_readSizeOf_59 ?_
          rw [nI_sb hv1.2.2.2.2.1]
          refine r_i2l hX d_Mo_readSizeOf_60 ?_
          rw [nI_l (by omega)]
          refine r_putv hX d_Mo_readSizeOf_61 fp_Mo_124 hM hs rfl rfl (Nat.le_of_ble_eq_true rfl) rfl (fun w hM hs => ?_)
          refine q_iload hX 3 d_Mo_readSizeOf_64 rfl (by first | rfl | assumption) ?_
          refine r_if_eq hX 72 d_Mo_readSizeOf_65 (by decide) (fun c65 => absurd c65 (by decide)) (fun _ => ?_)
          refine r_iconst (v := 0) hX d_Mo_readSizeOf_68 (by decide) ?_
          refine r_goto hX 74 d_Mo_readSizeOf_69 (by decide) ?_
          refine r_iret hX hR d_Mo_readSizeOf_74 rfl (by first | rfl | assumption) ?_
          have hf : vi_full r = true := by
            cases hz : vi_full r with
            | true => rfl
            | false => rw [hz] at c42; exact absurd rfl c42
          have hc0 : rs_c g q e s 0 = 0 := by rw [rs_c_some hgb hv, if_neg (fun z => by rcases hmay with y | y; exact z.2.1 y; exact z.2.2 y), if_neg (fun z => by rw [hf] at z; exact absurd z.1 (by decide))]; rfl
          have he1 : rs_e q e r = e := by rw [rs_e, if_pos hf]
          exact Or.inr ⟨hc0, rfl, r, hv, by omega, by omega, by rw [he1]; exact hM, hs⟩
