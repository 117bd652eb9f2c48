/-! ===== the reference: sizes of frames ===== -/
def i_but (I I' : Nat → Int32) (l : List Nat) : Prop := ∀ J, J ∉ l → I' J = I J
theorem i_but.rf {I : Nat → Int32} {l : List Nat} : i_but I I l := fun _ _ => rfl
theorem i_but.tr {I I' I'' : Nat → Int32} {l : List Nat} (h : i_but I I' l) (k : i_but I' I'' l) : i_but I I'' l := fun J hJ => (k J hJ).trans (h J hJ)
theorem i_but.u {I I' : Nat → Int32} {l : List Nat} {k : Nat} {x : Int32} (h : i_but I I' l) (hk : k ∈ l) : i_but I (upd I' k x) l := fun J hJ => by
  unfold upd
  rw [if_neg (fun z => hJ (by rw [z]; exact hk))]
  exact h J hJ
theorem rv_I_but (I : Nat → Int32) (p : Nat) (r : Nat × Nat) : i_but I (rv_I I p r) [7, 8, 9] := ((i_but.rf.u (by simp)).u (by simp)).u (by simp)
theorem rz1_p {g : Nat → Nat} {la e i p prev : Nat} {r : Nat × Nat} (hpe : p ≤ e) (h : rz1 g la e i p prev = some r) : p < r.2 ∧ r.2 ≤ e := by
  unfold rz1 at h
  split at h
  · have h1 := sz_b_le h
    omega
  · split at h
    · cases h
    · rename_i r1 hv
      have hv1 := vi_of hv
      split at h
      · cases h
      · split at h
        · cases h; dsimp only; omega
        · split at h
          · cases h
          · cases h; dsimp only; omega
/-- the sizes as the reference reads them: it looks at their sum in the end -/
def mz (g : Nat → Nat) (la e : Nat) : Nat → Nat → Nat → Nat → Nat → Option (List Nat × Nat)
  | 0, _, p, _, sum => if sum ≤ e - p then some ([e - p - sum], p) else none
  | k + 1, i, p, prev, sum => match rz1 g la e i p prev with
    | none => none
    | some r => if la ≠ 1 ∧ 640 < r.1 then none else (mz g la e k (i + 1) r.2 r.1 (sum + r.1)).map (fun q => (r.1 :: q.1, q.2))
theorem mz_le {g : Nat → Nat} {la e : Nat} : ∀ (k i p prev sum : Nat) {q : List Nat × Nat}, p ≤ e → mz g la e k i p prev sum = some q → sum ≤ e - p
  | 0, i, p, prev, sum, q, _, h => by
    rw [mz] at h
    split at h
    · assumption
    · cases h
  | k + 1, i, p, prev, sum, q, hpe, h => by
    rw [mz] at h
    cases hr : rz1 g la e i p prev with
    | none => rw [hr] at h; cases h
    | some r =>
      rw [hr] at h
      dsimp only at h
      have hp := rz1_p hpe hr
      split at h
      · cases h
      · cases hm : mz g la e k (i + 1) r.2 r.1 (sum + r.1) with
        | none => rw [hm] at h; cases h
        | some q2 => have := mz_le k (i + 1) r.2 r.1 (sum + r.1) hp.2 hm; omega
theorem rz_mz {g : Nat → Nat} {la e : Nat} (he : e ≤ 640) : ∀ (k i p prev sum : Nat), p ≤ e → rz g la e k i p prev sum = mz g la e k i p prev sum
  | 0, i, p, prev, sum, _ => rfl
  | k + 1, i, p, prev, sum, hpe => by
    rw [rz, mz]
    cases hr : rz1 g la e i p prev with
    | none => rfl
    | some r =>
      dsimp only
      have hp := rz1_p hpe hr
      rw [rz_mz he k (i + 1) r.2 r.1 (sum + r.1) hp.2]
      by_cases z : r.1 ≤ e - r.2
      · rw [if_pos z, if_neg (by omega)]
      · rw [if_neg z]
        by_cases y : la ≠ 1 ∧ 640 < r.1
        · rw [if_pos y]
        · rw [if_neg y]
          cases hm : mz g la e k (i + 1) r.2 r.1 (sum + r.1) with
          | none => rfl
          | some q2 => have := mz_le k (i + 1) r.2 r.1 (sum + r.1) hp.2 hm; omega
def rs1_post (w : Ev_W) (I : Nat → Int32) (A : Ev_A) (o : Option (Nat × Nat)) (la : Nat) (v : Option Value) (w' : Ev_W) : Prop := ∃ I' v', is_M w' I' v' A ∧ mo_sm w w' ∧ i_but I I' [7, 8, 9] ∧ match o with
  | none => v = some (.int (-1))
  | some r => (v = some (.int (nI r.1)) ∧ I' 7 = nI r.2 ∧ r.1 < 2 ^ 20 ∧ ¬ (la ≠ 1 ∧ 640 < r.1)) ∨ ((la ≠ 1 ∧ 640 < r.1) ∧ v = some (.int (-1)))
theorem nI_255 {a : Nat} : nI a + 255 = nI (a + 255) := by rw [show (255 : Int32) = nI 255 from rfl, nI_add]
theorem rv_c_ne (g : Nat → Nat) (p e : Nat) : ¬ rv_c g p e = 0 := by unfold rv_c; split <;> decide
theorem c_Mo_readSize {G : Ev_G} {w : Ev_W} {I : Nat → Int32} {v0 : Int64} {A : Ev_A} (hM : is_M w I v0 A) {c : Nat} {g : Nat → Nat} (hg : rd_g c (A.1 132) g) {p : Nat} (hat : I 7 = nI p) {la i prev e : Nat} (hec : e ≤ c) (hpe : p ≤ e) (hla4 : la ≤ 3) (hi8 : i < 8) (hpr : prev < 2 ^ 20) : ev_Met G M_Mo_readSize 2 0 0 [.ref 117, .int (nI la), .int (nI i), .int (nI prev), .int (nI e)] w (rs1_post w I A (rz1 g la e i p prev) la) := by
  refine ev_Met.of md_Mo_readSize (Nat.le_of_ble_eq_true rfl) (fun X hX hR => ?_)
  have hc := hg.1
  have hs : mo_sm w w := mo_sm.rf
  have loop : la = 1 → ∀ (t q a : Nat) (w1 : Ev_W) (ls : Ev_L), q + t = e → a + 256 * t ≤ 256 * 640 → is_M w1 (upd I 7 (nI q)) v0 A → mo_sm w w1 → sz_b g t q a = sz_b g (e - p) p 0 → ls.1 0 = some (.ref 117) → ls.1 4 = some (.int (nI e)) → ls.1 5 = some (.int (nI a)) → ev_W G M_Mo_readSize X 0 0 8 ls [] w1 := by
    intro hla t
    induction t with
    | zero =>
      intro q a w ls e1 ha hM hs e2 l0 l4 l5
      refine q_aload hX 0 d_Mo_readSize_8 rfl (by first | rfl | assumption) ?_
      refine r_getm (J := 7) (x := nI q) hX d_Mo_readSize_9 fl_Mo_115 hM rfl rfl ?_
      refine r_iload hX d_Mo_readSize_12 (by first | rfl | assumption) ?_
      refine r_icmp_ge hX 53 d_Mo_readSize_14 (by decide) (fun _ => ?_) (fun c14 => absurd (nI_le (by omega) (by omega)) c14)
      refine q_aload hX 0 d_Mo_readSize_53 rfl (by first | rfl | assumption) ?_
      refine r_getm (J := 7) (x := nI q) hX d_Mo_readSize_54 fl_Mo_115 hM rfl rfl ?_
      refine r_iload hX d_Mo_readSize_57 (by first | rfl | assumption) ?_
      refine r_icmp_lt hX 64 d_Mo_readSize_59 (by decide) (fun c59 => absurd c59 (nI_nlt (by omega) (by omega))) (fun _ => ?_)
      refine r_iconst (v := -1) hX d_Mo_readSize_62 (by decide) ?_
      refine r_iret hX hR d_Mo_readSize_63 rfl (by first | rfl | assumption) ?_
      have hz : rz1 g la e i p prev = none := by rw [rz1, if_pos hla, ← e2]; rfl
      rw [hz]
      exact ⟨_, _, hM, hs, i_but.rf.u (by simp), rfl⟩
    | succ t ih =>
      intro q a w ls e1 ha hM hs e2 l0 l4 l5
      have hgq := hg.2 q (by omega)
      refine q_aload hX 0 d_Mo_readSize_8 rfl (by first | rfl | assumption) ?_
      refine r_getm (J := 7) (x := nI q) hX d_Mo_readSize_9 fl_Mo_115 hM rfl rfl ?_
      refine r_iload hX d_Mo_readSize_12 (by first | rfl | assumption) ?_
      refine r_icmp_ge hX 53 d_Mo_readSize_14 (by decide) (fun c14 => absurd c14 (nI_ge (by omega) (by omega))) (fun _ => ?_)
      refine q_aload hX 0 d_Mo_readSize_17 rfl (by first | rfl | assumption) ?_
      refine r_getf hX d_Mo_readSize_18 fl_Mo_54 hM.1 rfl ?_
      refine q_aload hX 0 d_Mo_readSize_21 rfl (by first | rfl | assumption) ?_
      refine r_getm (J := 7) (x := nI q) hX d_Mo_readSize_22 fl_Mo_115 hM rfl rfl ?_
      refine r_ialdm (c := 132) (x := nI (g q)) hX d_Mo_readSize_25 hM rfl rfl (by omega) hgq.1 ?_
      refine r_sipush (v := 255) hX d_Mo_readSize_26 (by decide) ?_
      refine r_icmp_ne hX 53 d_Mo_readSize_29 (by decide) (fun c29 => ?_) (fun c29 => ?_)
      · refine q_aload hX 0 d_Mo_readSize_53 rfl (by first | rfl | assumption) ?_
        refine r_getm (J := 7) (x := nI q) hX d_Mo_readSize_54 fl_Mo_115 hM rfl rfl ?_
        refine r_iload hX d_Mo_readSize_57 (by first | rfl | assumption) ?_
        refine r_icmp_lt hX 64 d_Mo_readSize_59 (by decide) (fun _ => ?_) (fun c59 => absurd (nI_lt (by omega) (by omega)) c59)
        refine r_iload hX d_Mo_readSize_64 (by first | rfl | assumption) ?_
        refine q_aload hX 0 d_Mo_readSize_66 rfl (by first | rfl | assumption) ?_
        refine r_getf hX d_Mo_readSize_67 fl_Mo_54 hM.1 rfl ?_
        refine q_aload hX 0 d_Mo_readSize_70 rfl (by first | rfl | assumption) ?_
        refine r_getm (J := 7) (x := nI q) hX d_Mo_readSize_71 fl_Mo_115 hM rfl rfl ?_
        refine r_ialdm (c := 132) (x := nI (g q)) hX d_Mo_readSize_74 hM rfl rfl (by omega) hgq.1 ?_
        refine r_iadd hX d_Mo_readSize_75 ?_
        rw [nI_add]
        refine r_istore hX d_Mo_readSize_76 (by decide) ?_
        refine q_aload hX 0 d_Mo_readSize_78 rfl (by first | rfl | assumption) ?_
        refine r_dup hX d_Mo_readSize_79 rfl ?_
        refine r_getm (J := 7) (x := nI q) hX d_Mo_readSize_80 fl_Mo_115 hM rfl rfl ?_
        refine r_iconst (v := 1) hX d_Mo_readSize_83 (by decide) ?_
        refine r_iadd hX d_Mo_readSize_84 ?_
        refine r_putm (J := 7) hX d_Mo_readSize_85 fp_Mo_115 hM hs rfl rfl (Nat.le_of_ble_eq_true rfl) rfl (fun w hM hs => ?_)
        rw [upd2, nI_1] at hM
        refine r_iload hX d_Mo_readSize_88 (by first | rfl | assumption) ?_
        refine r_iret hX hR d_Mo_readSize_90 rfl (by first | rfl | assumption) ?_
        have h255 : g q < 255 := by
          have : g q ≠ 255 := fun z => c29 (by rw [z]; rfl)
          omega
        have hz : rz1 g la e i p prev = some (a + g q, q + 1) := by rw [rz1, if_pos hla, ← e2, sz_b, if_pos h255]
        rw [hz]
        exact ⟨_, _, hM, hs, i_but.rf.u (by simp), Or.inl ⟨rfl, rfl, by dsimp only; omega, fun z => z.1 hla⟩⟩
      · refine r_iload hX d_Mo_readSize_32 (by first | rfl | assumption) ?_
        refine r_sipush (v := 255) hX d_Mo_readSize_34 (by decide) ?_
        refine r_iadd hX d_Mo_readSize_37 ?_
        rw [nI_255]
        refine r_istore hX d_Mo_readSize_38 (by decide) ?_
        refine q_aload hX 0 d_Mo_readSize_40 rfl (by first | rfl | assumption) ?_
        refine r_dup hX d_Mo_readSize_41 rfl ?_
        refine r_getm (J := 7) (x := nI q) hX d_Mo_readSize_42 fl_Mo_115 hM rfl rfl ?_
        refine r_iconst (v := 1) hX d_Mo_readSize_45 (by decide) ?_
        refine r_iadd hX d_Mo_readSize_46 ?_
        refine r_putm (J := 7) hX d_Mo_readSize_47 fp_Mo_115 hM hs rfl rfl (Nat.le_of_ble_eq_true rfl) rfl (fun w hM hs => ?_)
        rw [upd2, nI_1] at hM
        refine r_goto hX 8 d_Mo_readSize_50 (by decide) ?_
        have h255 : g q = 255 := (nI_eq (b := 255) (by omega) (by decide)).mp c29
        exact ih (q + 1) (a + 255) w _ (by omega) (by omega) hM hs (by rw [← e2, sz_b, if_neg (by omega), h255]) l0 l4 rfl
  by_cases hla : la = 1
  · subst hla
    refine q_iload hX 1 d_Mo_readSize_0 rfl (by first | rfl | assumption) ?_
    refine r_iconst (v := 1) hX d_Mo_readSize_1 (by decide) ?_
    refine r_icmp_ne hX 91 d_Mo_readSize_2 (by decide) (fun c2 => absurd rfl c2) (fun _ => ?_)
    refine r_iconst (v := 0) hX d_Mo_readSize_5 (by decide) ?_
    refine r_istore hX d_Mo_readSize_6 (by decide) ?_
    exact loop rfl (e - p) p 0 w _ (by omega) (by omega) (by rw [upd_id hat]; exact hM) hs rfl rfl rfl rfl
  · refine q_iload hX 1 d_Mo_readSize_0 rfl (by first | rfl | assumption) ?_
    refine r_iconst (v := 1) hX d_Mo_readSize_1 (by decide) ?_
    refine r_icmp_ne hX 91 d_Mo_readSize_2 (by decide) (fun _ => ?_) (fun c2 => absurd ((nI_eq (b := 1) (by omega) (by decide)).mp c2) hla)
    refine q_aload hX 0 d_Mo_readSize_91 rfl (by first | rfl | assumption) ?_
    refine r_iload hX d_Mo_readSize_92 (by first | rfl | assumption) ?_
    refine r_callV (as := [_]) hX d_Mo_readSize_94 lk_Mo_140 hM.1 rfl rfl (Nat.le_of_ble_eq_true rfl) (by decide) 0 0 (Nat.le_refl _) (Nat.le_refl _) (c_Mo_readVint (G := G) hM hg hat hec (by omega)) (fun v w hq => ?_)
    unfold rv_post at hq
    cases hv : vi g p e with
    | none =>
      rw [hv] at hq
      obtain ⟨rfl, x, hM, hs⟩ := hq
      refine r_istore hX d_Mo_readSize_97 (by decide) ?_
      refine r_iload hX d_Mo_readSize_99 (by first | rfl | assumption) ?_
      refine r_if_ne hX 111 d_Mo_readSize_101 (by decide) (fun _ => ?_) (fun c101 => absurd c101 (rv_c_ne _ _ _))
      refine r_iconst (v := -1) hX d_Mo_readSize_111 (by decide) ?_
      refine r_iret hX hR d_Mo_readSize_112 rfl (by first | rfl | assumption) ?_
      have hz : rz1 g la e i p prev = none := by rw [rz1, if_neg hla, hv]
      rw [hz]
      exact ⟨_, _, hM, hs, i_but.rf.u (by simp), rfl⟩
    | some r =>
      rw [hv] at hq
      obtain ⟨rfl, hM, hs⟩ := hq
      have hv1 := vi_of hv
      refine r_istore hX d_Mo_readSize_97 (by decide) ?_
      refine r_iload hX d_Mo_readSize_99 (by first | rfl | assumption) ?_
      refine r_if_ne hX 111 d_Mo_readSize_101 (by decide) (fun c101 => absurd rfl c101) (fun _ => ?_)
      refine q_aload hX 0 d_Mo_readSize_104 rfl (by first | rfl | assumption) ?_
      refine r_getm (J := 9) (x := b_i (vi_full r)) hX d_Mo_readSize_105 fl_Mo_128 hM rfl rfl ?_
      refine r_if_eq hX 113 d_Mo_readSize_108 (by decide) (fun c108 => ?_) (fun c108 => ?_)
      · refine q_iload hX 2 d_Mo_readSize_113 rfl (by first | rfl | assumption) ?_
        refine r_if_ne hX 124 d_Mo_readSize_114 (by decide) (fun c114 => ?_) (fun c114 => ?_)
        · refine q_iload hX 3 d_Mo_readSize_124 rfl (by first | rfl | assumption) ?_
          refine r_i2l hX d_Mo_readSize_125 ?_
          refine q_aload hX 0 d_Mo_readSize_126 rfl (by first | rfl | assumption) ?_
          refine r_getf hX d_Mo_readSize_127 fl_Mo_124 hM.1 rfl ?_
          refine r_ladd hX d_Mo_readSize_130 ?_
          refine r_lconst (v := 1) hX d_Mo_readSize_131 (by decide) ?_
          refine r_bipush (v := 7) hX d_Mo_readSize_132 (by decide) ?_
          refine q_aload hX 0 d_Mo_readSize_134 rfl (by first | rfl | assumption) ?_
          refine r_getm (J := 8) (x := nI r.2) hX d_Mo_readSize_135 fl_Mo_121 hM rfl rfl ?_
          refine r_imul hX d_Mo_readSize_138 ?_
          refine r_iconst (v := 1) hX d_Mo_readSize_139 (by decide) ?_
          refine r_isub hX d_Mo_readSize_140 ?_
          refine r_lshl hX d_Mo_readSize_141 ?_
          refine r_lconst (v := 1) hX d_Mo_readSize_142 (by decide) ?_
          refine r_lsub hX d_Mo_readSize_143 ?_
          refine r_lsub hX d_Mo_readSize_144 ?_
          have hsu : ((1 : Int64) <<< ((7 * nI r.2 - 1).toInt64 &&& 63)) - 1 = lN (2 ^ (7 * r.2 - 1) - 1) := su_N r.2 (by omega) hv1.2.2.1
          rw [hsu, nI_l (by omega), lN_add]
          have hf : ¬ vi_full r = true := fun z => by rw [z] at c108; exact absurd c108 (by decide)
          have hi0 : ¬ i = 0 := fun z => c114 (by rw [z]; rfl)
          have hp2 : 2 ^ (7 * r.2 - 1) ≤ 2 ^ 55 := Nat.pow_le_pow_right (by decide) (by omega)
          have hp0 : 0 < 2 ^ (7 * r.2 - 1) := Nat.pow_pos (by decide)
          have htI : (lN (prev + r.1) - lN (2 ^ (7 * r.2 - 1) - 1)).toInt = ((prev + r.1 : Nat) : Int) - ((2 ^ (7 * r.2 - 1) - 1 : Nat) : Int) := lN_d (by omega) (by omega)
          refine r_lstore hX d_Mo_readSize_145 (by decide) ?_
          refine r_lload hX d_Mo_readSize_147 (by first | rfl | assumption) ?_
          refine r_lconst (v := 0) hX d_Mo_readSize_149 (by decide) ?_
          refine r_lcmp hX d_Mo_readSize_150 ?_
          refine r_if_lt hX 163 d_Mo_readSize_151 (by decide) (fun c151 => ?_) (fun c151 => ?_)
          · refine r_iconst (v := -1) hX d_Mo_readSize_163 (by decide) ?_
            refine r_goto hX 170 d_Mo_readSize_164 (by decide) ?_
            refine r_iret hX hR d_Mo_readSize_170 rfl (by first | rfl | assumption) ?_
            have hlow : prev + r.1 < 2 ^ (7 * r.2 - 1) - 1 := by have h := l_lt0.mp c151; rw [htI, show (0 : Int64).toInt = 0 from rfl] at h; omega
            have hz : rz1 g la e i p prev = none := by rw [rz1, if_neg hla, hv]; dsimp only; rw [if_neg hf, if_neg hi0, if_pos hlow]
            rw [hz]
            exact ⟨_, _, hM, hs, rv_I_but _ _ _, rfl⟩
          · refine r_lload hX d_Mo_readSize_154 (by first | rfl | assumption) ?_
            refine r_ldc2 hX d_Mo_readSize_156 m_715 ?_
            refine r_lcmp hX d_Mo_readSize_159 ?_
            refine r_if_le hX 167 d_Mo_readSize_160 (by decide) (fun c160 => ?_) (fun c160 => ?_)
            · refine r_lload hX d_Mo_readSize_167 (by first | rfl | assumption) ?_
              refine r_l2i hX d_Mo_readSize_169 ?_
              refine r_iret hX hR d_Mo_readSize_170 rfl (by first | rfl | assumption) ?_
              have hlow : ¬ prev + r.1 < 2 ^ (7 * r.2 - 1) - 1 := fun y => by have h := Int.not_lt.mp (fun z => c151 (l_lt0.mpr z)); rw [htI, show (0 : Int64).toInt = 0 from rfl] at h; omega
              have h640 : prev + r.1 - (2 ^ (7 * r.2 - 1) - 1) ≤ 640 := by have h := l_le0.mp c160; rw [htI, show (640 : Int64).toInt = 640 from rfl] at h; omega
              have hz : rz1 g la e i p prev = some (prev + r.1 - (2 ^ (7 * r.2 - 1) - 1), p + r.2) := by rw [rz1, if_neg hla, hv]; dsimp only; rw [if_neg hf, if_neg hi0, if_neg hlow]
              rw [hz]
              exact ⟨_, _, hM, hs, rv_I_but _ _ _, Or.inl ⟨by rw [lN_sub (by omega), lN_i], rfl, by dsimp only; omega, fun z => by have := z.2; dsimp only at this; omega⟩⟩
            · refine r_iconst (v := -1) hX d_Mo_readSize_163 (by decide) ?_
              refine r_goto hX 170 d_Mo_readSize_164 (by decide) ?_
              refine r_iret hX hR d_Mo_readSize_170 rfl (by first | rfl | assumption) ?_
              have hlow : ¬ prev + r.1 < 2 ^ (7 * r.2 - 1) - 1 := fun y => by have h := Int.not_lt.mp (fun z => c151 (l_lt0.mpr z)); rw [htI, show (0 : Int64).toInt = 0 from rfl] at h; omega
              have h640 : 640 < prev + r.1 - (2 ^ (7 * r.2 - 1) - 1) := by have h := Int.not_le.mp (fun z => c160 (l_le0.mpr z)); rw [htI, show (640 : Int64).toInt = 640 from rfl] at h; omega
              have hz : rz1 g la e i p prev = some (prev + r.1 - (2 ^ (7 * r.2 - 1) - 1), p + r.2) := by rw [rz1, if_neg hla, hv]; dsimp only; rw [if_neg hf, if_neg hi0, if_neg hlow]
              rw [hz]
              exact ⟨_, _, hM, hs, rv_I_but _ _ _, Or.inr ⟨⟨hla, h640⟩, rfl⟩⟩
        · refine q_aload hX 0 d_Mo_readSize_117 rfl (by first | rfl | assumption) ?_
          refine r_getf hX d_Mo_readSize_118 fl_Mo_124 hM.1 rfl ?_
          refine r_goto hX 145 d_Mo_readSize_121 (by decide) ?_
          have hf : ¬ vi_full r = true := fun z => by rw [z] at c108; exact absurd c108 (by decide)
          have hi0 : i = 0 := (nI_eq (b := 0) (by omega) (by decide)).mp c114
          have hz : rz1 g la e i p prev = some (r.1, p + r.2) := by rw [rz1, if_neg hla, hv]; dsimp only; rw [if_neg hf, if_pos hi0]
          have htI : (lN r.1).toInt = (r.1 : Int) := pk_lT (by omega)
          refine r_lstore hX d_Mo_readSize_145 (by decide) ?_
          refine r_lload hX d_Mo_readSize_147 (by first | rfl | assumption) ?_
          refine r_lconst (v := 0) hX d_Mo_readSize_149 (by decide) ?_
          refine r_lcmp hX d_Mo_readSize_150 ?_
          refine r_if_lt hX 163 d_Mo_readSize_151 (by decide) (fun c151 => ?_) (fun c151 => ?_)
          · refine r_iconst (v := -1) hX d_Mo_readSize_163 (by decide) ?_
            refine r_goto hX 170 d_Mo_readSize_164 (by decide) ?_
            refine r_iret hX hR d_Mo_readSize_170 rfl (by first | rfl | assumption) ?_
            exact absurd (l_lt0.mp c151) (by rw [htI, show (0 : Int64).toInt = 0 from rfl]; omega)
          · refine r_lload hX d_Mo_readSize_154 (by first | rfl | assumption) ?_
            refine r_ldc2 hX d_Mo_readSize_156 m_715 ?_
            refine r_lcmp hX d_Mo_readSize_159 ?_
            refine r_if_le hX 167 d_Mo_readSize_160 (by decide) (fun c160 => ?_) (fun c160 => ?_)
            · refine r_lload hX d_Mo_readSize_167 (by first | rfl | assumption) ?_
              refine r_l2i hX d_Mo_readSize_169 ?_
              refine r_iret hX hR d_Mo_readSize_170 rfl (by first | rfl | assumption) ?_
              have h640 : r.1 ≤ 640 := by have h := l_le0.mp c160; rw [htI, show (640 : Int64).toInt = 640 from rfl] at h; omega
              rw [hz]
              exact ⟨_, _, hM, hs, rv_I_but _ _ _, Or.inl ⟨by rw [lN_i], rfl, by dsimp only; omega, fun z => by have := z.2; dsimp only at this; omega⟩⟩
            · refine r_iconst (v := -1) hX d_Mo_readSize_163 (by decide) ?_
              refine r_goto hX 170 d_Mo_readSize_164 (by decide) ?_
              refine r_iret hX hR d_Mo_readSize_170 rfl (by first | rfl | assumption) ?_
              have h640 : 640 < r.1 := by have h := Int.not_le.mp (fun z => c160 (l_le0.mpr z)); rw [htI, show (640 : Int64).toInt = 640 from rfl] at h; omega
              rw [hz]
              exact ⟨_, _, hM, hs, rv_I_but _ _ _, Or.inr ⟨⟨hla, h640⟩, rfl⟩⟩
      · refine r_iconst (v := -1) hX d_Mo_readSize_111 (by decide) ?_
        refine r_iret hX hR d_Mo_readSize_112 rfl (by first | rfl | assumption) ?_
        have hf : vi_full r = true := by
          cases hz : vi_full r with
          | true => rfl
          | false => rw [hz] at c108; exact absurd rfl c108
        have hz : rz1 g la e i p prev = none := by rw [rz1, if_neg hla, hv]; dsimp only; rw [if_pos hf]
        rw [hz]
        exact ⟨_, _, hM, hs, rv_I_but _ _ _, rfl⟩
