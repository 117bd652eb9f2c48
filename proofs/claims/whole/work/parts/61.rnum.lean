/-! ===== the reference: reading numbers ===== -/
theorem wo_sh : ∀ i, i < 9 → 1 ≤ i → ∀ b, b < 256 → b < 2 ^ (9 - i) → (nI b &&& (256 >>> (nI i &&& 31)) = 0 ↔ b / 2 ^ (8 - i) = 0) := by decide +kernel
theorem wo_mk : ∀ L, L < 9 → 1 ≤ L → ∀ b, b < 256 → (nI b &&& (256 >>> (nI L &&& 31) - 1)).toInt64 = lN (b % 2 ^ (8 - L)) := by decide +kernel
theorem b_and1 (b : Int32) : b &&& 1 = 0 ∨ b &&& 1 = 1 := by
  have h : b.toBitVec &&& 1#32 = 0#32 ∨ b.toBitVec &&& 1#32 = 1#32 := by
    rw [BitVec.and_one_eq_setWidth_ofBool_getLsbD]
    cases b.toBitVec.getLsbD 0
    · exact Or.inl rfl
    · exact Or.inr rfl
  rcases h with h | h
  · exact Or.inl (Int32.toBitVec_inj.mp h)
  · exact Or.inr (Int32.toBitVec_inj.mp h)
theorem nI_bv (n : Nat) : (nI n).toBitVec = BitVec.ofNat 32 n := rfl
theorem nI_or8 (x : Nat) {b : Nat} (hb : b < 256) : (nI x <<< ((8 : Int32) &&& 31)) ||| nI b = nI (x * 256 + b) := by
  rw [show ((8 : Int32) &&& 31) = 8 from by decide]
  apply Int32.toBitVec_inj.mp
  rw [Int32.toBitVec_or, Int32.toBitVec_shiftLeft, nI_bv, nI_bv, nI_bv]
  apply BitVec.eq_of_toNat_eq
  rw [BitVec.toNat_or, BitVec.toNat_ofNat, BitVec.toNat_ofNat]
  rw [show (BitVec.ofNat 32 x <<< ((8 : Int32).toBitVec.smod 32)) = BitVec.ofNat 32 x <<< (8 : Nat) from by rw [show ((8 : Int32).toBitVec.smod 32) = (8 : BitVec 32) from by decide]; rfl]
  rw [BitVec.toNat_shiftLeft, BitVec.toNat_ofNat]
  rw [show (x % 2 ^ 32) <<< 8 % 2 ^ 32 = (x % 2 ^ 24) <<< 8 from by rw [Nat.shiftLeft_eq, Nat.shiftLeft_eq]; omega]
  rw [Nat.mod_eq_of_lt (show b < 2 ^ 32 by omega), ← Nat.shiftLeft_add_eq_or_of_lt (show b < 2 ^ 8 by omega), Nat.shiftLeft_eq]
  omega
theorem lN_or8m (x : Nat) {b : Nat} (hb : b < 256) : (lN x <<< ((8 : Int32).toInt64 &&& 63)) ||| (nI b).toInt64 = lN (x * 256 + b) := by
  rw [nI_l (by omega), show ((8 : Int32).toInt64 &&& 63) = 8 from by decide, lN_or8 x hb]
theorem md_256 (a b m : Nat) (hb : b < 256) (hm : 0 < m) : (a % m) * 256 + b = (a * 256 + b) % (m * 256) := by
  have h1 : a * 256 + b = (m * 256) * (a / m) + ((a % m) * 256 + b) := by
    have := Nat.div_add_mod a m
    calc a * 256 + b = (m * (a / m) + a % m) * 256 + b := by rw [this]
      _ = (m * 256) * (a / m) + ((a % m) * 256 + b) := by rw [Nat.add_mul, Nat.mul_right_comm, Nat.add_assoc]
  have h2 := Nat.mod_lt a hm
  have h3 : (a % m) * 256 + b < m * 256 := by omega
  rw [h1, Nat.mul_add_mod, Nat.mod_eq_of_lt h3]
theorem c_Mo_widthOf {G : Ev_G} {w : Ev_W}  (b : Nat) (hb : b < 256) : ev_Met G M_Mo_widthOf 0 0 0 [.int (nI b)] w (fun v w' => v = some (.int (nI (vl b))) ∧ w' = w) := by
  refine ev_Met.of md_Mo_widthOf (Nat.le_of_ble_eq_true rfl) (fun X hX hR => ?_)
  have loop : ∀ (f i : Nat) (ls : Ev_L), i + f = 9 → 1 ≤ i → b < 2 ^ (9 - i) → vl_go b f i = vl b → ls.1 0 = some (.int (nI b)) → ls.1 1 = some (.int (nI i)) → ev_W G M_Mo_widthOf X 0 0 2 ls [] w := by
    intro f
    induction f with
    | zero =>
      intro i ls e1 e0 hb2 e2 l0 l1
      have hi : i = 9 := by omega
      subst hi
      refine q_iload hX 1 d_Mo_widthOf_2 rfl (by first | rfl | assumption) ?_
      refine r_bipush (v := 9) hX d_Mo_widthOf_3 (by decide) ?_
      refine r_icmp_ge hX 24 d_Mo_widthOf_5 (by decide) (fun _ => ?_) (fun c5 => absurd (by decide) c5)
      refine q_iload hX 1 d_Mo_widthOf_24 rfl (by first | rfl | assumption) ?_
      refine r_iret hX hR d_Mo_widthOf_25 rfl (by first | rfl | assumption) ?_
      exact ⟨by rw [← e2]; rfl, rfl⟩
    | succ f ih =>
      intro i ls e1 e0 hb2 e2 l0 l1
      have hsh := wo_sh i (by omega) e0 b hb hb2
      refine q_iload hX 1 d_Mo_widthOf_2 rfl (by first | rfl | assumption) ?_
      refine r_bipush (v := 9) hX d_Mo_widthOf_3 (by decide) ?_
      refine r_icmp_ge hX 24 d_Mo_widthOf_5 (by decide) (fun c5 => absurd c5 (nI_ge (a := i) (b := 9) (by omega) (by decide))) (fun _ => ?_)
      refine q_iload hX 0 d_Mo_widthOf_8 rfl (by first | rfl | assumption) ?_
      refine r_sipush (v := 256) hX d_Mo_widthOf_9 (by decide) ?_
      refine q_iload hX 1 d_Mo_widthOf_12 rfl (by first | rfl | assumption) ?_
      refine r_ishr hX d_Mo_widthOf_13 ?_
      refine r_iand hX d_Mo_widthOf_14 ?_
      refine r_if_ne hX 24 d_Mo_widthOf_15 (by decide) (fun c15 => ?_) (fun c15 => ?_)
      · refine q_iload hX 1 d_Mo_widthOf_24 rfl (by first | rfl | assumption) ?_
        refine r_iret hX hR d_Mo_widthOf_25 rfl (by first | rfl | assumption) ?_
        exact ⟨by rw [← e2, vl_go, if_neg (fun z => c15 (hsh.mpr z))], rfl⟩
      · refine r_iinc hX d_Mo_widthOf_18 (by first | rfl | assumption) ?_
        refine r_goto hX 2 d_Mo_widthOf_21 (by decide) ?_
        have hz := hsh.mp c15
        refine ih (i + 1) _ (by omega) (by omega) ?_ (by rw [← e2, vl_go, if_pos hz]) l0 (by show some (Value.int (nI i + Int32.ofInt 1)) = _; rw [show Int32.ofInt 1 = 1 from rfl, nI_1])
        rw [show 9 - (i + 1) = 8 - i by omega]
        exact (Nat.div_eq_zero_iff_lt (Nat.pow_pos (by decide))).mp hz
  refine r_iconst (v := 1) hX d_Mo_widthOf_0 (by decide) ?_
  refine q_istore hX 1 d_Mo_widthOf_1 rfl (by decide) ?_
  exact loop 8 1 _ rfl (Nat.le_refl _) hb rfl rfl rfl
def rv_I (I : Nat → Int32) (p : Nat) (r : Nat × Nat) : Nat → Int32 := upd (upd (upd I 8 (nI r.2)) 9 (b_i (vi_full r))) 7 (nI (p + r.2))
def rv_c (g : Nat → Nat) (p e : Nat) : Int32 := if p < e ∧ g p = 0 then -3 else -2
def rv_post (w : Ev_W) (I : Nat → Int32) (v0 : Int64) (A : Ev_A) (g : Nat → Nat) (p e : Nat) (v : Option Value) (w' : Ev_W) : Prop := match vi g p e with
  | none => v = some (.int (rv_c g p e)) ∧ ∃ x, is_M w' (upd I 8 x) v0 A ∧ mo_sm w w'
  | some r => v = some (.int 0) ∧ is_M w' (rv_I I p r) (lN r.1) A ∧ mo_sm w w'
theorem c_Mo_readVint {G : Ev_G} {w : Ev_W} {I : Nat → Int32} {v0 : Int64} {A : Ev_A} (hM : is_M w I v0 A) {c : Nat} {g : Nat → Nat} (hg : rd_g c (A.1 132) g) {p : Nat} (hat : I 7 = nI p) {e : Nat} (hec : e ≤ c) (hpc : p ≤ 640) : ev_Met G M_Mo_readVint 1 0 0 [.ref 117, .int (nI e)] w (fun v w' => rv_post w I v0 A g p e v w') := by
  refine ev_Met.of md_Mo_readVint (Nat.le_of_ble_eq_true rfl) (fun X hX hR => ?_)
  have hc := hg.1
  have hs : mo_sm w w := mo_sm.rf
  have loop : p < e → vl (g p) ≤ 8 → p + vl (g p) ≤ e → vi g p e = some (nb g p (vl (g p)) % 2 ^ (7 * vl (g p)), vl (g p)) → ∀ (t k : Nat) (w1 : Ev_W) (ls : Ev_L), k + t = vl (g p) → 1 ≤ k → is_M w1 (upd I 8 (nI (vl (g p)))) (lN (nb g p k % 2 ^ (8 * k - vl (g p)))) A → mo_sm w w1 → ls.1 0 = some (.ref 117) → ls.1 2 = some (.int (nI k)) → ev_W G M_Mo_readVint X 0 0 82 ls [] w1 := by
    intro hpe hL8 hLe hvi t
    have hv1 := vl_1 (g p)
    induction t with
    | zero =>
      intro k w ls e1 hk hM hs l0 l2
      have e1 : k = vl (g p) := e1
      subst e1
      rw [show 8 * vl (g p) - vl (g p) = 7 * vl (g p) by omega] at hM
      have hao := ao_N (vl (g p)) (by omega) hv1
      have hpw : 2 ^ (7 * vl (g p)) ≤ 2 ^ 56 := Nat.pow_le_pow_right (by decide) (by omega)
      have hp0 : 0 < 2 ^ (7 * vl (g p)) := Nat.pow_pos (by decide)
      have hmod := Nat.mod_lt (nb g p (vl (g p))) hp0
      refine q_iload hX 2 d_Mo_readVint_82 rfl (by first | rfl | assumption) ?_
      refine q_aload hX 0 d_Mo_readVint_83 rfl (by first | rfl | assumption) ?_
      refine r_getm (J := 8) (x := nI (vl (g p))) hX d_Mo_readVint_84 fl_Mo_121 hM rfl rfl ?_
      refine r_icmp_ge hX 120 d_Mo_readVint_87 (by decide) (fun _ => ?_) (fun c87 => absurd (nI_le (Nat.le_refl _) (by omega)) c87)
      refine q_aload hX 0 d_Mo_readVint_120 rfl (by first | rfl | assumption) ?_
      refine q_aload hX 0 d_Mo_readVint_121 rfl (by first | rfl | assumption) ?_
      refine r_getf hX d_Mo_readVint_122 fl_Mo_124 hM.1 rfl ?_
      refine r_lconst (v := 1) hX d_Mo_readVint_125 (by decide) ?_
      refine r_bipush (v := 7) hX d_Mo_readVint_126 (by decide) ?_
      refine q_aload hX 0 d_Mo_readVint_128 rfl (by first | rfl | assumption) ?_
      refine r_getm (J := 8) (x := nI (vl (g p))) hX d_Mo_readVint_129 fl_Mo_121 hM rfl rfl ?_
      refine r_imul hX d_Mo_readVint_132 ?_
      refine r_lshl hX d_Mo_readVint_133 ?_
      refine r_lconst (v := 1) hX d_Mo_readVint_134 (by decide) ?_
      refine r_lsub hX d_Mo_readVint_135 ?_
      rw [show ((1 : Int64) <<< ((7 * nI (vl (g p))).toInt64 &&& 63)) - 1 = lN (2 ^ (7 * vl (g p)) - 1) from hao]
      refine r_lcmp hX d_Mo_readVint_136 ?_
      refine r_if_ne hX 144 d_Mo_readVint_137 (by decide) (fun c137 => ?_) (fun c137 => ?_)
      · refine r_iconst (v := 0) hX d_Mo_readVint_144 (by decide) ?_
        refine r_putm (J := 9) hX d_Mo_readVint_145 fp_Mo_128 hM hs rfl rfl (Nat.le_of_ble_eq_true rfl) rfl (fun w hM hs => ?_)
        refine q_aload hX 0 d_Mo_readVint_148 rfl (by first | rfl | assumption) ?_
        refine q_aload hX 0 d_Mo_readVint_149 rfl (by first | rfl | assumption) ?_
        refine r_getm (J := 7) (x := nI p) hX d_Mo_readVint_150 fl_Mo_115 hM hat rfl ?_
        refine q_aload hX 0 d_Mo_readVint_153 rfl (by first | rfl | assumption) ?_
        refine r_getm (J := 8) (x := nI (vl (g p))) hX d_Mo_readVint_154 fl_Mo_121 hM rfl rfl ?_
        refine r_iadd hX d_Mo_readVint_157 ?_
        rw [nI_add]
        refine r_putm (J := 7) hX d_Mo_readVint_158 fp_Mo_115 hM hs rfl rfl (Nat.le_of_ble_eq_true rfl) rfl (fun w hM hs => ?_)
        refine r_iconst (v := 0) hX d_Mo_readVint_161 (by decide) ?_
        refine r_iret hX hR d_Mo_readVint_162 rfl (by first | rfl | assumption) ?_
        unfold rv_post
        rw [hvi]
        refine ⟨rfl, ?_, hs⟩
        rw [rv_I, show vi_full (nb g p (vl (g p)) % 2 ^ (7 * vl (g p)), vl (g p)) = false from decide_eq_false (fun z => c137 (l_eq0.mpr (congrArg lN z)))]
        exact hM
      · refine r_iconst (v := 1) hX d_Mo_readVint_140 (by decide) ?_
        refine r_goto hX 145 d_Mo_readVint_141 (by decide) ?_
        refine r_putm (J := 9) hX d_Mo_readVint_145 fp_Mo_128 hM hs rfl rfl (Nat.le_of_ble_eq_true rfl) rfl (fun w hM hs => ?_)
        refine q_aload hX 0 d_Mo_readVint_148 rfl (by first | rfl | assumption) ?_
        refine q_aload hX 0 d_Mo_readVint_149 rfl (by first | rfl | assumption) ?_
        refine r_getm (J := 7) (x := nI p) hX d_Mo_readVint_150 fl_Mo_115 hM hat rfl ?_
        refine q_aload hX 0 d_Mo_readVint_153 rfl (by first | rfl | assumption) ?_
        refine r_getm (J := 8) (x := nI (vl (g p))) hX d_Mo_readVint_154 fl_Mo_121 hM rfl rfl ?_
        refine r_iadd hX d_Mo_readVint_157 ?_
        rw [nI_add]
        refine r_putm (J := 7) hX d_Mo_readVint_158 fp_Mo_115 hM hs rfl rfl (Nat.le_of_ble_eq_true rfl) rfl (fun w hM hs => ?_)
        refine r_iconst (v := 0) hX d_Mo_readVint_161 (by decide) ?_
        refine r_iret hX hR d_Mo_readVint_162 rfl (by first | rfl | assumption) ?_
        unfold rv_post
        rw [hvi]
        refine ⟨rfl, ?_, hs⟩
        rw [rv_I, show vi_full (nb g p (vl (g p)) % 2 ^ (7 * vl (g p)), vl (g p)) = true from decide_eq_true (ln_inj (a := nb g p (vl (g p)) % 2 ^ (7 * vl (g p))) (b := 2 ^ (7 * vl (g p)) - 1) (by omega) (by omega) (l_eq0.mp c137))]
        exact hM
    | succ t ih =>
      intro k w ls e1 hk hM hs l0 l2
      have hgk := hg.2 (p + k) (by omega)
      refine q_iload hX 2 d_Mo_readVint_82 rfl (by first | rfl | assumption) ?_
      refine q_aload hX 0 d_Mo_readVint_83 rfl (by first | rfl | assumption) ?_
      refine r_getm (J := 8) (x := nI (vl (g p))) hX d_Mo_readVint_84 fl_Mo_121 hM rfl rfl ?_
      refine r_icmp_ge hX 120 d_Mo_readVint_87 (by decide) (fun c87 => absurd c87 (nI_ge (by omega) (by omega))) (fun _ => ?_)
      refine q_aload hX 0 d_Mo_readVint_90 rfl (by first | rfl | assumption) ?_
      refine q_aload hX 0 d_Mo_readVint_91 rfl (by first | rfl | assumption) ?_
      refine r_getf hX d_Mo_readVint_92 fl_Mo_124 hM.1 rfl ?_
      refine r_bipush (v := 8) hX d_Mo_readVint_95 (by decide) ?_
      refine r_lshl hX d_Mo_readVint_97 ?_
      refine q_aload hX 0 d_Mo_readVint_98 rfl (by first | rfl | assumption) ?_
      refine r_getf hX d_Mo_readVint_99 fl_Mo_54 hM.1 rfl ?_
      refine q_aload hX 0 d_Mo_readVint_102 rfl (by first | rfl | assumption) ?_
      refine r_getm (J := 7) (x := nI p) hX d_Mo_readVint_103 fl_Mo_115 hM hat rfl ?_
      refine q_iload hX 2 d_Mo_readVint_106 rfl (by first | rfl | assumption) ?_
      refine r_iadd hX d_Mo_readVint_107 ?_
      refine r_ialdm (c := 132) (x := nI (g (p + k))) hX d_Mo_readVint_108 hM rfl (j := p + k) (by rw [nI_add]) (by omega) hgk.1 ?_
      refine r_i2l hX d_Mo_readVint_109 ?_
      refine r_lor hX d_Mo_readVint_110 ?_
      rw [lN_or8m _ hgk.2, md_256 _ _ _ hgk.2 (Nat.pow_pos (by decide)), show 2 ^ (8 * k - vl (g p)) * 256 = 2 ^ (8 * (k + 1) - vl (g p)) from by rw [show 8 * (k + 1) - vl (g p) = (8 * k - vl (g p)) + 8 by omega, Nat.pow_add]]
      refine r_putv hX d_Mo_readVint_111 fp_Mo_124 hM hs rfl rfl (Nat.le_of_ble_eq_true rfl) rfl (fun w hM hs => ?_)
      refine r_iinc hX d_Mo_readVint_114 (by first | rfl | assumption) ?_
      refine r_goto hX 82 d_Mo_readVint_117 (by decide) ?_
      exact ih (k + 1) w _ (by omega) (by omega) hM hs l0 (by show some (Value.int (nI k + Int32.ofInt 1)) = _; rw [show Int32.ofInt 1 = 1 from rfl, nI_1])
  refine q_aload hX 0 d_Mo_readVint_0 rfl (by first | rfl | assumption) ?_
  refine r_getm (J := 7) (x := nI p) hX d_Mo_readVint_1 fl_Mo_115 hM hat rfl ?_
  refine q_iload hX 1 d_Mo_readVint_4 rfl (by first | rfl | assumption) ?_
  refine r_icmp_lt hX 11 d_Mo_readVint_5 (by decide) (fun c5 => ?_) (fun c5 => ?_)
  · have hpe : p < e := (nI_ltI (by omega) (by omega)).mp c5
    have hgp := (hg.2 p (by omega)).2
    have hv1 := vl_1 (g p)
    have hv9 := vl_9 (g p)
    refine q_aload hX 0 d_Mo_readVint_11 rfl (by first | rfl | assumption) ?_
    refine q_aload hX 0 d_Mo_readVint_12 rfl (by first | rfl | assumption) ?_
    refine r_getf hX d_Mo_readVint_13 fl_Mo_54 hM.1 rfl ?_
    refine q_aload hX 0 d_Mo_readVint_16 rfl (by first | rfl | assumption) ?_
    refine r_getm (J := 7) (x := nI p) hX d_Mo_readVint_17 fl_Mo_115 hM hat rfl ?_
    refine r_ialdm (c := 132) (x := nI (g p)) hX d_Mo_readVint_20 hM rfl rfl (by omega) (hg.2 p (by omega)).1 ?_
    refine r_callS (as := [_]) hX d_Mo_readVint_21 lk_Mo_118 rfl (Nat.le_of_ble_eq_true rfl) (by decide) 0 0 (Nat.le_refl _) (Nat.le_refl _) (c_Mo_widthOf (G := G) (g p) (hg.2 p (by omega)).2) (fun v w1 hq => ?_)
    obtain ⟨rfl, hw⟩ := hq
    rw [hw]
    refine r_putm (J := 8) hX d_Mo_readVint_24 fp_Mo_121 hM hs rfl rfl (Nat.le_of_ble_eq_true rfl) rfl (fun w hM hs => ?_)
    refine q_aload hX 0 d_Mo_readVint_27 rfl (by first | rfl | assumption) ?_
    refine r_getm (J := 8) (x := nI (vl (g p))) hX d_Mo_readVint_28 fl_Mo_121 hM rfl rfl ?_
    refine r_bipush (v := 9) hX d_Mo_readVint_31 (by decide) ?_
    refine r_icmp_ne hX 39 d_Mo_readVint_33 (by decide) (fun c33 => ?_) (fun c33 => ?_)
    · refine q_aload hX 0 d_Mo_readVint_39 rfl (by first | rfl | assumption) ?_
      refine r_getm (J := 7) (x := nI p) hX d_Mo_readVint_40 fl_Mo_115 hM hat rfl ?_
      refine q_aload hX 0 d_Mo_readVint_43 rfl (by first | rfl | assumption) ?_
      refine r_getm (J := 8) (x := nI (vl (g p))) hX d_Mo_readVint_44 fl_Mo_121 hM rfl rfl ?_
      refine r_iadd hX d_Mo_readVint_47 ?_
      rw [nI_add]
      refine q_iload hX 1 d_Mo_readVint_48 rfl (by first | rfl | assumption) ?_
      refine r_icmp_le hX 55 d_Mo_readVint_49 (by decide) (fun c49 => ?_) (fun c49 => ?_)
      · have hL8 : vl (g p) ≤ 8 := by
          have : vl (g p) ≠ 9 := fun z => c33 (by rw [z]; rfl)
          omega
        have hLe : p + vl (g p) ≤ e := (nI_leI (by omega) (by omega)).mp c49
        have hvi : vi g p e = some (nb g p (vl (g p)) % 2 ^ (7 * vl (g p)), vl (g p)) := by rw [vi, if_pos ⟨hpe, hL8, hLe⟩]
        refine q_aload hX 0 d_Mo_readVint_55 rfl (by first | rfl | assumption) ?_
        refine q_aload hX 0 d_Mo_readVint_56 rfl (by first | rfl | assumption) ?_
        refine r_getf hX d_Mo_readVint_57 fl_Mo_54 hM.1 rfl ?_
        refine q_aload hX 0 d_Mo_readVint_60 rfl (by first | rfl | assumption) ?_
        refine r_getm (J := 7) (x := nI p) hX d_Mo_readVint_61 fl_Mo_115 hM hat rfl ?_
        refine r_ialdm (c := 132) (x := nI (g p)) hX d_Mo_readVint_64 hM rfl rfl (by omega) (hg.2 p (by omega)).1 ?_
        refine r_sipush (v := 256) hX d_Mo_readVint_65 (by decide) ?_
        refine q_aload hX 0 d_Mo_readVint_68 rfl (by first | rfl | assumption) ?_
        refine r_getm (J := 8) (x := nI (vl (g p))) hX d_Mo_readVint_69 fl_Mo_121 hM rfl rfl ?_
        refine r_ishr hX d_Mo_readVint_72 ?_
        refine r_iconst (v := 1) hX d_Mo_readVint_73 (by decide) ?_
        refine r_isub hX d_Mo_readVint_74 ?_
        refine r_iand hX d_Mo_readVint_75 ?_
        refine r_i2l hX d_Mo_readVint_76 ?_
        rw [wo_mk _ (by omega) hv1 _ hgp]
        refine r_putv hX d_Mo_readVint_77 fp_Mo_124 hM hs rfl rfl (Nat.le_of_ble_eq_true rfl) rfl (fun w hM hs => ?_)
        refine r_iconst (v := 1) hX d_Mo_readVint_80 (by decide) ?_
        refine q_istore hX 2 d_Mo_readVint_81 rfl (by decide) ?_
        exact loop hpe hL8 hLe hvi (vl (g p) - 1) 1 _ _ (by omega) (Nat.le_refl _) (by rw [show 8 * 1 - vl (g p) = 8 - vl (g p) by omega, show nb g p 1 = g p from (by show 0 * 256 + g (p + 0) = g p; rw [Nat.zero_mul, Nat.zero_add, Nat.add_zero])]; exact hM) hs rfl rfl
      · refine r_bipush (v := -2) hX d_Mo_readVint_52 (by decide) ?_
        refine r_iret hX hR d_Mo_readVint_54 rfl (by first | rfl | assumption) ?_
        have hvi : vi g p e = none := by rw [vi, if_neg (fun z => by have := z.2.2; exact absurd (nI_le this (by omega)) c49)]
        unfold rv_post
        rw [hvi]
        exact ⟨by rw [rv_c, if_neg (fun z => by have := (vl_z _ hgp).mpr z.2; exact c33 (by rw [this]; rfl))], _, hM, hs⟩
    · refine r_bipush (v := -3) hX d_Mo_readVint_36 (by decide) ?_
      refine r_iret hX hR d_Mo_readVint_38 rfl (by first | rfl | assumption) ?_
      have hvi : vi g p e = none := by rw [vi, if_neg (fun z => by have h9 := (nI_eq (b := 9) (by omega) (by decide)).mp c33; omega)]
      unfold rv_post
      rw [hvi]
      exact ⟨by rw [rv_c, if_pos ⟨hpe, (vl_z _ hgp).mp ((nI_eq (b := 9) (by omega) (by decide)).mp c33)⟩], _, hM, hs⟩
  · refine r_bipush (v := -2) hX d_Mo_readVint_8 (by decide) ?_
    refine r_iret hX hR d_Mo_readVint_10 rfl (by first | rfl | assumption) ?_
    have hvi : vi g p e = none := by rw [vi, if_neg (fun z => by exact c5 (nI_lt z.1 (by omega)))]
    unfold rv_post
    rw [hvi]
    exact ⟨by rw [rv_c, if_neg (fun z => c5 (nI_lt z.1 (by omega)))], I 8, by rw [upd_id rfl]; exact hM, hs⟩
theorem c_Mo_readId {G : Ev_G} {w : Ev_W} {I : Nat → Int32} {v0 : Int64} {A : Ev_A} (hM : is_M w I v0 A) {c : Nat} {g : Nat → Nat} (hg : rd_g c (A.1 132) g) {p : Nat} (hat : I 7 = nI p) {e : Nat} (hec : e ≤ c) (hp : p < c) : ev_Met G M_Mo_readId 1 0 0 [.ref 117, .int (nI e)] w (fun v w' => (g p < 16 ∧ v = some (.int (-3)) ∧ w' = w) ∨ (¬ g p < 16 ∧ ¬ p + vl (g p) ≤ e ∧ v = some (.int (-2)) ∧ w' = w) ∨ (¬ g p < 16 ∧ p + vl (g p) ≤ e ∧ v = some (.int (nI (nb g p (vl (g p))))) ∧ is_M w' (upd I 7 (nI (p + vl (g p)))) v0 A ∧ mo_sm w w')) := by
  refine ev_Met.of md_Mo_readId (Nat.le_of_ble_eq_true rfl) (fun X hX hR => ?_)
  have hc := hg.1
  have hgp := (hg.2 p hp).2
  have hv9 := vl_9 (g p)
  have hs : mo_sm w w := mo_sm.rf
  have loop : ¬ g p < 16 → p + vl (g p) ≤ e → ∀ (t k : Nat) (ls : Ev_L), k + t = vl (g p) → ls.1 0 = some (.ref 117) → ls.1 1 = some (.int (nI e)) → ls.1 2 = some (.int (nI (vl (g p)))) → ls.1 3 = some (.int (nI (nb g p k))) → ls.1 4 = some (.int (nI k)) → ev_W G M_Mo_readId X 0 0 48 ls [] w := by
    intro h16 hpe t
    induction t with
    | zero =>
      intro k ls e1 l0 l1 l2 l3 l4
      have e1 : k = vl (g p) := e1
      subst e1
      refine r_iload hX d_Mo_readId_48 (by first | rfl | assumption) ?_
      refine q_iload hX 2 d_Mo_readId_50 rfl (by first | rfl | assumption) ?_
      refine r_icmp_ge hX 78 d_Mo_readId_51 (by decide) (fun _ => ?_) (fun c51 => absurd (nI_le (Nat.le_refl _) (by omega)) c51)
      refine q_aload hX 0 d_Mo_readId_78 rfl (by first | rfl | assumption) ?_
      refine q_aload hX 0 d_Mo_readId_79 rfl (by first | rfl | assumption) ?_
      refine r_getm (J := 7) (x := nI p) hX d_Mo_readId_80 fl_Mo_115 hM hat rfl ?_
      refine q_iload hX 2 d_Mo_readId_83 rfl (by first | rfl | assumption) ?_
      refine r_iadd hX d_Mo_readId_84 ?_
      rw [nI_add]
      refine r_putm (J := 7) hX d_Mo_readId_85 fp_Mo_115 hM hs rfl rfl (Nat.le_of_ble_eq_true rfl) rfl (fun w hM hs => ?_)
      refine q_iload hX 3 d_Mo_readId_88 rfl (by first | rfl | assumption) ?_
      refine r_iret hX hR d_Mo_readId_89 rfl (by first | rfl | assumption) ?_
      exact Or.inr (Or.inr ⟨h16, hpe, rfl, hM, hs⟩)
    | succ t ih =>
      intro k ls e1 l0 l1 l2 l3 l4
      have hgk := hg.2 (p + k) (by omega)
      refine r_iload hX d_Mo_readId_48 (by first | rfl | assumption) ?_
      refine q_iload hX 2 d_Mo_readId_50 rfl (by first | rfl | assumption) ?_
      refine r_icmp_ge hX 78 d_Mo_readId_51 (by decide) (fun c51 => absurd c51 (nI_ge (by omega) (by omega))) (fun _ => ?_)
      refine q_iload hX 3 d_Mo_readId_54 rfl (by first | rfl | assumption) ?_
      refine r_bipush (v := 8) hX d_Mo_readId_55 (by decide) ?_
      refine r_ishl hX d_Mo_readId_57 ?_
      refine q_aload hX 0 d_Mo_readId_58 rfl (by first | rfl | assumption) ?_
      refine r_getf hX d_Mo_readId_59 fl_Mo_54 hM.1 rfl ?_
      refine q_aload hX 0 d_Mo_readId_62 rfl (by first | rfl | assumption) ?_
      refine r_getm (J := 7) (x := nI p) hX d_Mo_readId_63 fl_Mo_115 hM hat rfl ?_
      refine r_iload hX d_Mo_readId_66 (by first | rfl | assumption) ?_
      refine r_iadd hX d_Mo_readId_68 ?_
      refine r_ialdm (c := 132) (x := nI (g (p + k))) hX d_Mo_readId_69 hM rfl (j := p + k) (by rw [nI_add]) (by omega) hgk.1 ?_
      refine r_ior hX d_Mo_readId_70 ?_
      rw [nI_or8 _ hgk.2]
      refine q_istore hX 3 d_Mo_readId_71 rfl (by decide) ?_
      refine r_iinc hX d_Mo_readId_72 (by first | rfl | assumption) ?_
      refine r_goto hX 48 d_Mo_readId_75 (by decide) ?_
      exact ih (k + 1) _ (by omega) l0 l1 l2 rfl (by show some (Value.int (nI k + Int32.ofInt 1)) = _; rw [show Int32.ofInt 1 = 1 from rfl, nI_1])
  refine q_aload hX 0 d_Mo_readId_0 rfl (by first | rfl | assumption) ?_
  refine r_getf hX d_Mo_readId_1 fl_Mo_54 hM.1 rfl ?_
  refine q_aload hX 0 d_Mo_readId_4 rfl (by first | rfl | assumption) ?_
  refine r_getm (J := 7) (x := nI p) hX d_Mo_readId_5 fl_Mo_115 hM hat rfl ?_
  refine r_ialdm (c := 132) (x := nI (g p)) hX d_Mo_readId_8 hM rfl rfl (by omega) (hg.2 p hp).1 ?_
  refine r_bipush (v := 16) hX d_Mo_readId_9 (by decide) ?_
  refine r_icmp_ge hX 17 d_Mo_readId_11 (by decide) (fun c11 => ?_) (fun c11 => ?_)
  · refine q_aload hX 0 d_Mo_readId_17 rfl (by first | rfl | assumption) ?_
    refine r_getf hX d_Mo_readId_18 fl_Mo_54 hM.1 rfl ?_
    refine q_aload hX 0 d_Mo_readId_21 rfl (by first | rfl | assumption) ?_
    refine r_getm (J := 7) (x := nI p) hX d_Mo_readId_22 fl_Mo_115 hM hat rfl ?_
    refine r_ialdm (c := 132) (x := nI (g p)) hX d_Mo_readId_25 hM rfl rfl (by omega) (hg.2 p hp).1 ?_
    refine r_callS (as := [_]) hX d_Mo_readId_26 lk_Mo_118 rfl (Nat.le_of_ble_eq_true rfl) (by decide) 0 0 (Nat.le_refl _) (Nat.le_refl _) (c_Mo_widthOf (G := G) (g p) (hg.2 p (by omega)).2) (fun v w1 hq => ?_)
    obtain ⟨rfl, hw⟩ := hq
    rw [hw]
    refine q_istore hX 2 d_Mo_readId_29 rfl (by decide) ?_
    refine q_aload hX 0 d_Mo_readId_30 rfl (by first | rfl | assumption) ?_
    refine r_getm (J := 7) (x := nI p) hX d_Mo_readId_31 fl_Mo_115 hM hat rfl ?_
    refine q_iload hX 2 d_Mo_readId_34 rfl (by first | rfl | assumption) ?_
    refine r_iadd hX d_Mo_readId_35 ?_
    rw [nI_add]
    refine q_iload hX 1 d_Mo_readId_36 rfl (by first | rfl | assumption) ?_
    refine r_icmp_le hX 43 d_Mo_readId_37 (by decide) (fun c37 => ?_) (fun c37 => ?_)
    · refine r_iconst (v := 0) hX d_Mo_readId_43 (by decide) ?_
      refine q_istore hX 3 d_Mo_readId_44 rfl (by decide) ?_
      refine r_iconst (v := 0) hX d_Mo_readId_45 (by decide) ?_
      refine r_istore hX d_Mo_readId_46 (by decide) ?_
      exact loop (fun z => absurd ((nI_leI (a := 16) (by decide) (by omega)).mp c11) (by omega)) ((nI_leI (by omega) (by omega)).mp c37) (vl (g p)) 0 _ (by omega) rfl rfl rfl rfl rfl
    · refine r_bipush (v := -2) hX d_Mo_readId_40 (by decide) ?_
      refine r_iret hX hR d_Mo_readId_42 rfl (by first | rfl | assumption) ?_
      exact Or.inr (Or.inl ⟨fun z => absurd ((nI_leI (a := 16) (by decide) (by omega)).mp c11) (by omega), fun z => c37 (nI_le z (by omega)), rfl, rfl⟩)
  · refine r_bipush (v := -3) hX d_Mo_readId_14 (by decide) ?_
    refine r_iret hX hR d_Mo_readId_16 rfl (by first | rfl | assumption) ?_
    exact Or.inl ⟨Nat.lt_of_not_le (fun z => c11 (nI_le (a := 16) z (by omega))), rfl, rfl⟩
theorem c_Mo_crcStep {G : Ev_G} {w : Ev_W}  (h b : Int32) : ev_Met G M_Mo_crcStep 0 0 0 [.int h, .int b] w (fun v w' => v = some (.int (cr_8 8 (h ^^^ b))) ∧ w' = w) := by
  refine ev_Met.of md_Mo_crcStep (Nat.le_of_ble_eq_true rfl) (fun X hX hR => ?_)
  have loop : ∀ (t k : Nat) (ls : Ev_L) (y : Int32), k + t = 8 → cr_8 t y = cr_8 8 (h ^^^ b) → ls.1 2 = some (.int y) → ls.1 3 = some (.int (nI k)) → ev_W G M_Mo_crcStep X 0 0 6 ls [] w := by
    intro t
    induction t with
    | zero =>
      intro k ls y e1 e2 l2 l3
      have e1 : k = 8 := e1
      subst e1
      refine q_iload hX 3 d_Mo_crcStep_6 rfl (by first | rfl | assumption) ?_
      refine r_bipush (v := 8) hX d_Mo_crcStep_7 (by decide) ?_
      refine r_icmp_ge hX 42 d_Mo_crcStep_9 (by decide) (fun _ => ?_) (fun c9 => absurd (by decide) c9)
      refine q_iload hX 2 d_Mo_crcStep_42 rfl (by first | rfl | assumption) ?_
      refine r_iret hX hR d_Mo_crcStep_43 rfl (by first | rfl | assumption) ?_
      exact ⟨by rw [← e2]; rfl, rfl⟩
    | succ t ih =>
      intro k ls y e1 e2 l2 l3
      refine q_iload hX 3 d_Mo_crcStep_6 rfl (by first | rfl | assumption) ?_
      refine r_bipush (v := 8) hX d_Mo_crcStep_7 (by decide) ?_
      refine r_icmp_ge hX 42 d_Mo_crcStep_9 (by decide) (fun c9 => absurd c9 (nI_ge (a := k) (b := 8) (by omega) (by decide))) (fun _ => ?_)
      refine q_iload hX 2 d_Mo_crcStep_12 rfl (by first | rfl | assumption) ?_
      refine r_iconst (v := 1) hX d_Mo_crcStep_13 (by decide) ?_
      refine r_iand hX d_Mo_crcStep_14 ?_
      refine r_istore hX d_Mo_crcStep_15 (by decide) ?_
      refine q_iload hX 2 d_Mo_crcStep_17 rfl (by first | rfl | assumption) ?_
      refine r_iconst (v := 1) hX d_Mo_crcStep_18 (by decide) ?_
      refine r_iushr hX d_Mo_crcStep_19 ?_
      refine q_istore hX 2 d_Mo_crcStep_20 rfl (by decide) ?_
      refine r_iload hX d_Mo_crcStep_21 (by first | rfl | assumption) ?_
      refine r_iconst (v := 1) hX d_Mo_crcStep_23 (by decide) ?_
      refine r_icmp_ne hX 34 d_Mo_crcStep_24 (by decide) (fun c24 => ?_) (fun c24 => ?_)
      · refine q_iload hX 2 d_Mo_crcStep_34 rfl (by first | rfl | assumption) ?_
        refine q_istore hX 2 d_Mo_crcStep_35 rfl (by decide) ?_
        refine r_iinc hX d_Mo_crcStep_36 (by first | rfl | assumption) ?_
        refine r_goto hX 6 d_Mo_crcStep_39 (by decide) ?_
        exact ih (k + 1) _ (cr_u y) (by omega) (by rw [← e2, cr_8, cr_t, if_pos (by rcases b_and1 y with z | z; exact z; exact absurd z c24)]) rfl (by show some (Value.int (nI k + Int32.ofInt 1)) = _; rw [show Int32.ofInt 1 = 1 from rfl, nI_1])
      · refine q_iload hX 2 d_Mo_crcStep_27 rfl (by first | rfl | assumption) ?_
        refine r_ldc hX d_Mo_crcStep_28 m_725 ?_
        refine r_ixor hX d_Mo_crcStep_30 ?_
        refine r_goto hX 35 d_Mo_crcStep_31 (by decide) ?_
        refine q_istore hX 2 d_Mo_crcStep_35 rfl (by decide) ?_
        refine r_iinc hX d_Mo_crcStep_36 (by first | rfl | assumption) ?_
        refine r_goto hX 6 d_Mo_crcStep_39 (by decide) ?_
        exact ih (k + 1) _ (cr_u y ^^^ -306674912) (by omega) (by rw [← e2, cr_8, cr_t, if_neg (by rw [c24]; decide)]) rfl (by show some (Value.int (nI k + Int32.ofInt 1)) = _; rw [show Int32.ofInt 1 = 1 from rfl, nI_1])
  refine q_iload hX 0 d_Mo_crcStep_0 rfl (by first | rfl | assumption) ?_
  refine q_iload hX 1 d_Mo_crcStep_1 rfl (by first | rfl | assumption) ?_
  refine r_ixor hX d_Mo_crcStep_2 ?_
  refine q_istore hX 2 d_Mo_crcStep_3 rfl (by decide) ?_
  refine r_iconst (v := 0) hX d_Mo_crcStep_4 (by decide) ?_
  refine q_istore hX 3 d_Mo_crcStep_5 rfl (by decide) ?_
  exact loop 8 0 _ (h ^^^ b) rfl rfl rfl rfl
