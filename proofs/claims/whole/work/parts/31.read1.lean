/-! ===== Reader: bytes, numbers, vints ===== -/
def vl_go (b : Nat) : Nat → Nat → Nat
  | 0, i => i
  | f + 1, i => if b / 2 ^ (8 - i) = 0 then vl_go b f (i + 1) else i
def vl (b : Nat) : Nat := vl_go b 8 1
theorem vl_go_ge (b : Nat) : ∀ f i, i ≤ vl_go b f i
  | 0, i => Nat.le_refl _
  | f + 1, i => by unfold vl_go; have := vl_go_ge b f (i + 1); split <;> omega
theorem vl_go_le (b : Nat) : ∀ f i, vl_go b f i ≤ i + f
  | 0, i => Nat.le_refl _
  | f + 1, i => by unfold vl_go; have := vl_go_le b f (i + 1); split <;> omega
theorem vl_1 (b : Nat) : 1 ≤ vl b := vl_go_ge b 8 1
theorem vl_9 (b : Nat) : vl b ≤ 9 := vl_go_le b 8 1
theorem vl_sh : ∀ i, i < 9 → 1 ≤ i → ∀ b, b < 256 → (nI b >>> ((8 - nI i) &&& 31) = 0 ↔ b / 2 ^ (8 - i) = 0) := by decide +kernel
theorem vl_z : ∀ b, b < 256 → (vl b = 9 ↔ b = 0) := by decide +kernel
theorem vl_16 : ∀ b, b < 256 → (¬ b < 16 ↔ vl b ≤ 4) := by decide +kernel
theorem c_EF_vintLengthByFirst {G : Ev_G} {w : Ev_W} (b : Nat) (hb : b < 256) : ev_Met G M_EF_vintLengthByFirst 0 0 0 [.int (nI b)] w (fun v w' => v = some (.int (nI (vl b))) ∧ w' = w) := by
  refine ev_Met.of md_EF_vintLengthByFirst (Nat.le_of_ble_eq_true rfl) (fun X hX hR => ?_)
  have loop : ∀ (f i : Nat) (ls : Ev_L), i + f = 9 → 1 ≤ i → vl_go b f i = vl b → ls.1 0 = some (.int (nI b)) → ls.1 1 = some (.int (nI i)) → ev_W G M_EF_vintLengthByFirst X 0 0 2 ls [] w := by
    intro f
    induction f with
    | zero =>
      intro i ls e1 e0 e2 l0 l1
      have hi : i = 9 := by omega
      subst hi
      refine q_iload hX 1 d_EF_vintLengthByFirst_2 rfl (by first | rfl | assumption) ?_
      refine r_bipush (v := 9) hX d_EF_vintLengthByFirst_3 (by decide) ?_
      refine r_icmp_ge hX 23 d_EF_vintLengthByFirst_5 (by decide) (fun _ => ?_) (fun c5 => absurd (by decide) c5)
      refine q_iload hX 1 d_EF_vintLengthByFirst_23 rfl (by first | rfl | assumption) ?_
      refine r_iret hX hR d_EF_vintLengthByFirst_24 rfl (by first | rfl | assumption) ?_
      exact ⟨by rw [← e2]; rfl, rfl⟩
    | succ f ih =>
      intro i ls e1 e0 e2 l0 l1
      have hsh := vl_sh i (by omega) e0 b hb
      refine q_iload hX 1 d_EF_vintLengthByFirst_2 rfl (by first | rfl | assumption) ?_
      refine r_bipush (v := 9) hX d_EF_vintLengthByFirst_3 (by decide) ?_
      refine r_icmp_ge hX 23 d_EF_vintLengthByFirst_5 (by decide) (fun c5 => absurd c5 (nI_ge (a := i) (b := 9) (by omega) (by decide))) (fun _ => ?_)
      refine q_iload hX 0 d_EF_vintLengthByFirst_8 rfl (by first | rfl | assumption) ?_
      refine r_bipush (v := 8) hX d_EF_vintLengthByFirst_9 (by decide) ?_
      refine q_iload hX 1 d_EF_vintLengthByFirst_11 rfl (by first | rfl | assumption) ?_
      refine r_isub hX d_EF_vintLengthByFirst_12 ?_
      refine r_ishr hX d_EF_vintLengthByFirst_13 ?_
      refine r_if_ne hX 23 d_EF_vintLengthByFirst_14 (by decide) (fun c14 => ?_) (fun c14 => ?_)
      · refine q_iload hX 1 d_EF_vintLengthByFirst_23 rfl (by first | rfl | assumption) ?_
        refine r_iret hX hR d_EF_vintLengthByFirst_24 rfl (by first | rfl | assumption) ?_
        exact ⟨by rw [← e2, vl_go, if_neg (fun z => c14 (hsh.mpr z))], rfl⟩
      · refine r_iinc hX d_EF_vintLengthByFirst_17 (by first | rfl | assumption) ?_
        refine r_goto hX 2 d_EF_vintLengthByFirst_20 (by decide) ?_
        exact ih (i + 1) _ (by omega) (by omega) (by rw [← e2, vl_go, if_pos (hsh.mp c14)]) l0 (by show some (Value.int (nI i + Int32.ofInt 1)) = _; rw [show Int32.ofInt 1 = 1 from rfl, nI_1])
  refine r_iconst (v := 1) hX d_EF_vintLengthByFirst_0 (by decide) ?_
  refine q_istore hX 1 d_EF_vintLengthByFirst_1 rfl (by decide) ?_
  exact loop 8 1 _ rfl (Nat.le_refl _) rfl rfl rfl
/-- the bytes that were fed -/
def rd_g (c : Nat) (f : Nat → Int32) (g : Nat → Nat) : Prop := c ≤ 640 ∧ ∀ i, i < c → f i = nI (g i) ∧ g i < 256
theorem rd_at {c : Nat} {f : Nat → Int32} {g : Nat → Nat} (h : rd_g c f g) {i : Nat} (hi : i < c) : ro_at 640 f c (nI i) = nI (g i) := by
  have := h.1
  rw [ro_at, nI_toInt (by omega), nI_clamp (by omega), if_pos (by omega), (h.2 i hi).1]
theorem nI_b {b : Nat} (h : b < 256) : nI b &&& 255 = nI b := by
  have : ∀ b, b < 256 → nI b &&& 255 = nI b := by decide +kernel
  exact this b h
theorem ln_bv (n : Nat) : (lN n).toBitVec = BitVec.ofNat 64 n := rfl
theorem ln_inj {a b : Nat} (ha : a < 2 ^ 64) (hb : b < 2 ^ 64) (h : lN a = lN b) : a = b := by
  have h1 : (lN a).toBitVec.toNat = (lN b).toBitVec.toNat := by rw [h]
  rw [ln_bv, ln_bv, BitVec.toNat_ofNat, BitVec.toNat_ofNat, Nat.mod_eq_of_lt ha, Nat.mod_eq_of_lt hb] at h1
  exact h1
theorem nI_sb {a b : Nat} (h : b ≤ a) : nI a - nI b = nI (a - b) := by
  have h1 : nI a = nI (a - b) + nI b := by rw [nI_add, Nat.sub_add_cancel h]
  rw [h1, Int32.add_sub_cancel]
def nb (g : Nat → Nat) (p : Nat) : Nat → Nat
  | 0 => 0
  | k + 1 => nb g p k * 256 + g (p + k)
theorem lN_or8 (x : Nat) {b : Nat} (hb : b < 256) : (lN x <<< (8 : Int64)) ||| lN b = lN (x * 256 + b) := by
  apply Int64.toBitVec_inj.mp
  rw [Int64.toBitVec_or, Int64.toBitVec_shiftLeft, ln_bv, ln_bv, ln_bv]
  apply BitVec.eq_of_toNat_eq
  rw [BitVec.toNat_or, BitVec.toNat_ofNat, BitVec.toNat_ofNat]
  rw [show (BitVec.ofNat 64 x <<< ((8 : Int64).toBitVec.smod 64)) = BitVec.ofNat 64 x <<< (8 : Nat) from by rw [show ((8 : Int64).toBitVec.smod 64) = (8 : BitVec 64) from by decide]; rfl]
  rw [BitVec.toNat_shiftLeft, BitVec.toNat_ofNat]
  rw [show (x % 2 ^ 64) <<< 8 % 2 ^ 64 = (x % 2 ^ 56) <<< 8 from by rw [Nat.shiftLeft_eq, Nat.shiftLeft_eq]; omega]
  rw [Nat.mod_eq_of_lt (show b < 2 ^ 64 by omega), ← Nat.shiftLeft_add_eq_or_of_lt (show b < 2 ^ 8 by omega), Nat.shiftLeft_eq]
  omega
theorem lN_sh8 (x : Nat) {b : Nat} (hb : b < 256) : (lN x <<< ((8 : Int32).toInt64 &&& 63)) ||| (nI b &&& 255).toInt64 = lN (x * 256 + b) := by
  rw [nI_b hb, nI_l (by omega), show ((8 : Int32).toInt64 &&& 63) = 8 from by decide, lN_or8 x hb]
theorem lN_and (a : Nat) {k : Nat} (hk : k ≤ 56) : lN a &&& lN (2 ^ k - 1) = lN (a % 2 ^ k) := by
  apply Int64.toBitVec_inj.mp
  rw [Int64.toBitVec_and, ln_bv, ln_bv, ln_bv]
  apply BitVec.eq_of_toNat_eq
  have h1 : 2 ^ k ≤ 2 ^ 56 := Nat.pow_le_pow_right (by decide) hk
  have h2 : 0 < 2 ^ k := Nat.pow_pos (by decide)
  rw [BitVec.toNat_and, BitVec.toNat_ofNat, BitVec.toNat_ofNat, BitVec.toNat_ofNat, Nat.mod_eq_of_lt (show 2 ^ k - 1 < 2 ^ 64 by omega), Nat.and_two_pow_sub_one_eq_mod, Nat.mod_mod_of_dvd _ (Nat.pow_dvd_pow 2 (show k ≤ 64 by omega))]
  have h3 := Nat.mod_lt a h2
  rw [Nat.mod_eq_of_lt (show a % 2 ^ k < 2 ^ 64 by omega)]
theorem ao_N : ∀ L, L < 9 → 1 ≤ L → ef_allOnes (nI L) = lN (2 ^ (7 * L) - 1) := by decide +kernel
theorem su_N : ∀ L, L < 9 → 1 ≤ L → ef_surplus (nI L) = lN (2 ^ (7 * L - 1) - 1) := by decide +kernel
theorem c_Re_nextByte {G : Ev_G} {w : Ev_W} {c : Nat} {f : Nat → Int32} (hin : is_Ro w 101 102 640 c f) {g : Nat → Nat} (hg : rd_g c f g) {fp tg vf vL : Int32} {ms : Option Nat} {p e : Nat} (hre : is_Re w fp ms (nI p) (nI e) tg vf vL) (hec : e ≤ c) (hpc : p ≤ c) : ev_Met G M_Re_nextByte 1 0 0 [.ref 112] w (fun v w' => if p < e then v = some (.int (nI (g p))) ∧ is_Re w' fp ms (nI (p + 1)) (nI e) tg vf vL ∧ ev_sm w w' [112] else v = some (.int (-1)) ∧ w' = w) := by
  have hc := hg.1
  unfold is_Re at hre
  refine ev_Met.of md_Re_nextByte (Nat.le_of_ble_eq_true rfl) (fun X hX hR => ?_)
  refine q_aload hX 0 d_Re_nextByte_0 rfl (by first | rfl | assumption) ?_
  refine r_getf hX d_Re_nextByte_1 fl_Re_32 hre rfl ?_
  refine q_aload hX 0 d_Re_nextByte_4 rfl (by first | rfl | assumption) ?_
  refine r_getf hX d_Re_nextByte_5 fl_Re_57 hre rfl ?_
  refine r_icmp_lt hX 13 d_Re_nextByte_8 (by decide) (fun c8 => ?_) (fun c8 => ?_)
  · have hpe : p < e := (nI_ltI (by omega) (by omega)).mp c8
    refine q_aload hX 0 d_Re_nextByte_13 rfl (by first | rfl | assumption) ?_
    refine r_getf hX d_Re_nextByte_14 fl_Re_15 hre rfl ?_
    refine q_aload hX 0 d_Re_nextByte_17 rfl (by first | rfl | assumption) ?_
    refine r_getf hX d_Re_nextByte_18 fl_Re_32 hre rfl ?_
    refine r_callV (as := [_]) hX d_Re_nextByte_21 lk_Re_58 hin.1 rfl rfl (Nat.le_of_ble_eq_true rfl) (by decide) 0 0 (Nat.le_refl _) (Nat.le_refl _) (c_Ro_at (G := G) hin (by omega) (by decide) (nI p)) (fun v w1 hq => ?_)
    obtain ⟨rfl, hw⟩ := hq
    rw [hw, rd_at hg (by omega)]
    refine q_istore hX 1 d_Re_nextByte_24 rfl (by decide) ?_
    refine q_aload hX 0 d_Re_nextByte_25 rfl (by first | rfl | assumption) ?_
    refine r_dup hX d_Re_nextByte_26 rfl ?_
    refine r_getf hX d_Re_nextByte_27 fl_Re_32 hre rfl ?_
    refine r_iconst (v := 1) hX d_Re_nextByte_30 (by decide) ?_
    refine r_iadd hX d_Re_nextByte_31 ?_
    refine r_putf hX d_Re_nextByte_32 fp_Re_32 hre (by first | assumption | decide | omega) rfl rfl (Nat.le_of_ble_eq_true rfl) ?_
    refine q_iload hX 1 d_Re_nextByte_35 rfl (by first | rfl | assumption) ?_
    refine r_iret hX hR d_Re_nextByte_36 rfl (by first | rfl | assumption) ?_
    rw [if_pos hpe]
    exact ⟨rfl, by rw [is_Re, ← nI_1]; exact ev_set_self _ _ _, ev_sm.s1 (by simp)⟩
  · refine r_iconst (v := -1) hX d_Re_nextByte_11 (by decide) ?_
    refine r_iret hX hR d_Re_nextByte_12 rfl (by first | rfl | assumption) ?_
    rw [if_neg (fun z => c8 (nI_lt z (by omega)))]
    exact ⟨rfl, rfl⟩
theorem c_Re_nextNumber {G : Ev_G} {w : Ev_W} {c : Nat} {f : Nat → Int32} (hin : is_Ro w 101 102 640 c f) {g : Nat → Nat} (hg : rd_g c f g) {fp en tg vf vL : Int32} {ms : Option Nat} {p : Nat} (hre : is_Re w fp ms (nI p) en tg vf vL) (k : Nat) (hpk : p + k ≤ c) : ev_Met G M_Re_nextNumber 1 0 0 [.ref 112, .int (nI k)] w (fun v w' => v = some (.long (lN (nb g p k))) ∧ is_Re w' fp ms (nI (p + k)) en tg vf vL ∧ ev_sm w w' [112]) := by
  have hc := hg.1
  unfold is_Re at hre
  refine ev_Met.of md_Re_nextNumber (Nat.le_of_ble_eq_true rfl) (fun X hX hR => ?_)
  have loop : ∀ (t i : Nat) (ls : Ev_L), i + t = k → ls.1 0 = some (.ref 112) → ls.1 1 = some (.int (nI k)) → ls.2 2 = some (lN (nb g p i)) → ls.1 4 = some (.int (nI i)) → ev_W G M_Re_nextNumber X 0 0 5 ls [] w := by
    intro t
    induction t with
    | zero =>
      intro i ls e1 l0 l1 l2 l4
      have hi : i = k := by omega
      subst hi
      refine r_iload hX d_Re_nextNumber_5 (by first | rfl | assumption) ?_
      refine q_iload hX 1 d_Re_nextNumber_7 rfl (by first | rfl | assumption) ?_
      refine r_icmp_ge hX 42 d_Re_nextNumber_8 (by decide) (fun _ => ?_) (fun c8 => absurd (nI_le (Nat.le_refl _) (by omega)) c8)
      refine q_aload hX 0 d_Re_nextNumber_42 rfl (by first | rfl | assumption) ?_
      refine r_dup hX d_Re_nextNumber_43 rfl ?_
      refine r_getf hX d_Re_nextNumber_44 fl_Re_32 hre rfl ?_
      refine q_iload hX 1 d_Re_nextNumber_47 rfl (by first | rfl | assumption) ?_
      refine r_iadd hX d_Re_nextNumber_48 ?_
      refine r_putf hX d_Re_nextNumber_49 fp_Re_32 hre (by first | assumption | decide | omega) rfl rfl (Nat.le_of_ble_eq_true rfl) ?_
      refine q_lload hX 2 d_Re_nextNumber_52 rfl (by first | rfl | assumption) ?_
      refine r_lret hX hR d_Re_nextNumber_53 rfl ?_
      exact ⟨rfl, by rw [is_Re, ← nI_add]; exact ev_set_self _ _ _, ev_sm.s1 (by simp)⟩
    | succ t ih =>
      intro i ls e1 l0 l1 l2 l4
      refine r_iload hX d_Re_nextNumber_5 (by first | rfl | assumption) ?_
      refine q_iload hX 1 d_Re_nextNumber_7 rfl (by first | rfl | assumption) ?_
      refine r_icmp_ge hX 42 d_Re_nextNumber_8 (by decide) (fun c8 => absurd c8 (nI_ge (by omega) (by omega))) (fun _ => ?_)
      refine q_lload hX 2 d_Re_nextNumber_11 rfl (by first | rfl | assumption) ?_
      refine r_bipush (v := 8) hX d_Re_nextNumber_12 (by decide) ?_
      refine r_lshl hX d_Re_nextNumber_14 ?_
      refine q_aload hX 0 d_Re_nextNumber_15 rfl (by first | rfl | assumption) ?_
      refine r_getf hX d_Re_nextNumber_16 fl_Re_15 hre rfl ?_
      refine q_aload hX 0 d_Re_nextNumber_19 rfl (by first | rfl | assumption) ?_
      refine r_getf hX d_Re_nextNumber_20 fl_Re_32 hre rfl ?_
      refine r_iload hX d_Re_nextNumber_23 (by first | rfl | assumption) ?_
      refine r_iadd hX d_Re_nextNumber_25 ?_
      rw [nI_add]
      refine r_callV (as := [_]) hX d_Re_nextNumber_26 lk_Re_58 hin.1 rfl rfl (Nat.le_of_ble_eq_true rfl) (by decide) 0 0 (Nat.le_refl _) (Nat.le_refl _) (c_Ro_at (G := G) hin (by omega) (by decide) (nI (p + i))) (fun v w1 hq => ?_)
      obtain ⟨rfl, hw⟩ := hq
      rw [hw, rd_at hg (by omega)]
      refine r_sipush (v := 255) hX d_Re_nextNumber_29 (by decide) ?_
      refine r_iand hX d_Re_nextNumber_32 ?_
      refine r_i2l hX d_Re_nextNumber_33 ?_
      refine r_lor hX d_Re_nextNumber_34 ?_
      rw [lN_sh8 _ (hg.2 (p + i) (by omega)).2]
      refine q_lstore hX 2 d_Re_nextNumber_35 rfl (by decide) ?_
      refine r_iinc hX d_Re_nextNumber_36 (by first | rfl | assumption) ?_
      refine r_goto hX 5 d_Re_nextNumber_39 (by decide) ?_
      exact ih (i + 1) _ (by omega) l0 l1 rfl (by show some (Value.int (nI i + Int32.ofInt 1)) = _; rw [show Int32.ofInt 1 = 1 from rfl, nI_1])
  refine r_lconst (v := 0) hX d_Re_nextNumber_0 (by decide) ?_
  refine q_lstore hX 2 d_Re_nextNumber_1 rfl (by decide) ?_
  refine r_iconst (v := 0) hX d_Re_nextNumber_2 (by decide) ?_
  refine r_istore hX d_Re_nextNumber_3 (by decide) ?_
  exact loop k 0 _ (by omega) rfl rfl rfl rfl
/-- the vint at p, before e: its value and its length -/
def vi (g : Nat → Nat) (p e : Nat) : Option (Nat × Nat) := if p < e ∧ vl (g p) ≤ 8 ∧ p + vl (g p) ≤ e then some (nb g p (vl (g p)) % 2 ^ (7 * vl (g p)), vl (g p)) else none
def vi_full (r : Nat × Nat) : Bool := decide (r.1 = 2 ^ (7 * r.2) - 1)
theorem vi_of {g : Nat → Nat} {p e : Nat} {r : Nat × Nat} (h : vi g p e = some r) : p < e ∧ r.2 = vl (g p) ∧ 1 ≤ r.2 ∧ r.2 ≤ 8 ∧ p + r.2 ≤ e ∧ r.1 = nb g p r.2 % 2 ^ (7 * r.2) ∧ r.1 < 2 ^ 56 := by
  unfold vi at h
  split at h
  · rename_i z
    cases h
    have h1 : 2 ^ (7 * vl (g p)) ≤ 2 ^ 56 := Nat.pow_le_pow_right (by decide) (by omega)
    have h2 : 0 < 2 ^ (7 * vl (g p)) := Nat.pow_pos (by decide)
    have h3 := Nat.mod_lt (nb g p (vl (g p))) h2
    exact ⟨z.1, rfl, vl_1 _, z.2.1, z.2.2, rfl, by dsimp only; omega⟩
  · cases h
def vi_post (w w' : Ev_W) (g : Nat → Nat) (p e : Nat) (fp : Int32) (ms : Option Nat) (tg vf vL : Int32) (v : Option Value) : Prop := match vi g p e with
  | none => v = some (.long (-1)) ∧ (∃ vf' vL', is_Re w' fp ms (nI p) (nI e) tg vf' vL') ∧ ev_sm w w' [112]
  | some r => v = some (.long (lN r.1)) ∧ is_Re w' fp ms (nI (p + r.2)) (nI e) tg (b_i (vi_full r)) (nI r.2) ∧ ev_sm w w' [112]
theorem c_Re_nextVint {G : Ev_G} {w : Ev_W} {c : Nat} {f : Nat → Int32} (hin : is_Ro w 101 102 640 c f) {g : Nat → Nat} (hg : rd_g c f g) {fp tg vf vL : Int32} {ms : Option Nat} {p e : Nat} (hre : is_Re w fp ms (nI p) (nI e) tg vf vL) (hec : e ≤ c) (hpc : p ≤ c) : ev_Met G M_Re_nextVint 2 0 0 [.ref 112] w (fun v w' => vi_post w w' g p e fp ms tg vf vL v) := by
  have hc := hg.1
  unfold is_Re at hre
  refine ev_Met.of md_Re_nextVint (Nat.le_of_ble_eq_true rfl) (fun X hX hR => ?_)
  refine q_aload hX 0 d_Re_nextVint_0 rfl (by first | rfl | assumption) ?_
  refine r_getf hX d_Re_nextVint_1 fl_Re_32 (by first | exact hre | exact ev_set_self _ _ _) rfl ?_
  refine q_aload hX 0 d_Re_nextVint_4 rfl (by first | rfl | assumption) ?_
  refine r_getf hX d_Re_nextVint_5 fl_Re_57 (by first | exact hre | exact ev_set_self _ _ _) rfl ?_
  refine r_icmp_lt hX 15 d_Re_nextVint_8 (by decide) (fun c8 => ?_) (fun c8 => ?_)
  · have hpe : p < e := (nI_ltI (by omega) (by omega)).mp c8
    refine q_aload hX 0 d_Re_nextVint_15 rfl (by first | rfl | assumption) ?_
    refine q_aload hX 0 d_Re_nextVint_16 rfl (by first | rfl | assumption) ?_
    refine r_getf hX d_Re_nextVint_17 fl_Re_15 (by first | exact hre | exact ev_set_self _ _ _) rfl ?_
    refine q_aload hX 0 d_Re_nextVint_20 rfl (by first | rfl | assumption) ?_
    refine r_getf hX d_Re_nextVint_21 fl_Re_32 (by first | exact hre | exact ev_set_self _ _ _) rfl ?_
    refine r_callV (as := [_]) hX d_Re_nextVint_24 lk_Re_58 hin.1 rfl rfl (Nat.le_of_ble_eq_true rfl) (by decide) 0 0 (Nat.le_refl _) (Nat.le_refl _) (c_Ro_at (G := G) hin (by omega) (by decide) (nI p)) (fun v w1 hq => ?_)
    obtain ⟨rfl, hw⟩ := hq
    rw [hw, rd_at hg (by omega)]
    have hgp := (hg.2 p (by omega)).2
    refine r_callSN (as := [_]) hX d_Re_nextVint_27 lk_Re_62 rfl (Nat.le_of_ble_eq_true rfl) (by decide) 0 0 (Nat.le_refl _) (Nat.le_refl _) (c_EF_vintLengthByFirst (G := G) (g p) hgp) (fun v w1 hq => ?_)
    obtain ⟨rfl, hw⟩ := hq
    rw [hw]
    have hv1 := vl_1 (g p)
    have hv9 := vl_9 (g p)
    refine r_putf hX d_Re_nextVint_30 fp_Re_176 (by first | exact hre | exact ev_set_self _ _ _) (by first | assumption | decide | omega) rfl rfl (Nat.le_of_ble_eq_true rfl) ?_
    refine q_aload hX 0 d_Re_nextVint_33 rfl (by first | rfl | assumption) ?_
    refine r_getf hX d_Re_nextVint_34 fl_Re_176 (by first | exact hre | exact ev_set_self _ _ _) rfl ?_
    refine r_bipush (v := 8) hX d_Re_nextVint_37 (by decide) ?_
    refine r_icmp_gt hX 58 d_Re_nextVint_39 (by decide) (fun c39 => ?_) (fun c39 => ?_)
    · refine r_ldc2 hX d_Re_nextVint_58 m_234 ?_
      refine r_lret hX hR d_Re_nextVint_61 rfl ?_
      show vi_post _ _ _ _ _ _ _ _ _ _ _
      unfold vi_post
      rw [show vi g p e = none from if_neg (fun z => by have := (nI_ltI (a := 8) (b := vl (g p)) (by decide) (by omega)).mp c39; omega)]
      exact ⟨rfl, ⟨_, _, ev_set_self _ _ _⟩, ev_sm.s1 (by simp)⟩
    · have h8 : vl (g p) ≤ 8 := Nat.le_of_not_lt (fun z => c39 (nI_lt (a := 8) (b := vl (g p)) z (by omega)))
      refine q_aload hX 0 d_Re_nextVint_42 rfl (by first | rfl | assumption) ?_
      refine r_getf hX d_Re_nextVint_43 fl_Re_176 (by first | exact hre | exact ev_set_self _ _ _) rfl ?_
      refine q_aload hX 0 d_Re_nextVint_46 rfl (by first | rfl | assumption) ?_
      refine r_getf hX d_Re_nextVint_47 fl_Re_57 (by first | exact hre | exact ev_set_self _ _ _) rfl ?_
      refine q_aload hX 0 d_Re_nextVint_50 rfl (by first | rfl | assumption) ?_
      refine r_getf hX d_Re_nextVint_51 fl_Re_32 (by first | exact hre | exact ev_set_self _ _ _) rfl ?_
      refine r_isub hX d_Re_nextVint_54 ?_
      refine r_icmp_le hX 62 d_Re_nextVint_55 (by decide) (fun c55 => ?_) (fun c55 => ?_)
      · have hle : p + vl (g p) ≤ e := by rw [nI_sb (by omega)] at c55; have := (nI_leI (by omega) (by omega)).mp c55; omega
        refine q_aload hX 0 d_Re_nextVint_62 rfl (by first | rfl | assumption) ?_
        refine r_getf hX d_Re_nextVint_63 fl_Re_176 (by first | exact hre | exact ev_set_self _ _ _) rfl ?_
        refine r_callSN (as := [_]) hX d_Re_nextVint_66 lk_Re_191 rfl (Nat.le_of_ble_eq_true rfl) (by decide) 0 0 (Nat.le_refl _) (Nat.le_refl _) (c_EF_allOnes (G := G) _) (fun v w1 hq => ?_)
        obtain ⟨rfl, hw⟩ := hq
        rw [hw, ao_N _ (by omega) hv1]
        refine q_lstore hX 1 d_Re_nextVint_69 rfl (by decide) ?_
        refine q_aload hX 0 d_Re_nextVint_70 rfl (by first | rfl | assumption) ?_
        refine q_aload hX 0 d_Re_nextVint_71 rfl (by first | rfl | assumption) ?_
        refine r_getf hX d_Re_nextVint_72 fl_Re_176 (by first | exact hre | exact ev_set_self _ _ _) rfl ?_
        have hre2 : is_Re (ev_set w 112 (.inr (5, [.ref 101, .ref 108, .int fp, va_rf ms, .int (nI p), .int (nI e), .int tg, .int vf, .int (nI (vl (g p)))]))) fp ms (nI p) (nI e) tg vf (nI (vl (g p))) := ev_set_self _ _ _
        have hsm2 : ev_sm w (ev_set w 112 (.inr (5, [.ref 101, .ref 108, .int fp, va_rf ms, .int (nI p), .int (nI e), .int tg, .int vf, .int (nI (vl (g p)))]))) [112] := ev_sm.s1 (by simp)
        have hin2 := hin.sm hsm2 (by decide) (by decide)
        refine r_callV (as := [_]) hX d_Re_nextVint_75 lk_Re_65 hre2 rfl rfl (Nat.le_of_ble_eq_true rfl) (by decide) 0 0 (Nat.le_refl _) (Nat.le_refl _) (c_Re_nextNumber (G := G) hin2 hg hre2 (vl (g p)) (by omega)) (fun v w3 hq => ?_)
        obtain ⟨rfl, q1, q2⟩ := hq
        unfold is_Re at q1
        have hvi : vi g p e = some (nb g p (vl (g p)) % 2 ^ (7 * vl (g p)), vl (g p)) := if_pos ⟨hpe, h8, hle⟩
        have hnb : nb g p (vl (g p)) % 2 ^ (7 * vl (g p)) < 2 ^ 56 := (vi_of hvi).2.2.2.2.2.2
        have hpw : 2 ^ (7 * vl (g p)) ≤ 2 ^ 56 := Nat.pow_le_pow_right (by decide) (by omega)
        refine q_lload hX 1 d_Re_nextVint_78 rfl (by first | rfl | assumption) ?_
        refine r_land hX d_Re_nextVint_79 ?_
        rw [lN_and _ (by omega)]
        refine q_lstore hX 3 d_Re_nextVint_80 rfl (by decide) ?_
        refine q_aload hX 0 d_Re_nextVint_81 rfl (by first | rfl | assumption) ?_
        refine q_lload hX 3 d_Re_nextVint_82 rfl (by first | rfl | assumption) ?_
        refine q_lload hX 1 d_Re_nextVint_83 rfl (by first | rfl | assumption) ?_
        refine r_lcmp hX d_Re_nextVint_84 ?_
        refine r_if_ne hX 92 d_Re_nextVint_85 (by decide) (fun c85 => ?_) (fun c85 => ?_)
        · refine r_iconst (v := 0) hX d_Re_nextVint_92 (by decide) ?_
          refine r_putf hX d_Re_nextVint_93 fp_Re_101 q1 (by first | assumption | decide | omega) rfl rfl (Nat.le_of_ble_eq_true rfl) ?_
          refine q_lload hX 3 d_Re_nextVint_96 rfl (by first | rfl | assumption) ?_
          refine r_lret hX hR d_Re_nextVint_97 rfl ?_
          show vi_post _ _ _ _ _ _ _ _ _ _ _
          unfold vi_post
          rw [hvi]
          exact ⟨rfl, by rw [show vi_full (nb g p (vl (g p)) % 2 ^ (7 * vl (g p)), vl (g p)) = false from decide_eq_false (fun z => c85 (l_eq0.mpr (by rw [show nb g p (vl (g p)) % 2 ^ (7 * vl (g p)) = 2 ^ (7 * vl (g p)) - 1 from z])))]; exact ev_set_self _ _ _, hsm2.tr (q2.set (by simp))⟩
        · refine r_iconst (v := 1) hX d_Re_nextVint_88 (by decide) ?_
          refine r_goto hX 93 d_Re_nextVint_89 (by decide) ?_
          refine r_putf hX d_Re_nextVint_93 fp_Re_101 q1 (by first | assumption | decide | omega) rfl rfl (Nat.le_of_ble_eq_true rfl) ?_
          refine q_lload hX 3 d_Re_nextVint_96 rfl (by first | rfl | assumption) ?_
          refine r_lret hX hR d_Re_nextVint_97 rfl ?_
          show vi_post _ _ _ _ _ _ _ _ _ _ _
          unfold vi_post
          rw [hvi]
          exact ⟨rfl, by rw [show vi_full (nb g p (vl (g p)) % 2 ^ (7 * vl (g p)), vl (g p)) = true from decide_eq_true (ln_inj (b := 2 ^ (7 * vl (g p)) - 1) (by omega) (by omega) (l_eq0.mp c85))]; exact ev_set_self _ _ _, hsm2.tr (q2.set (by simp))⟩
      · refine r_ldc2 hX d_Re_nextVint_58 m_234 ?_
        refine r_lret hX hR d_Re_nextVint_61 rfl ?_
        show vi_post _ _ _ _ _ _ _ _ _ _ _
        unfold vi_post
        rw [show vi g p e = none from if_neg (fun z => c55 (by rw [nI_sb (by omega)]; exact nI_le (by omega) (by omega)))]
        exact ⟨rfl, ⟨_, _, ev_set_self _ _ _⟩, ev_sm.s1 (by simp)⟩
  · refine r_ldc2 hX d_Re_nextVint_11 m_234 ?_
    refine r_lret hX hR d_Re_nextVint_14 rfl ?_
    show vi_post _ _ _ _ _ _ _ _ _ _ _
    unfold vi_post
    rw [show vi g p e = none from if_neg (fun z => c8 (nI_lt z.1 (by omega)))]
    exact ⟨rfl, ⟨_, _, hre⟩, ev_sm.rf⟩
