/-! ===== the reference: lengths ===== -/
theorem ao_big : ∀ i, i < 9 → 5 ≤ i → (2147483648 : Int) ≤ (ef_allOnes (nI i)).toInt := by decide +kernel
theorem sh_N (x : Nat) (hx : x < 2 ^ 63) : ∀ {i : Nat}, i < 8 → wr_sh (lN x) i = lN (x / 2 ^ (8 * i)) := by
  have key : ∀ (i : Nat), ((8 * nI i).toInt64.toUInt64 &&& Int64.toUInt64 63).toBitVec % 64 = BitVec.ofNat 64 (8 * i) → 8 * i < 64 → wr_sh (lN x) i = lN (x / 2 ^ (8 * i)) := by
    intro i h1 h2
    apply Int64.toBitVec_inj.mp
    unfold wr_sh
    show ((lN x).toUInt64 >>> ((8 * nI i).toInt64.toUInt64 &&& Int64.toUInt64 63)).toBitVec = _
    rw [UInt64.toBitVec_shiftRight, h1, BitVec.ushiftRight_eq', BitVec.toNat_ofNat, Nat.mod_eq_of_lt (by omega)]
    show (lN x).toBitVec >>> (8 * i) = _
    rw [ln_bv, ln_bv]
    apply BitVec.eq_of_toNat_eq
    rw [BitVec.toNat_ushiftRight, BitVec.toNat_ofNat, BitVec.toNat_ofNat, Nat.shiftRight_eq_div_pow, Nat.mod_eq_of_lt (by omega), Nat.mod_eq_of_lt (Nat.lt_of_le_of_lt (Nat.div_le_self _ _) (by omega))]
  intro i hi
  have : i = 0 ∨ i = 1 ∨ i = 2 ∨ i = 3 ∨ i = 4 ∨ i = 5 ∨ i = 6 ∨ i = 7 := by omega
  rcases this with rfl | rfl | rfl | rfl | rfl | rfl | rfl | rfl
  · exact key 0 (by decide) (by decide)
  · exact key 1 (by decide) (by decide)
  · exact key 2 (by decide) (by decide)
  · exact key 3 (by decide) (by decide)
  · exact key 4 (by decide) (by decide)
  · exact key 5 (by decide) (by decide)
  · exact key 6 (by decide) (by decide)
  · exact key 7 (by decide) (by decide)
theorem fb_0 {x i f : Nat} (hx : x < 2 ^ 31) (hi : i < 8) (h : x < 2 ^ (8 * i)) : wr_fb (lN x) (f + 1) i = i := by
  rw [wr_fb, if_pos (by rw [sh_N x (by omega) hi, Nat.div_eq_of_lt h]; rfl)]
theorem fb_s {x i f : Nat} (hx : x < 2 ^ 31) (hi : i < 8) (h : 2 ^ (8 * i) ≤ x) : wr_fb (lN x) (f + 1) i = wr_fb (lN x) f (i + 1) := by
  have hd : 0 < x / 2 ^ (8 * i) := Nat.div_pos h (Nat.pow_pos (by decide))
  have hl := Nat.div_le_self x (2 ^ (8 * i))
  rw [wr_fb, if_neg (fun z => by
    rw [sh_N x (by omega) hi] at z
    have := ln_inj (by omega) (by decide) (z.trans (show (0 : Int64) = lN 0 from rfl))
    omega)]
theorem c_Mo_numberBytes {G : Ev_G} {w : Ev_W} (x : Int64) : ev_Met G M_Mo_numberBytes 0 0 0 [.long x] w (fun v w' => v = some (.int (nI (wr_fb x 7 1))) ∧ w' = w) := by
  refine ev_Met.of md_Mo_numberBytes (Nat.le_of_ble_eq_true rfl) (fun X hX hR => ?_)
  have loop : ∀ (f i : Nat) (ls : Ev_L), i + f = 8 → wr_fb x f i = wr_fb x 7 1 → ls.2 0 = some x → ls.1 2 = some (.int (nI i)) → ev_W G M_Mo_numberBytes X 0 0 2 ls [] w := by
    intro f
    induction f with
    | zero =>
      intro i ls e1 e2 l0 l2
      have hi : i = 8 := by omega
      subst hi
      refine q_iload hX 2 d_Mo_numberBytes_2 rfl (by first | rfl | assumption) ?_
      refine r_bipush (v := 8) hX d_Mo_numberBytes_3 (by decide) ?_
      refine r_icmp_ge hX 25 d_Mo_numberBytes_5 (by decide) (fun _ => ?_) (fun c5 => absurd (by decide) c5)
      refine q_iload hX 2 d_Mo_numberBytes_25 rfl (by first | rfl | assumption) ?_
      refine r_iret hX hR d_Mo_numberBytes_26 rfl (by first | rfl | assumption) ?_
      exact ⟨by rw [← e2]; rfl, rfl⟩
    | succ f ih =>
      intro i ls e1 e2 l0 l2
      refine q_iload hX 2 d_Mo_numberBytes_2 rfl (by first | rfl | assumption) ?_
      refine r_bipush (v := 8) hX d_Mo_numberBytes_3 (by decide) ?_
      refine r_icmp_ge hX 25 d_Mo_numberBytes_5 (by decide) (fun c5 => absurd c5 (nI_ge (a := i) (b := 8) (by omega) (by decide))) (fun _ => ?_)
      refine q_lload hX 0 d_Mo_numberBytes_8 rfl (by first | rfl | assumption) ?_
      refine r_bipush (v := 8) hX d_Mo_numberBytes_9 (by decide) ?_
      refine q_iload hX 2 d_Mo_numberBytes_11 rfl (by first | rfl | assumption) ?_
      refine r_imul hX d_Mo_numberBytes_12 ?_
      refine r_lushr hX d_Mo_numberBytes_13 ?_
      refine r_lconst (v := 0) hX d_Mo_numberBytes_14 (by decide) ?_
      refine r_lcmp hX d_Mo_numberBytes_15 ?_
      refine r_if_eq hX 25 d_Mo_numberBytes_16 (by decide) (fun c16 => ?_) (fun c16 => ?_)
      · refine q_iload hX 2 d_Mo_numberBytes_25 rfl (by first | rfl | assumption) ?_
        refine r_iret hX hR d_Mo_numberBytes_26 rfl (by first | rfl | assumption) ?_
        exact ⟨by rw [← e2, wr_fb, if_pos (show wr_sh x i = 0 from l_eq0.mp c16)], rfl⟩
      · refine r_iinc hX d_Mo_numberBytes_19 (by first | rfl | assumption) ?_
        refine r_goto hX 2 d_Mo_numberBytes_22 (by decide) ?_
        exact ih (i + 1) _ (by omega) (by rw [← e2, wr_fb, if_neg (fun z : wr_sh x i = 0 => c16 (l_eq0.mpr z))]) l0 (by show some (Value.int (nI i + Int32.ofInt 1)) = _; rw [show Int32.ofInt 1 = 1 from rfl, nI_1])
  refine r_iconst (v := 1) hX d_Mo_numberBytes_0 (by decide) ?_
  refine q_istore hX 2 d_Mo_numberBytes_1 rfl (by decide) ?_
  exact loop 7 1 _ rfl rfl rfl rfl
theorem c_Mo_widthFor {G : Ev_G} {w : Ev_W} (x : Nat) (hx : x < 2 ^ 31) : ev_Met G M_Mo_widthFor 0 0 0 [.long (lN x)] w (fun v w' => v = some (.int (nI (wr_sv (lN x) 7 1))) ∧ w' = w) := by
  refine ev_Met.of md_Mo_widthFor (Nat.le_of_ble_eq_true rfl) (fun X hX hR => ?_)
  have hxi : (lN x).toInt = (x : Int) := pk_lT (by omega)
  have loop : ∀ (f i : Nat) (ls : Ev_L), i + f = 8 → wr_sv (lN x) f i = wr_sv (lN x) 7 1 → ls.2 0 = some (lN x) → ls.1 2 = some (.int (nI i)) → ev_W G M_Mo_widthFor X 0 0 2 ls [] w := by
    intro f
    induction f with
    | zero =>
      intro i ls e1 e2 l0 l2
      have hi : i = 8 := by omega
      subst hi
      have h8 := ao_big 8 (by decide) (by decide)
      refine q_lload hX 0 d_Mo_widthFor_2 rfl (by first | rfl | assumption) ?_
      refine r_lconst (v := 1) hX d_Mo_widthFor_3 (by decide) ?_
      refine r_bipush (v := 7) hX d_Mo_widthFor_4 (by decide) ?_
      refine q_iload hX 2 d_Mo_widthFor_6 rfl (by first | rfl | assumption) ?_
      refine r_imul hX d_Mo_widthFor_7 ?_
      refine r_lshl hX d_Mo_widthFor_8 ?_
      refine r_lconst (v := 1) hX d_Mo_widthFor_9 (by decide) ?_
      refine r_lsub hX d_Mo_widthFor_10 ?_
      refine r_lcmp hX d_Mo_widthFor_11 ?_
      refine r_if_lt hX 21 d_Mo_widthFor_12 (by decide) (fun _ => ?_) (fun c12 => absurd (l_lt0.mpr (show (lN x).toInt < (ef_allOnes (nI 8)).toInt by rw [hxi]; omega)) c12)
      refine q_iload hX 2 d_Mo_widthFor_21 rfl (by first | rfl | assumption) ?_
      refine r_iret hX hR d_Mo_widthFor_22 rfl (by first | rfl | assumption) ?_
      exact ⟨by rw [← e2]; rfl, rfl⟩
    | succ f ih =>
      intro i ls e1 e2 l0 l2
      refine q_lload hX 0 d_Mo_widthFor_2 rfl (by first | rfl | assumption) ?_
      refine r_lconst (v := 1) hX d_Mo_widthFor_3 (by decide) ?_
      refine r_bipush (v := 7) hX d_Mo_widthFor_4 (by decide) ?_
      refine q_iload hX 2 d_Mo_widthFor_6 rfl (by first | rfl | assumption) ?_
      refine r_imul hX d_Mo_widthFor_7 ?_
      refine r_lshl hX d_Mo_widthFor_8 ?_
      refine r_lconst (v := 1) hX d_Mo_widthFor_9 (by decide) ?_
      refine r_lsub hX d_Mo_widthFor_10 ?_
      refine r_lcmp hX d_Mo_widthFor_11 ?_
      refine r_if_lt hX 21 d_Mo_widthFor_12 (by decide) (fun c12 => ?_) (fun c12 => ?_)
      · refine q_iload hX 2 d_Mo_widthFor_21 rfl (by first | rfl | assumption) ?_
        refine r_iret hX hR d_Mo_widthFor_22 rfl (by first | rfl | assumption) ?_
        exact ⟨by rw [← e2, wr_sv, if_pos (show (lN x).toInt < (ef_allOnes (nI i)).toInt from l_lt0.mp c12)], rfl⟩
      · refine r_iinc hX d_Mo_widthFor_15 (by first | rfl | assumption) ?_
        refine r_goto hX 2 d_Mo_widthFor_18 (by decide) ?_
        exact ih (i + 1) _ (by omega) (by rw [← e2, wr_sv, if_neg (fun z : (lN x).toInt < (ef_allOnes (nI i)).toInt => c12 (l_lt0.mpr z))]) l0 (by show some (Value.int (nI i + Int32.ofInt 1)) = _; rw [show Int32.ofInt 1 = 1 from rfl, nI_1])
  refine r_iconst (v := 1) hX d_Mo_widthFor_0 (by decide) ?_
  refine q_istore hX 2 d_Mo_widthFor_1 rfl (by decide) ?_
  exact loop 7 1 _ rfl rfl rfl rfl
theorem c_Mo_idWidth {G : Ev_G} {w : Ev_W} (x : Nat) (hx : x < 2 ^ 31) : ev_Met G M_Mo_idWidth 0 0 0 [.int (nI x)] w (fun v w' => v = some (.int (nI (wr_fb (lN x) 7 1))) ∧ w' = w) := by
  refine ev_Met.of md_Mo_idWidth (Nat.le_of_ble_eq_true rfl) (fun X hX hR => ?_)
  refine q_iload hX 0 d_Mo_idWidth_0 rfl (by first | rfl | assumption) ?_
  refine r_ldc hX d_Mo_idWidth_1 m_822 ?_
  refine r_icmp_le hX 10 d_Mo_idWidth_3 (by decide) (fun c3 => ?_) (fun c3 => ?_)
  · refine q_iload hX 0 d_Mo_idWidth_10 rfl (by first | rfl | assumption) ?_
    refine r_ldc hX d_Mo_idWidth_11 m_823 ?_
    refine r_icmp_le hX 20 d_Mo_idWidth_13 (by decide) (fun c13 => ?_) (fun c13 => ?_)
    · refine q_iload hX 0 d_Mo_idWidth_20 rfl (by first | rfl | assumption) ?_
      refine r_sipush (v := 255) hX d_Mo_idWidth_21 (by decide) ?_
      refine r_icmp_le hX 31 d_Mo_idWidth_24 (by decide) (fun c24 => ?_) (fun c24 => ?_)
      · refine r_iconst (v := 1) hX d_Mo_idWidth_31 (by decide) ?_
        refine r_iret hX hR d_Mo_idWidth_32 rfl (by first | rfl | assumption) ?_
        have h1 := (nI_leI (b := 255) hx (by decide)).mp c24
        exact ⟨by rw [fb_0 hx (by decide) (by omega)]; rfl, rfl⟩
      · refine r_iconst (v := 2) hX d_Mo_idWidth_27 (by decide) ?_
        refine r_goto hX 32 d_Mo_idWidth_28 (by decide) ?_
        refine r_iret hX hR d_Mo_idWidth_32 rfl (by first | rfl | assumption) ?_
        have h1 := Nat.lt_of_not_le (fun z => c24 (nI_le (b := 255) z (by decide)))
        have h2 := (nI_leI (b := 65535) hx (by decide)).mp c13
        exact ⟨by rw [fb_s hx (by decide) (by omega), fb_0 hx (by decide) (by omega)]; rfl, rfl⟩
    · refine r_iconst (v := 3) hX d_Mo_idWidth_16 (by decide) ?_
      refine r_goto hX 32 d_Mo_idWidth_17 (by decide) ?_
      refine r_iret hX hR d_Mo_idWidth_32 rfl (by first | rfl | assumption) ?_
      have h1 := Nat.lt_of_not_le (fun z => c13 (nI_le (b := 65535) z (by decide)))
      have h2 := (nI_leI (b := 16777215) hx (by decide)).mp c3
      exact ⟨by rw [fb_s hx (by decide) (by omega), fb_s hx (by decide) (by omega), fb_0 hx (by decide) (by omega)]; rfl, rfl⟩
  · refine r_iconst (v := 4) hX d_Mo_idWidth_6 (by decide) ?_
    refine r_goto hX 32 d_Mo_idWidth_7 (by decide) ?_
    refine r_iret hX hR d_Mo_idWidth_32 rfl (by first | rfl | assumption) ?_
    have h1 := Nat.lt_of_not_le (fun z => c3 (nI_le (b := 16777215) z (by decide)))
    exact ⟨by rw [fb_s hx (by decide) (by omega), fb_s hx (by decide) (by omega), fb_s hx (by decide) (by omega), fb_0 hx (by decide) (by omega)]; rfl, rfl⟩
theorem st_1 (D : Int) (d : Int32) (hd : d.toInt = D) (h1 : -1000 ≤ D) (h2 : D ≤ 1000) : ∀ i, i < 3 → 1 ≤ i → (d.toInt64 + ((1 : Int64) <<< ((7 * nI i - 1).toInt64 &&& 63)) - 1).toInt = D + ((2 ^ (7 * i - 1) - 1 : Nat) : Int) := by
  intro i hi h0
  have hsu : ((1 : Int64) <<< ((7 * nI i - 1).toInt64 &&& 63)) = lN (2 ^ (7 * i - 1)) := by
    have : i = 1 ∨ i = 2 := by omega
    rcases this with rfl | rfl <;> decide
  rw [hsu]
  have hp : (lN (2 ^ (7 * i - 1))).toInt = ((2 ^ (7 * i - 1) : Nat) : Int) := by
    have : i = 1 ∨ i = 2 := by omega
    rcases this with rfl | rfl <;> decide
  rw [Int64.toInt_sub, Int64.toInt_add, Int32.toInt_toInt64, hd, hp, show (1 : Int64).toInt = 1 from rfl]
  have : i = 1 ∨ i = 2 := by omega
  rcases this with rfl | rfl
  · rw [show ((D + ((2 ^ (7 * 1 - 1) : Nat) : Int)).bmod (2 ^ 64)) = D + 64 from Int.bmod_eq_of_le (by omega) (by omega), Int.bmod_eq_of_le (by omega) (by omega)]
    show D + 64 - 1 = D + 63; omega
  · rw [show ((D + ((2 ^ (7 * 2 - 1) : Nat) : Int)).bmod (2 ^ 64)) = D + 8192 from Int.bmod_eq_of_le (by omega) (by omega), Int.bmod_eq_of_le (by omega) (by omega)]
    show D + 8192 - 1 = D + 8191; omega
theorem wr_ab_i {d : Int32} {D : Int} (hd : d.toInt = D) (h1 : -1000 ≤ D) (h2 : D ≤ 1000) : (wr_ab d).toInt64.toInt = if 0 ≤ D then D else -D := by
  unfold wr_ab
  rw [Int32.toInt_toInt64]
  by_cases z : (0 : Int32) ≤ d
  · rw [if_pos z, if_pos (by rw [i_le, i_0] at z; omega), hd]
  · rw [if_neg z, if_neg (fun y => z (by rw [i_le, i_0]; omega)), Int32.toInt_sub, hd, i_0, Int.bmod_eq_of_le (by omega) (by omega)]
    omega
theorem c_Mo_widthForStep {G : Ev_G} {w : Ev_W} {d : Int32} {D : Int} (hd : d.toInt = D) (h1 : -1000 ≤ D) (h2 : D ≤ 1000) : ev_Met G M_Mo_widthForStep 0 0 0 [.int d] w (fun v w' => v = some (.int (nI (wr_sd d 7 1))) ∧ w' = w) := by
  refine ev_Met.of md_Mo_widthForStep (Nat.le_of_ble_eq_true rfl) (fun X hX hR => ?_)
  have hA1 : (d.toInt64 + ((1 : Int64) <<< ((7 * nI 1 - 1).toInt64 &&& 63)) - 1).toInt = D + 63 := st_1 D d hd h1 h2 1 (by decide) (by decide)
  have hA2 : (d.toInt64 + ((1 : Int64) <<< ((7 * nI 2 - 1).toInt64 &&& 63)) - 1).toInt = D + 8191 := st_1 D d hd h1 h2 2 (by decide) (by decide)
  have two : (D < -63 ∨ 63 < D) → ∀ (ls : Ev_L), ls.1 0 = some (.int d) → ls.1 1 = some (.int (nI 2)) → ev_W G M_Mo_widthForStep X 0 0 2 ls [] w := by
    intro hD ls l0 l1
    refine q_iload hX 0 d_Mo_widthForStep_2 rfl (by assumption) ?_
    refine r_i2l hX d_Mo_widthForStep_3 ?_
    refine r_lconst (v := 1) hX d_Mo_widthForStep_4 (by decide) ?_
    refine r_bipush (v := 7) hX d_Mo_widthForStep_5 (by decide) ?_
    refine q_iload hX 1 d_Mo_widthForStep_7 rfl (by assumption) ?_
    refine r_imul hX d_Mo_widthForStep_8 ?_
    refine r_iconst (v := 1) hX d_Mo_widthForStep_9 (by decide) ?_
    refine r_isub hX d_Mo_widthForStep_10 ?_
    refine r_lshl hX d_Mo_widthForStep_11 ?_
    refine r_ladd hX d_Mo_widthForStep_12 ?_
    refine r_lconst (v := 1) hX d_Mo_widthForStep_13 (by decide) ?_
    refine r_lsub hX d_Mo_widthForStep_14 ?_
    refine r_lconst (v := 0) hX d_Mo_widthForStep_15 (by decide) ?_
    refine r_lcmp hX d_Mo_widthForStep_16 ?_
    refine r_if_lt hX 45 d_Mo_widthForStep_17 (by decide) (fun c17 => absurd c17 (fun z => by have hb := l_lt0.mp z; rw [hA2, show (0 : Int64).toInt = 0 from rfl] at hb; omega)) (fun _ => ?_)
    refine q_iload hX 0 d_Mo_widthForStep_20 rfl (by assumption) ?_
    refine r_i2l hX d_Mo_widthForStep_21 ?_
    refine r_lconst (v := 1) hX d_Mo_widthForStep_22 (by decide) ?_
    refine r_bipush (v := 7) hX d_Mo_widthForStep_23 (by decide) ?_
    refine q_iload hX 1 d_Mo_widthForStep_25 rfl (by assumption) ?_
    refine r_imul hX d_Mo_widthForStep_26 ?_
    refine r_iconst (v := 1) hX d_Mo_widthForStep_27 (by decide) ?_
    refine r_isub hX d_Mo_widthForStep_28 ?_
    refine r_lshl hX d_Mo_widthForStep_29 ?_
    refine r_ladd hX d_Mo_widthForStep_30 ?_
    refine r_lconst (v := 1) hX d_Mo_widthForStep_31 (by decide) ?_
    refine r_lsub hX d_Mo_widthForStep_32 ?_
    refine r_lconst (v := 1) hX d_Mo_widthForStep_33 (by decide) ?_
    refine r_bipush (v := 7) hX d_Mo_widthForStep_34 (by decide) ?_
    refine q_iload hX 1 d_Mo_widthForStep_36 rfl (by assumption) ?_
    refine r_imul hX d_Mo_widthForStep_37 ?_
    refine r_lshl hX d_Mo_widthForStep_38 ?_
    refine r_lconst (v := 1) hX d_Mo_widthForStep_39 (by decide) ?_
    refine r_lsub hX d_Mo_widthForStep_40 ?_
    refine r_lcmp hX d_Mo_widthForStep_41 ?_
    refine r_if_lt hX 51 d_Mo_widthForStep_42 (by decide) (fun _ => ?_) (fun c42 => absurd (l_lt0.mpr (by rw [hA2, show (((1 : Int64) <<< ((7 * nI 2).toInt64 &&& 63)) - 1).toInt = 16383 from by decide]; omega)) c42)
    refine q_iload hX 1 d_Mo_widthForStep_51 rfl l1 ?_
    refine r_iret hX hR d_Mo_widthForStep_52 rfl (by first | rfl | assumption) ?_
    exact ⟨by rw [wr_sd, if_neg (by rw [wr_ab_i hd h1 h2, show (ef_surplus (nI 1)).toInt = 63 from by decide]; split <;> omega), wr_sd, if_pos (by rw [wr_ab_i hd h1 h2, show (ef_surplus (nI 2)).toInt = 8191 from by decide]; split <;> omega)], rfl⟩
  have one : ∀ (ls : Ev_L), ls.1 0 = some (.int d) → ls.1 1 = some (.int (nI 1)) → ev_W G M_Mo_widthForStep X 0 0 2 ls [] w := by
    intro ls l0 l1
    refine q_iload hX 0 d_Mo_widthForStep_2 rfl (by first | rfl | assumption) ?_
    refine r_i2l hX d_Mo_widthForStep_3 ?_
    refine r_lconst (v := 1) hX d_Mo_widthForStep_4 (by decide) ?_
    refine r_bipush (v := 7) hX d_Mo_widthForStep_5 (by decide) ?_
    refine q_iload hX 1 d_Mo_widthForStep_7 rfl (by first | rfl | assumption) ?_
    refine r_imul hX d_Mo_widthForStep_8 ?_
    refine r_iconst (v := 1) hX d_Mo_widthForStep_9 (by decide) ?_
    refine r_isub hX d_Mo_widthForStep_10 ?_
    refine r_lshl hX d_Mo_widthForStep_11 ?_
    refine r_ladd hX d_Mo_widthForStep_12 ?_
    refine r_lconst (v := 1) hX d_Mo_widthForStep_13 (by decide) ?_
    refine r_lsub hX d_Mo_widthForStep_14 ?_
    refine r_lconst (v := 0) hX d_Mo_widthForStep_15 (by decide) ?_
    refine r_lcmp hX d_Mo_widthForStep_16 ?_
    refine r_if_lt hX 45 d_Mo_widthForStep_17 (by decide) (fun c17 => ?_) (fun c17 => ?_)
    · refine r_iinc hX d_Mo_widthForStep_45 (by first | rfl | assumption) ?_
      refine r_goto hX 2 d_Mo_widthForStep_48 (by decide) ?_
      exact two (by have hb := l_lt0.mp c17; rw [hA1, show (0 : Int64).toInt = 0 from rfl] at hb; omega) _ l0 (by show some (Value.int (nI 1 + Int32.ofInt 1)) = _; rfl)
    · refine q_iload hX 0 d_Mo_widthForStep_20 rfl (by first | rfl | assumption) ?_
      refine r_i2l hX d_Mo_widthForStep_21 ?_
      refine r_lconst (v := 1) hX d_Mo_widthForStep_22 (by decide) ?_
      refine r_bipush (v := 7) hX d_Mo_widthForStep_23 (by decide) ?_
      refine q_iload hX 1 d_Mo_widthForStep_25 rfl (by first | rfl | assumption) ?_
      refine r_imul hX d_Mo_widthForStep_26 ?_
      refine r_iconst (v := 1) hX d_Mo_widthForStep_27 (by decide) ?_
      refine r_isub hX d_Mo_widthForStep_28 ?_
      refine r_lshl hX d_Mo_widthForStep_29 ?_
      refine r_ladd hX d_Mo_widthForStep_30 ?_
      refine r_lconst (v := 1) hX d_Mo_widthForStep_31 (by decide) ?_
      refine r_lsub hX d_Mo_widthForStep_32 ?_
      refine r_lconst (v := 1) hX d_Mo_widthForStep_33 (by decide) ?_
      refine r_bipush (v := 7) hX d_Mo_widthForStep_34 (by decide) ?_
      refine q_iload hX 1 d_Mo_widthForStep_36 rfl (by first | rfl | assumption) ?_
      refine r_imul hX d_Mo_widthForStep_37 ?_
      refine r_lshl hX d_Mo_widthForStep_38 ?_
      refine r_lconst (v := 1) hX d_Mo_widthForStep_39 (by decide) ?_
      refine r_lsub hX d_Mo_widthForStep_40 ?_
      refine r_lcmp hX d_Mo_widthForStep_41 ?_
      refine r_if_lt hX 51 d_Mo_widthForStep_42 (by decide) (fun c42 => ?_) (fun c42 => ?_)
      · refine q_iload hX 1 d_Mo_widthForStep_51 rfl (by first | rfl | assumption) ?_
        refine r_iret hX hR d_Mo_widthForStep_52 rfl (by first | rfl | assumption) ?_
        exact ⟨by rw [wr_sd, if_pos (by rw [wr_ab_i hd h1 h2, show (ef_surplus (nI 1)).toInt = 63 from by decide]; have hb1 := Int.not_lt.mp (fun z => c17 (l_lt0.mpr z)); have hb2 := l_lt0.mp c42; rw [hA1, show (0 : Int64).toInt = 0 from rfl] at hb1; rw [hA1, show (((1 : Int64) <<< ((7 * nI 1).toInt64 &&& 63)) - 1).toInt = 127 from by decide] at hb2; split <;> omega)], rfl⟩
      · refine r_iinc hX d_Mo_widthForStep_45 (by first | rfl | assumption) ?_
        refine r_goto hX 2 d_Mo_widthForStep_48 (by decide) ?_
        exact two (by have hb := Int.not_lt.mp (fun z => c42 (l_lt0.mpr z)); rw [hA1, show (((1 : Int64) <<< ((7 * nI 1).toInt64 &&& 63)) - 1).toInt = 127 from by decide] at hb; omega) _ l0 (by show some (Value.int (nI 1 + Int32.ofInt 1)) = _; rfl)
  refine r_iconst (v := 1) hX d_Mo_widthForStep_0 (by decide) ?_
  refine q_istore hX 1 d_Mo_widthForStep_1 rfl (by decide) ?_
  exact one _ rfl rfl
