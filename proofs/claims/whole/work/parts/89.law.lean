/-! ===== the law ===== -/
theorem nw_La_7 : ev_N R_La 7 0 7 [.null, .null, .null, .null, .null, .null, .null] := ⟨_, _, t_EF, rfl, u_EF_in, t_EF_ok, m_75, m_76, m_63, by decide +kernel, fun G => rfl⟩
theorem nw_La_10 : ev_N R_La 10 8 33 [.int 0, .null, .null, .null, .null, .null, .null, .null, .null, .null, .null, .null, .null, .int 0, .int 0, .null, .null, .int 0, .null, .int 0, .null, .int 0, .int 0, .int 0, .int 0, .long 0, .int 0, .int 0, .null, .null, .null, .null, .null] := ⟨_, _, t_Mo, rfl, u_Mo_in, t_Mo_ok, m_604, m_605, m_70, by decide +kernel, fun G => rfl⟩
theorem la_2 (a : Nat) : nI a + 2 = nI (a + 2) := by rw [show (2 : Int32) = nI 2 from rfl, nI_add]
theorem la_3 (a : Nat) : nI a + 3 = nI (a + 3) := by rw [show (3 : Int32) = nI 3 from rfl, nI_add]
theorem la_4 (a : Nat) : nI a + 4 = nI (a + 4) := by rw [show (4 : Int32) = nI 4 from rfl, nI_add]
theorem la_5 (a : Nat) : nI a + 5 = nI (a + 5) := by rw [show (5 : Int32) = nI 5 from rfl, nI_add]
theorem la_6 (a : Nat) : nI a + Int32.ofInt 6 = nI (a + 6) := by rw [show Int32.ofInt 6 = nI 6 from rfl, nI_add]
theorem la_lt {L i : Nat} (hL : L ≤ 3072) (hi : i ≤ 3078) : nI L - 6 < nI i ↔ L < i + 6 := by
  have h : (nI L - 6).toInt = (L : Int) - 6 := by
    by_cases z : 6 ≤ L
    · rw [show (6 : Int32) = nI 6 from rfl, nI_sb z, nI_toInt (by omega)]; omega
    · have : ∀ L, L < 6 → (nI L - 6).toInt = (L : Int) - 6 := by decide
      exact this L (by omega)
  rw [i_lt, h, nI_toInt (by omega)]; omega
theorem m31 (y : Int32) : ∃ b, b < 32 ∧ y &&& 31 = nI b := by
  refine ⟨(y &&& 31).toBitVec.toNat, ?_, ?_⟩
  · rw [Int32.toBitVec_and, BitVec.toNat_and]
    exact Nat.lt_of_le_of_lt Nat.and_le_right (by decide)
  · apply Int32.toBitVec_inj.mp
    show (y &&& 31).toBitVec = BitVec.ofNat 32 (y &&& 31).toBitVec.toNat
    rw [BitVec.ofNat_toNat, BitVec.setWidth_eq]
section EvS
variable {G : Ev_G} {M : Ev_M} {d : Nat} {X : Ev_X} {bc bs pc : Nat} {ls : Ev_L} {st : List Value} {w : Ev_W}
/-- the script: the cell at number 18 -/
theorem r_sld (hX : ev_C G M d X) {L : Nat} {xs : Nat → Int32} {i : Int32} (hsc : va_X (G.2.2.2.1 18) L xs X.2.2.2.1 G.2.2.2.2) (hd : decode M.2.2.1 pc = .ok (.iaload, 1)) (hin : vp_in i L) (kk : ev_W G M X bc bs (pc + 1) ls (.int (xs i.toNatClampNeg) :: st) w) : ev_W G M X bc bs pc ls (.int i :: .ref 18 :: st) w := by
  obtain ⟨hx, hb, hm, ho, ht, hT, hi, hz, hzs, hdf, hdl, hlk⟩ := hX
  intro H locs a cells slots hH hl hL hc hs
  obtain ⟨scr, h1, h2, h3, h4, h5⟩ := hsc
  have hlt : i.toNatClampNeg < L := Nat.not_le.mp fun q => hin (Or.inr q)
  refine W.iald (v := .int (xs i.toNatClampNeg)) (a := ev_rho G 18) (cell := scr) hx hb ?_ h2 h3 (by rw [h4]; exact hin) (h5 _ hlt) rfl rfl hd (kk H locs a cells slots hH hl hL hc hs)
  rw [ev_rho, if_pos (by omega), hH.1 _ (Array.getElem?_eq_some_iff.mp h1).1]
  exact h1
theorem r_slen (hX : ev_C G M d X) {L : Nat} {xs : Nat → Int32} (hsc : va_X (G.2.2.2.1 18) L xs X.2.2.2.1 G.2.2.2.2) (hd : decode M.2.2.1 pc = .ok (.arraylength, 1)) (kk : ev_W G M X bc bs (pc + 1) ls (.int (nI L) :: st) w) : ev_W G M X bc bs pc ls (.ref 18 :: st) w := by
  obtain ⟨hx, hb, hm, ho, ht, hT, hi, hz, hzs, hdf, hdl, hlk⟩ := hX
  intro H locs a cells slots hH hl hL hc hs
  obtain ⟨scr, h1, h2, h3, h4, h5⟩ := hsc
  refine W.alen (n := nI L) (a := ev_rho G 18) (cell := scr) hx hb ?_ h2 (by rw [h4] <;> rfl) rfl rfl hd (kk H locs a cells slots hH hl hL hc hs)
  rw [ev_rho, if_pos (by omega), hH.1 _ (Array.getElem?_eq_some_iff.mp h1).1]
  exact h1
end EvS
theorem lc_0 (x : Int64) : lg_cmp x x = 0 := by simp [lg_cmp]
set_option maxHeartbeats 4000000 in
theorem law_loop {G : Ev_G} {X : Ev_X} (hX : ev_C G M_La_law 10 X) {L : Nat} {xs : Nat → Int32} (hL : L ≤ 3072) (hsc : va_X (G.2.2.2.1 18) L xs X.2.2.2.1 G.2.2.2.2) (hend : ∀ bc bs ls w, ev_W G M_La_law X bc bs 904 ls [.int 1] w) {K : Option Ev_K} : ∀ (t i bc bs : Nat) (ls : Ev_L) (w : Ev_W), L < i + 6 * (t + 1) → i ≤ 3078 → 122 * t ≤ bc → 2013 * t ≤ bs → rl w K → ls.1 0 = some (.ref 18) → ls.1 1 = some (.ref 100) → ls.1 2 = some (.ref 117) → ls.1 3 = some (.int (nI i)) → ev_W G M_La_law X bc bs 18 ls [] w := by
  intro t
  induction t with
  | zero =>
    intro i bc bs ls w hLi hi3 hbc hbs hR l0 l1 l2 l3
    have hK := hR.st.1
    refine q_iload hX 3 d_La_law_18 rfl (by first | rfl | assumption) ?_
    refine q_aload hX 0 d_La_law_19 rfl (by first | rfl | assumption) ?_
    refine r_slen hX hsc d_La_law_20 ?_
    refine r_bipush (v := 6) hX d_La_law_21 (by decide) ?_
    refine r_isub hX d_La_law_23 ?_
    refine r_icmp_gt hX 903 d_La_law_24 (by decide) (fun _ => ?_) (fun c24 => absurd ((la_lt hL hi3).mpr (by omega)) c24)
    refine r_iconst (v := 1) hX d_La_law_903 (by decide) ?_
    exact hend _ _ _ _
  | succ t ih =>
    intro i bc bs ls w hLi hi3 hbc hbs hR l0 l1 l2 l3
    have hK := hR.st.1
    by_cases z : L < i + 6
    · refine q_iload hX 3 d_La_law_18 rfl (by first | rfl | assumption) ?_
      refine q_aload hX 0 d_La_law_19 rfl (by first | rfl | assumption) ?_
      refine r_slen hX hsc d_La_law_20 ?_
      refine r_bipush (v := 6) hX d_La_law_21 (by decide) ?_
      refine r_isub hX d_La_law_23 ?_
      refine r_icmp_gt hX 903 d_La_law_24 (by decide) (fun _ => ?_) (fun c24 => absurd ((la_lt hL hi3).mpr z) c24)
      refine r_iconst (v := 1) hX d_La_law_903 (by decide) ?_
      exact hend _ _ _ _
    · refine q_iload hX 3 d_La_law_18 rfl (by first | rfl | assumption) ?_
      refine q_aload hX 0 d_La_law_19 rfl (by first | rfl | assumption) ?_
      refine r_slen hX hsc d_La_law_20 ?_
      refine r_bipush (v := 6) hX d_La_law_21 (by decide) ?_
      refine r_isub hX d_La_law_23 ?_
      refine r_icmp_gt hX 903 d_La_law_24 (by decide) (fun c24 => absurd c24 (fun y => z ((la_lt hL hi3).mp y))) (fun _ => ?_)
      refine q_aload hX 0 d_La_law_27 rfl (by first | rfl | assumption) ?_
      refine q_iload hX 3 d_La_law_28 rfl (by first | rfl | assumption) ?_
      refine r_sld hX hsc d_La_law_29 (vp_in_nI (by omega) (by omega)) ?_
      refine r_bipush (v := 31) hX d_La_law_30 (by decide) ?_
      refine r_iand hX d_La_law_32 ?_
      obtain ⟨b, hb, eb⟩ := m31 (xs (nI i).toNatClampNeg)
      rw [eb]
      rcases (show b = 0 ∨ b = 1 ∨ b = 2 ∨ b = 3 ∨ b = 4 ∨ b = 5 ∨ b = 6 ∨ b = 7 ∨ b = 8 ∨ b = 9 ∨ b = 10 ∨ b = 11 ∨ b = 12 ∨ b = 13 ∨ b = 14 ∨ b = 15 ∨ b = 16 ∨ b = 17 ∨ b = 18 ∨ b = 19 ∨ 20 ≤ b by omega) with rfl | rfl | rfl | rfl | rfl | rfl | rfl | rfl | rfl | rfl | rfl | rfl | rfl | rfl | rfl | rfl | rfl | rfl | rfl | rfl | hb20
      · refine r_tableIn hX 128 d_La_law_33 (by decide) (by decide) rfl (by decide) ?_
        refine q_aload hX 1 d_La_law_128 rfl (by first | rfl | assumption) ?_
        refine q_aload hX 0 d_La_law_129 rfl (by first | rfl | assumption) ?_
        refine q_iload hX 3 d_La_law_130 rfl (by first | rfl | assumption) ?_
        refine r_iconst (v := 1) hX d_La_law_131 (by decide) ?_
        refine r_iadd hX d_La_law_132 ?_
        rw [nI_1]
        refine r_sld hX hsc d_La_law_133 (vp_in_nI (by omega) (by omega)) ?_
        refine r_i2l hX d_La_law_134 ?_
        refine r_bipush (v := 32) hX d_La_law_135 (by decide) ?_
        refine r_lshl hX d_La_law_137 ?_
        refine q_aload hX 0 d_La_law_138 rfl (by first | rfl | assumption) ?_
        refine q_iload hX 3 d_La_law_139 rfl (by first | rfl | assumption) ?_
        refine r_iconst (v := 2) hX d_La_law_140 (by decide) ?_
        refine r_iadd hX d_La_law_141 ?_
        rw [la_2]
        refine r_sld hX hsc d_La_law_142 (vp_in_nI (by omega) (by omega)) ?_
        refine r_i2l hX d_La_law_143 ?_
        refine r_ldc2 hX d_La_law_144 m_869 ?_
        refine r_land hX d_La_law_147 ?_
        refine r_lor hX d_La_law_148 ?_
        refine q_aload hX 0 d_La_law_149 rfl (by first | rfl | assumption) ?_
        refine q_iload hX 3 d_La_law_150 rfl (by first | rfl | assumption) ?_
        refine r_iconst (v := 3) hX d_La_law_151 (by decide) ?_
        refine r_iadd hX d_La_law_152 ?_
        rw [la_3]
        refine r_sld hX hsc d_La_law_153 (vp_in_nI (by omega) (by omega)) ?_
        refine r_callV (as := [_, _]) hX d_La_law_154 lk_La_15 hR.ef rfl rfl (Nat.le_of_ble_eq_true rfl) (by decide) (bc - 122) (bs - 2013) (by omega) (by omega) (k_feed (G := G) hR _ _) (fun v w1 hq => ?_)
        obtain ⟨x, rfl, ⟨hK, fs, h117⟩, hmm⟩ := hq
        refine q_aload hX 2 d_La_law_157 rfl (by first | rfl | assumption) ?_
        refine q_aload hX 0 d_La_law_158 rfl (by first | rfl | assumption) ?_
        refine q_iload hX 3 d_La_law_159 rfl (by first | rfl | assumption) ?_
        refine r_iconst (v := 1) hX d_La_law_160 (by decide) ?_
        refine r_iadd hX d_La_law_161 ?_
        rw [nI_1]
        refine r_sld hX hsc d_La_law_162 (vp_in_nI (by omega) (by omega)) ?_
        refine r_i2l hX d_La_law_163 ?_
        refine r_bipush (v := 32) hX d_La_law_164 (by decide) ?_
        refine r_lshl hX d_La_law_166 ?_
        refine q_aload hX 0 d_La_law_167 rfl (by first | rfl | assumption) ?_
        refine q_iload hX 3 d_La_law_168 rfl (by first | rfl | assumption) ?_
        refine r_iconst (v := 2) hX d_La_law_169 (by decide) ?_
        refine r_iadd hX d_La_law_170 ?_
        rw [la_2]
        refine r_sld hX hsc d_La_law_171 (vp_in_nI (by omega) (by omega)) ?_
        refine r_i2l hX d_La_law_172 ?_
        refine r_ldc2 hX d_La_law_173 m_869 ?_
        refine r_land hX d_La_law_176 ?_
        refine r_lor hX d_La_law_177 ?_
        refine q_aload hX 0 d_La_law_178 rfl (by first | rfl | assumption) ?_
        refine q_iload hX 3 d_La_law_179 rfl (by first | rfl | assumption) ?_
        refine r_iconst (v := 3) hX d_La_law_180 (by decide) ?_
        refine r_iadd hX d_La_law_181 ?_
        rw [la_3]
        refine r_sld hX hsc d_La_law_182 (vp_in_nI (by omega) (by omega)) ?_
        refine r_callV (as := [_, _]) hX d_La_law_183 lk_La_19 h117 rfl rfl (Nat.le_of_ble_eq_true rfl) (by decide) (bc - 122) (bs - 2013) (by omega) (by omega) (hmm) (fun v w1 hq => ?_)
        obtain ⟨rfl, hR⟩ := hq
        refine r_icmp_eq hX 897 d_La_law_186 (by decide) (fun _ => ?_) (fun c186 => absurd rfl c186)
        refine r_iinc hX d_La_law_897 l3 ?_
        refine r_goto hX 18 d_La_law_900 (by decide) ?_
        exact ih (i + 6) (bc - 122) (bs - 2013) _ _ (by omega) (by omega) (by omega) (by omega) hR l0 l1 l2 (by show some (Value.int (nI i + Int32.ofInt 6)) = _; rw [la_6])
      · refine r_tableIn hX 191 d_La_law_33 (by decide) (by decide) rfl (by decide) ?_
        refine q_aload hX 1 d_La_law_191 rfl (by first | rfl | assumption) ?_
        refine q_aload hX 0 d_La_law_192 rfl (by first | rfl | assumption) ?_
        refine q_iload hX 3 d_La_law_193 rfl (by first | rfl | assumption) ?_
        refine r_iconst (v := 1) hX d_La_law_194 (by decide) ?_
        refine r_iadd hX d_La_law_195 ?_
        rw [nI_1]
        refine r_sld hX hsc d_La_law_196 (vp_in_nI (by omega) (by omega)) ?_
        refine r_if_eq hX 204 d_La_law_197 (by decide) (fun c197 => ?_) (fun c197 => ?_)
        · refine r_iconst (v := 0) hX d_La_law_204 (by decide) ?_
          refine r_callV (as := [_]) hX d_La_law_205 lk_La_20 hR.ef rfl rfl (Nat.le_of_ble_eq_true rfl) (by decide) (bc - 122) (bs - 2013) (by omega) (by omega) (k_take (G := G) hR _) (fun v w1 hq => ?_)
          obtain ⟨x, rfl, ⟨hK, fs, h117⟩, hmm⟩ := hq
          refine q_aload hX 2 d_La_law_208 rfl (by first | rfl | assumption) ?_
          refine q_aload hX 0 d_La_law_209 rfl (by first | rfl | assumption) ?_
          refine q_iload hX 3 d_La_law_210 rfl (by first | rfl | assumption) ?_
          refine r_iconst (v := 1) hX d_La_law_211 (by decide) ?_
          refine r_iadd hX d_La_law_212 ?_
          rw [nI_1]
          refine r_sld hX hsc d_La_law_213 (vp_in_nI (by omega) (by omega)) ?_
          refine r_if_eq hX 221 d_La_law_214 (by decide) (fun _ => ?_) (fun c214 => absurd c197 c214)
          refine r_iconst (v := 0) hX d_La_law_221 (by decide) ?_
          refine r_callV (as := [_]) hX d_La_law_222 lk_La_24 h117 rfl rfl (Nat.le_of_ble_eq_true rfl) (by decide) (bc - 122) (bs - 2013) (by omega) (by omega) (hmm) (fun v w1 hq => ?_)
          obtain ⟨rfl, hR⟩ := hq
          refine r_icmp_eq hX 897 d_La_law_225 (by decide) (fun _ => ?_) (fun c225 => absurd rfl c225)
          refine r_iinc hX d_La_law_897 l3 ?_
          refine r_goto hX 18 d_La_law_900 (by decide) ?_
          exact ih (i + 6) (bc - 122) (bs - 2013) _ _ (by omega) (by omega) (by omega) (by omega) hR l0 l1 l2 (by show some (Value.int (nI i + Int32.ofInt 6)) = _; rw [la_6])
        · refine r_iconst (v := 1) hX d_La_law_200 (by decide) ?_
          refine r_goto hX 205 d_La_law_201 (by decide) ?_
          refine r_callV (as := [_]) hX d_La_law_205 lk_La_20 hR.ef rfl rfl (Nat.le_of_ble_eq_true rfl) (by decide) (bc - 122) (bs - 2013) (by omega) (by omega) (k_take (G := G) hR _) (fun v w1 hq => ?_)
          obtain ⟨x, rfl, ⟨hK, fs, h117⟩, hmm⟩ := hq
          refine q_aload hX 2 d_La_law_208 rfl (by first | rfl | assumption) ?_
          refine q_aload hX 0 d_La_law_209 rfl (by first | rfl | assumption) ?_
          refine q_iload hX 3 d_La_law_210 rfl (by first | rfl | assumption) ?_
          refine r_iconst (v := 1) hX d_La_law_211 (by decide) ?_
          refine r_iadd hX d_La_law_212 ?_
          rw [nI_1]
          refine r_sld hX hsc d_La_law_213 (vp_in_nI (by omega) (by omega)) ?_
          refine r_if_eq hX 221 d_La_law_214 (by decide) (fun c214 => absurd c214 c197) (fun _ => ?_)
          refine r_iconst (v := 1) hX d_La_law_217 (by decide) ?_
          refine r_goto hX 222 d_La_law_218 (by decide) ?_
          refine r_callV (as := [_]) hX d_La_law_222 lk_La_24 h117 rfl rfl (Nat.le_of_ble_eq_true rfl) (by decide) (bc - 122) (bs - 2013) (by omega) (by omega) (hmm) (fun v w1 hq => ?_)
          obtain ⟨rfl, hR⟩ := hq
          refine r_icmp_eq hX 897 d_La_law_225 (by decide) (fun _ => ?_) (fun c225 => absurd rfl c225)
          refine r_iinc hX d_La_law_897 l3 ?_
          refine r_goto hX 18 d_La_law_900 (by decide) ?_
          exact ih (i + 6) (bc - 122) (bs - 2013) _ _ (by omega) (by omega) (by omega) (by omega) hR l0 l1 l2 (by show some (Value.int (nI i + Int32.ofInt 6)) = _; rw [la_6])
      · refine r_tableIn hX 230 d_La_law_33 (by decide) (by decide) rfl (by decide) ?_
        refine q_aload hX 1 d_La_law_230 rfl (by first | rfl | assumption) ?_
        refine q_aload hX 0 d_La_law_231 rfl (by first | rfl | assumption) ?_
        refine q_iload hX 3 d_La_law_232 rfl (by first | rfl | assumption) ?_
        refine r_iconst (v := 1) hX d_La_law_233 (by decide) ?_
        refine r_iadd hX d_La_law_234 ?_
        rw [nI_1]
        refine r_sld hX hsc d_La_law_235 (vp_in_nI (by omega) (by omega)) ?_
        refine r_callV (as := [_]) hX d_La_law_236 lk_La_25 hR.ef rfl rfl (Nat.le_of_ble_eq_true rfl) (by decide) (bc - 122) (bs - 2013) (by omega) (by omega) (k_out (G := G) hR _) (fun v w1 hq => ?_)
        obtain ⟨x, rfl, ⟨hK, fs, h117⟩, hmm⟩ := hq
        refine q_aload hX 2 d_La_law_239 rfl (by first | rfl | assumption) ?_
        refine q_aload hX 0 d_La_law_240 rfl (by first | rfl | assumption) ?_
        refine q_iload hX 3 d_La_law_241 rfl (by first | rfl | assumption) ?_
        refine r_iconst (v := 1) hX d_La_law_242 (by decide) ?_
        refine r_iadd hX d_La_law_243 ?_
        rw [nI_1]
        refine r_sld hX hsc d_La_law_244 (vp_in_nI (by omega) (by omega)) ?_
        refine r_callV (as := [_]) hX d_La_law_245 lk_La_29 h117 rfl rfl (Nat.le_of_ble_eq_true rfl) (by decide) (bc - 122) (bs - 2013) (by omega) (by omega) (hmm) (fun v w1 hq => ?_)
        obtain ⟨rfl, hR⟩ := hq
        refine r_icmp_eq hX 897 d_La_law_248 (by decide) (fun _ => ?_) (fun c248 => absurd rfl c248)
        refine r_iinc hX d_La_law_897 l3 ?_
        refine r_goto hX 18 d_La_law_900 (by decide) ?_
        exact ih (i + 6) (bc - 122) (bs - 2013) _ _ (by omega) (by omega) (by omega) (by omega) hR l0 l1 l2 (by show some (Value.int (nI i + Int32.ofInt 6)) = _; rw [la_6])
      · refine r_tableIn hX 253 d_La_law_33 (by decide) (by decide) rfl (by decide) ?_
        refine q_aload hX 1 d_La_law_253 rfl (by first | rfl | assumption) ?_
        refine r_callV (as := []) hX d_La_law_254 lk_La_30 hR.ef rfl rfl (Nat.le_of_ble_eq_true rfl) (by decide) (bc - 122) (bs - 2013) (by omega) (by omega) (k_read (G := G) hR) (fun v w1 hq => ?_)
        obtain ⟨x, rfl, ⟨hK, fs, h117⟩, hmm⟩ := hq
        refine q_aload hX 2 d_La_law_257 rfl (by first | rfl | assumption) ?_
        refine r_callV (as := []) hX d_La_law_258 lk_La_34 h117 rfl rfl (Nat.le_of_ble_eq_true rfl) (by decide) (bc - 122) (bs - 2013) (by omega) (by omega) (hmm) (fun v w1 hq => ?_)
        obtain ⟨rfl, hR⟩ := hq
        refine r_icmp_eq hX 897 d_La_law_261 (by decide) (fun _ => ?_) (fun c261 => absurd rfl c261)
        refine r_iinc hX d_La_law_897 l3 ?_
        refine r_goto hX 18 d_La_law_900 (by decide) ?_
        exact ih (i + 6) (bc - 122) (bs - 2013) _ _ (by omega) (by omega) (by omega) (by omega) hR l0 l1 l2 (by show some (Value.int (nI i + Int32.ofInt 6)) = _; rw [la_6])
      · refine r_tableIn hX 266 d_La_law_33 (by decide) (by decide) rfl (by decide) ?_
        refine q_aload hX 1 d_La_law_266 rfl (by first | rfl | assumption) ?_
        refine r_callV (as := []) hX d_La_law_267 lk_La_35 hR.ef rfl rfl (Nat.le_of_ble_eq_true rfl) (by decide) (bc - 122) (bs - 2013) (by omega) (by omega) (k_where (G := G) hR) (fun v w1 hq => ?_)
        obtain ⟨x, rfl, ⟨hK, fs, h117⟩, hmm⟩ := hq
        refine q_aload hX 2 d_La_law_270 rfl (by first | rfl | assumption) ?_
        refine r_callV (as := []) hX d_La_law_271 lk_La_38 h117 rfl rfl (Nat.le_of_ble_eq_true rfl) (by decide) (bc - 122) (bs - 2013) (by omega) (by omega) (hmm) (fun v w1 hq => ?_)
        obtain ⟨rfl, hR⟩ := hq
        refine r_icmp_eq hX 897 d_La_law_274 (by decide) (fun _ => ?_) (fun c274 => absurd rfl c274)
        refine r_iinc hX d_La_law_897 l3 ?_
        refine r_goto hX 18 d_La_law_900 (by decide) ?_
        exact ih (i + 6) (bc - 122) (bs - 2013) _ _ (by omega) (by omega) (by omega) (by omega) hR l0 l1 l2 (by show some (Value.int (nI i + Int32.ofInt 6)) = _; rw [la_6])
      · refine r_tableIn hX 279 d_La_law_33 (by decide) (by decide) rfl (by decide) ?_
        refine q_aload hX 1 d_La_law_279 rfl (by first | rfl | assumption) ?_
        refine r_callV (as := []) hX d_La_law_280 lk_La_39 hR.ef rfl rfl (Nat.le_of_ble_eq_true rfl) (by decide) (bc - 122) (bs - 2013) (by omega) (by omega) (k_clear (G := G) hR) (fun v w1 hq => ?_)
        obtain ⟨rfl, ⟨hK, fs, h117⟩, hmm⟩ := hq
        refine q_aload hX 2 d_La_law_283 rfl (by first | rfl | assumption) ?_
        refine r_callV (as := []) hX d_La_law_284 lk_La_42 h117 rfl rfl (Nat.le_of_ble_eq_true rfl) (by decide) (bc - 122) (bs - 2013) (by omega) (by omega) (hmm) (fun v w1 hq => ?_)
        obtain ⟨rfl, hR⟩ := hq
        refine r_goto hX 897 d_La_law_287 (by decide) ?_
        refine r_iinc hX d_La_law_897 l3 ?_
        refine r_goto hX 18 d_La_law_900 (by decide) ?_
        exact ih (i + 6) (bc - 122) (bs - 2013) _ _ (by omega) (by omega) (by omega) (by omega) hR l0 l1 l2 (by show some (Value.int (nI i + Int32.ofInt 6)) = _; rw [la_6])
      · refine r_tableIn hX 290 d_La_law_33 (by decide) (by decide) rfl (by decide) ?_
        refine q_aload hX 1 d_La_law_290 rfl (by first | rfl | assumption) ?_
        refine q_aload hX 0 d_La_law_291 rfl (by first | rfl | assumption) ?_
        refine q_iload hX 3 d_La_law_292 rfl (by first | rfl | assumption) ?_
        refine r_iconst (v := 1) hX d_La_law_293 (by decide) ?_
        refine r_iadd hX d_La_law_294 ?_
        rw [nI_1]
        refine r_sld hX hsc d_La_law_295 (vp_in_nI (by omega) (by omega)) ?_
        refine q_aload hX 0 d_La_law_296 rfl (by first | rfl | assumption) ?_
        refine q_iload hX 3 d_La_law_297 rfl (by first | rfl | assumption) ?_
        refine r_iconst (v := 2) hX d_La_law_298 (by decide) ?_
        refine r_iadd hX d_La_law_299 ?_
        rw [la_2]
        refine r_sld hX hsc d_La_law_300 (vp_in_nI (by omega) (by omega)) ?_
        refine q_aload hX 0 d_La_law_301 rfl (by first | rfl | assumption) ?_
        refine q_iload hX 3 d_La_law_302 rfl (by first | rfl | assumption) ?_
        refine r_iconst (v := 3) hX d_La_law_303 (by decide) ?_
        refine r_iadd hX d_La_law_304 ?_
        rw [la_3]
        refine r_sld hX hsc d_La_law_305 (vp_in_nI (by omega) (by omega)) ?_
        refine r_i2l hX d_La_law_306 ?_
        refine r_bipush (v := 32) hX d_La_law_307 (by decide) ?_
        refine r_lshl hX d_La_law_309 ?_
        refine q_aload hX 0 d_La_law_310 rfl (by first | rfl | assumption) ?_
        refine q_iload hX 3 d_La_law_311 rfl (by first | rfl | assumption) ?_
        refine r_iconst (v := 4) hX d_La_law_312 (by decide) ?_
        refine r_iadd hX d_La_law_313 ?_
        rw [la_4]
        refine r_sld hX hsc d_La_law_314 (vp_in_nI (by omega) (by omega)) ?_
        refine r_i2l hX d_La_law_315 ?_
        refine r_ldc2 hX d_La_law_316 m_869 ?_
        refine r_land hX d_La_law_319 ?_
        refine r_lor hX d_La_law_320 ?_
        refine r_callV (as := [_, _, _]) hX d_La_law_321 lk_La_43 hR.ef rfl rfl (Nat.le_of_ble_eq_true rfl) (by decide) (bc - 122) (bs - 2013) (by omega) (by omega) (k_make (G := G) hR _ _ _) (fun v w1 hq => ?_)
        obtain ⟨x, rfl, ⟨hK, fs, h117⟩, hmm⟩ := hq
        refine q_aload hX 2 d_La_law_324 rfl (by first | rfl | assumption) ?_
        refine q_aload hX 0 d_La_law_325 rfl (by first | rfl | assumption) ?_
        refine q_iload hX 3 d_La_law_326 rfl (by first | rfl | assumption) ?_
        refine r_iconst (v := 1) hX d_La_law_327 (by decide) ?_
        refine r_iadd hX d_La_law_328 ?_
        rw [nI_1]
        refine r_sld hX hsc d_La_law_329 (vp_in_nI (by omega) (by omega)) ?_
        refine q_aload hX 0 d_La_law_330 rfl (by first | rfl | assumption) ?_
        refine q_iload hX 3 d_La_law_331 rfl (by first | rfl | assumption) ?_
        refine r_iconst (v := 2) hX d_La_law_332 (by decide) ?_
        refine r_iadd hX d_La_law_333 ?_
        rw [la_2]
        refine r_sld hX hsc d_La_law_334 (vp_in_nI (by omega) (by omega)) ?_
        refine q_aload hX 0 d_La_law_335 rfl (by first | rfl | assumption) ?_
        refine q_iload hX 3 d_La_law_336 rfl (by first | rfl | assumption) ?_
        refine r_iconst (v := 3) hX d_La_law_337 (by decide) ?_
        refine r_iadd hX d_La_law_338 ?_
        rw [la_3]
        refine r_sld hX hsc d_La_law_339 (vp_in_nI (by omega) (by omega)) ?_
        refine r_i2l hX d_La_law_340 ?_
        refine r_bipush (v := 32) hX d_La_law_341 (by decide) ?_
        refine r_lshl hX d_La_law_343 ?_
        refine q_aload hX 0 d_La_law_344 rfl (by first | rfl | assumption) ?_
        refine q_iload hX 3 d_La_law_345 rfl (by first | rfl | assumption) ?_
        refine r_iconst (v := 4) hX d_La_law_346 (by decide) ?_
        refine r_iadd hX d_La_law_347 ?_
        rw [la_4]
        refine r_sld hX hsc d_La_law_348 (vp_in_nI (by omega) (by omega)) ?_
        refine r_i2l hX d_La_law_349 ?_
        refine r_ldc2 hX d_La_law_350 m_869 ?_
        refine r_land hX d_La_law_353 ?_
        refine r_lor hX d_La_law_354 ?_
        refine r_callV (as := [_, _, _]) hX d_La_law_355 lk_La_47 h117 rfl rfl (Nat.le_of_ble_eq_true rfl) (by decide) (bc - 122) (bs - 2013) (by omega) (by omega) (hmm) (fun v w1 hq => ?_)
        obtain ⟨rfl, hR⟩ := hq
        refine r_icmp_eq hX 897 d_La_law_358 (by decide) (fun _ => ?_) (fun c358 => absurd rfl c358)
        refine r_iinc hX d_La_law_897 l3 ?_
        refine r_goto hX 18 d_La_law_900 (by decide) ?_
        exact ih (i + 6) (bc - 122) (bs - 2013) _ _ (by omega) (by omega) (by omega) (by omega) hR l0 l1 l2 (by show some (Value.int (nI i + Int32.ofInt 6)) = _; rw [la_6])
      · refine r_tableIn hX 363 d_La_law_33 (by decide) (by decide) rfl (by decide) ?_
        refine q_aload hX 1 d_La_law_363 rfl (by first | rfl | assumption) ?_
        refine q_aload hX 0 d_La_law_364 rfl (by first | rfl | assumption) ?_
        refine q_iload hX 3 d_La_law_365 rfl (by first | rfl | assumption) ?_
        refine r_iconst (v := 1) hX d_La_law_366 (by decide) ?_
        refine r_iadd hX d_La_law_367 ?_
        rw [nI_1]
        refine r_sld hX hsc d_La_law_368 (vp_in_nI (by omega) (by omega)) ?_
        refine q_aload hX 0 d_La_law_369 rfl (by first | rfl | assumption) ?_
        refine q_iload hX 3 d_La_law_370 rfl (by first | rfl | assumption) ?_
        refine r_iconst (v := 2) hX d_La_law_371 (by decide) ?_
        refine r_iadd hX d_La_law_372 ?_
        rw [la_2]
        refine r_sld hX hsc d_La_law_373 (vp_in_nI (by omega) (by omega)) ?_
        refine r_i2c hX d_La_law_374 ?_
        refine r_callV (as := [_, _]) hX d_La_law_375 lk_La_48 hR.ef rfl rfl (Nat.le_of_ble_eq_true rfl) (by decide) (bc - 122) (bs - 2013) (by omega) (by omega) (k_letter (G := G) hR _ _) (fun v w1 hq => ?_)
        obtain ⟨x, rfl, ⟨hK, fs, h117⟩, hmm⟩ := hq
        refine q_aload hX 2 d_La_law_378 rfl (by first | rfl | assumption) ?_
        refine q_aload hX 0 d_La_law_379 rfl (by first | rfl | assumption) ?_
        refine q_iload hX 3 d_La_law_380 rfl (by first | rfl | assumption) ?_
        refine r_iconst (v := 1) hX d_La_law_381 (by decide) ?_
        refine r_iadd hX d_La_law_382 ?_
        rw [nI_1]
        refine r_sld hX hsc d_La_law_383 (vp_in_nI (by omega) (by omega)) ?_
        refine q_aload hX 0 d_La_law_384 rfl (by first | rfl | assumption) ?_
        refine q_iload hX 3 d_La_law_385 rfl (by first | rfl | assumption) ?_
        refine r_iconst (v := 2) hX d_La_law_386 (by decide) ?_
        refine r_iadd hX d_La_law_387 ?_
        rw [la_2]
        refine r_sld hX hsc d_La_law_388 (vp_in_nI (by omega) (by omega)) ?_
        refine r_i2c hX d_La_law_389 ?_
        refine r_callV (as := [_, _]) hX d_La_law_390 lk_La_52 h117 rfl rfl (Nat.le_of_ble_eq_true rfl) (by decide) (bc - 122) (bs - 2013) (by omega) (by omega) (hmm) (fun v w1 hq => ?_)
        obtain ⟨rfl, hR⟩ := hq
        refine r_icmp_eq hX 897 d_La_law_393 (by decide) (fun _ => ?_) (fun c393 => absurd rfl c393)
        refine r_iinc hX d_La_law_897 l3 ?_
        refine r_goto hX 18 d_La_law_900 (by decide) ?_
        exact ih (i + 6) (bc - 122) (bs - 2013) _ _ (by omega) (by omega) (by omega) (by omega) hR l0 l1 l2 (by show some (Value.int (nI i + Int32.ofInt 6)) = _; rw [la_6])
      · refine r_tableIn hX 398 d_La_law_33 (by decide) (by decide) rfl (by decide) ?_
        refine q_aload hX 1 d_La_law_398 rfl (by first | rfl | assumption) ?_
        refine q_aload hX 0 d_La_law_399 rfl (by first | rfl | assumption) ?_
        refine q_iload hX 3 d_La_law_400 rfl (by first | rfl | assumption) ?_
        refine r_iconst (v := 1) hX d_La_law_401 (by decide) ?_
        refine r_iadd hX d_La_law_402 ?_
        rw [nI_1]
        refine r_sld hX hsc d_La_law_403 (vp_in_nI (by omega) (by omega)) ?_
        refine q_aload hX 0 d_La_law_404 rfl (by first | rfl | assumption) ?_
        refine q_iload hX 3 d_La_law_405 rfl (by first | rfl | assumption) ?_
        refine r_iconst (v := 2) hX d_La_law_406 (by decide) ?_
        refine r_iadd hX d_La_law_407 ?_
        rw [la_2]
        refine r_sld hX hsc d_La_law_408 (vp_in_nI (by omega) (by omega)) ?_
        refine r_callV (as := [_, _]) hX d_La_law_409 lk_La_53 hR.ef rfl rfl (Nat.le_of_ble_eq_true rfl) (by decide) (bc - 122) (bs - 2013) (by omega) (by omega) (k_frame (G := G) hR _ _) (fun v w1 hq => ?_)
        obtain ⟨x, rfl, ⟨hK, fs, h117⟩, hmm⟩ := hq
        refine q_aload hX 2 d_La_law_412 rfl (by first | rfl | assumption) ?_
        refine q_aload hX 0 d_La_law_413 rfl (by first | rfl | assumption) ?_
        refine q_iload hX 3 d_La_law_414 rfl (by first | rfl | assumption) ?_
        refine r_iconst (v := 1) hX d_La_law_415 (by decide) ?_
        refine r_iadd hX d_La_law_416 ?_
        rw [nI_1]
        refine r_sld hX hsc d_La_law_417 (vp_in_nI (by omega) (by omega)) ?_
        refine q_aload hX 0 d_La_law_418 rfl (by first | rfl | assumption) ?_
        refine q_iload hX 3 d_La_law_419 rfl (by first | rfl | assumption) ?_
        refine r_iconst (v := 2) hX d_La_law_420 (by decide) ?_
        refine r_iadd hX d_La_law_421 ?_
        rw [la_2]
        refine r_sld hX hsc d_La_law_422 (vp_in_nI (by omega) (by omega)) ?_
        refine r_callV (as := [_, _]) hX d_La_law_423 lk_La_57 h117 rfl rfl (Nat.le_of_ble_eq_true rfl) (by decide) (bc - 122) (bs - 2013) (by omega) (by omega) (hmm) (fun v w1 hq => ?_)
        obtain ⟨rfl, hR⟩ := hq
        refine r_icmp_eq hX 897 d_La_law_426 (by decide) (fun _ => ?_) (fun c426 => absurd rfl c426)
        refine r_iinc hX d_La_law_897 l3 ?_
        refine r_goto hX 18 d_La_law_900 (by decide) ?_
        exact ih (i + 6) (bc - 122) (bs - 2013) _ _ (by omega) (by omega) (by omega) (by omega) hR l0 l1 l2 (by show some (Value.int (nI i + Int32.ofInt 6)) = _; rw [la_6])
      · refine r_tableIn hX 431 d_La_law_33 (by decide) (by decide) rfl (by decide) ?_
        refine q_aload hX 1 d_La_law_431 rfl (by first | rfl | assumption) ?_
        refine q_aload hX 0 d_La_law_432 rfl (by first | rfl | assumption) ?_
        refine q_iload hX 3 d_La_law_433 rfl (by first | rfl | assumption) ?_
        refine r_iconst (v := 1) hX d_La_law_434 (by decide) ?_
        refine r_iadd hX d_La_law_435 ?_
        rw [nI_1]
        refine r_sld hX hsc d_La_law_436 (vp_in_nI (by omega) (by omega)) ?_
        refine q_aload hX 0 d_La_law_437 rfl (by first | rfl | assumption) ?_
        refine q_iload hX 3 d_La_law_438 rfl (by first | rfl | assumption) ?_
        refine r_iconst (v := 2) hX d_La_law_439 (by decide) ?_
        refine r_iadd hX d_La_law_440 ?_
        rw [la_2]
        refine r_sld hX hsc d_La_law_441 (vp_in_nI (by omega) (by omega)) ?_
        refine q_aload hX 0 d_La_law_442 rfl (by first | rfl | assumption) ?_
        refine q_iload hX 3 d_La_law_443 rfl (by first | rfl | assumption) ?_
        refine r_iconst (v := 3) hX d_La_law_444 (by decide) ?_
        refine r_iadd hX d_La_law_445 ?_
        rw [la_3]
        refine r_sld hX hsc d_La_law_446 (vp_in_nI (by omega) (by omega)) ?_
        refine q_aload hX 0 d_La_law_447 rfl (by first | rfl | assumption) ?_
        refine q_iload hX 3 d_La_law_448 rfl (by first | rfl | assumption) ?_
        refine r_iconst (v := 4) hX d_La_law_449 (by decide) ?_
        refine r_iadd hX d_La_law_450 ?_
        rw [la_4]
        refine r_sld hX hsc d_La_law_451 (vp_in_nI (by omega) (by omega)) ?_
        refine r_if_eq hX 459 d_La_law_452 (by decide) (fun c452 => ?_) (fun c452 => ?_)
        · refine r_iconst (v := 0) hX d_La_law_459 (by decide) ?_
          refine q_aload hX 0 d_La_law_460 rfl (by first | rfl | assumption) ?_
          refine q_iload hX 3 d_La_law_461 rfl (by first | rfl | assumption) ?_
          refine r_iconst (v := 5) hX d_La_law_462 (by decide) ?_
          refine r_iadd hX d_La_law_463 ?_
          rw [la_5]
          refine r_sld hX hsc d_La_law_464 (vp_in_nI (by omega) (by omega)) ?_
          refine r_callV (as := [_, _, _, _, _]) hX d_La_law_465 lk_La_58 hR.ef rfl rfl (Nat.le_of_ble_eq_true rfl) (by decide) (bc - 122) (bs - 2013) (by omega) (by omega) (k_block (G := G) hR _ _ _ _ _ (Or.inl rfl)) (fun v w1 hq => ?_)
          obtain ⟨x, rfl, ⟨hK, fs, h117⟩, hmm⟩ := hq
          refine q_aload hX 2 d_La_law_468 rfl (by first | rfl | assumption) ?_
          refine q_aload hX 0 d_La_law_469 rfl (by first | rfl | assumption) ?_
          refine q_iload hX 3 d_La_law_470 rfl (by first | rfl | assumption) ?_
          refine r_iconst (v := 1) hX d_La_law_471 (by decide) ?_
          refine r_iadd hX d_La_law_472 ?_
          rw [nI_1]
          refine r_sld hX hsc d_La_law_473 (vp_in_nI (by omega) (by omega)) ?_
          refine q_aload hX 0 d_La_law_474 rfl (by first | rfl | assumption) ?_
          refine q_iload hX 3 d_La_law_475 rfl (by first | rfl | assumption) ?_
          refine r_iconst (v := 2) hX d_La_law_476 (by decide) ?_
          refine r_iadd hX d_La_law_477 ?_
          rw [la_2]
          refine r_sld hX hsc d_La_law_478 (vp_in_nI (by omega) (by omega)) ?_
          refine q_aload hX 0 d_La_law_479 rfl (by first | rfl | assumption) ?_
          refine q_iload hX 3 d_La_law_480 rfl (by first | rfl | assumption) ?_
          refine r_iconst (v := 3) hX d_La_law_481 (by decide) ?_
          refine r_iadd hX d_La_law_482 ?_
          rw [la_3]
          refine r_sld hX hsc d_La_law_483 (vp_in_nI (by omega) (by omega)) ?_
          refine q_aload hX 0 d_La_law_484 rfl (by first | rfl | assumption) ?_
          refine q_iload hX 3 d_La_law_485 rfl (by first | rfl | assumption) ?_
          refine r_iconst (v := 4) hX d_La_law_486 (by decide) ?_
          refine r_iadd hX d_La_law_487 ?_
          rw [la_4]
          refine r_sld hX hsc d_La_law_488 (vp_in_nI (by omega) (by omega)) ?_
          refine r_if_eq hX 496 d_La_law_489 (by decide) (fun _ => ?_) (fun c489 => absurd c452 c489)
          refine r_iconst (v := 0) hX d_La_law_496 (by decide) ?_
          refine q_aload hX 0 d_La_law_497 rfl (by first | rfl | assumption) ?_
          refine q_iload hX 3 d_La_law_498 rfl (by first | rfl | assumption) ?_
          refine r_iconst (v := 5) hX d_La_law_499 (by decide) ?_
          refine r_iadd hX d_La_law_500 ?_
          rw [la_5]
          refine r_sld hX hsc d_La_law_501 (vp_in_nI (by omega) (by omega)) ?_
          refine r_callV (as := [_, _, _, _, _]) hX d_La_law_502 lk_La_62 h117 rfl rfl (Nat.le_of_ble_eq_true rfl) (by decide) (bc - 122) (bs - 2013) (by omega) (by omega) (hmm) (fun v w1 hq => ?_)
          obtain ⟨rfl, hR⟩ := hq
          refine r_icmp_eq hX 897 d_La_law_505 (by decide) (fun _ => ?_) (fun c505 => absurd rfl c505)
          refine r_iinc hX d_La_law_897 l3 ?_
          refine r_goto hX 18 d_La_law_900 (by decide) ?_
          exact ih (i + 6) (bc - 122) (bs - 2013) _ _ (by omega) (by omega) (by omega) (by omega) hR l0 l1 l2 (by show some (Value.int (nI i + Int32.ofInt 6)) = _; rw [la_6])
        · refine r_iconst (v := 1) hX d_La_law_455 (by decide) ?_
          refine r_goto hX 460 d_La_law_456 (by decide) ?_
          refine q_aload hX 0 d_La_law_460 rfl (by first | rfl | assumption) ?_
          refine q_iload hX 3 d_La_law_461 rfl (by first | rfl | assumption) ?_
          refine r_iconst (v := 5) hX d_La_law_462 (by decide) ?_
          refine r_iadd hX d_La_law_463 ?_
          rw [la_5]
          refine r_sld hX hsc d_La_law_464 (vp_in_nI (by omega) (by omega)) ?_
          refine r_callV (as := [_, _, _, _, _]) hX d_La_law_465 lk_La_58 hR.ef rfl rfl (Nat.le_of_ble_eq_true rfl) (by decide) (bc - 122) (bs - 2013) (by omega) (by omega) (k_block (G := G) hR _ _ _ _ _ (Or.inr rfl)) (fun v w1 hq => ?_)
          obtain ⟨x, rfl, ⟨hK, fs, h117⟩, hmm⟩ := hq
          refine q_aload hX 2 d_La_law_468 rfl (by first | rfl | assumption) ?_
          refine q_aload hX 0 d_La_law_469 rfl (by first | rfl | assumption) ?_
          refine q_iload hX 3 d_La_law_470 rfl (by first | rfl | assumption) ?_
          refine r_iconst (v := 1) hX d_La_law_471 (by decide) ?_
          refine r_iadd hX d_La_law_472 ?_
          rw [nI_1]
          refine r_sld hX hsc d_La_law_473 (vp_in_nI (by omega) (by omega)) ?_
          refine q_aload hX 0 d_La_law_474 rfl (by first | rfl | assumption) ?_
          refine q_iload hX 3 d_La_law_475 rfl (by first | rfl | assumption) ?_
          refine r_iconst (v := 2) hX d_La_law_476 (by decide) ?_
          refine r_iadd hX d_La_law_477 ?_
          rw [la_2]
          refine r_sld hX hsc d_La_law_478 (vp_in_nI (by omega) (by omega)) ?_
          refine q_aload hX 0 d_La_law_479 rfl (by first | rfl | assumption) ?_
          refine q_iload hX 3 d_La_law_480 rfl (by first | rfl | assumption) ?_
          refine r_iconst (v := 3) hX d_La_law_481 (by decide) ?_
          refine r_iadd hX d_La_law_482 ?_
          rw [la_3]
          refine r_sld hX hsc d_La_law_483 (vp_in_nI (by omega) (by omega)) ?_
          refine q_aload hX 0 d_La_law_484 rfl (by first | rfl | assumption) ?_
          refine q_iload hX 3 d_La_law_485 rfl (by first | rfl | assumption) ?_
          refine r_iconst (v := 4) hX d_La_law_486 (by decide) ?_
          refine r_iadd hX d_La_law_487 ?_
          rw [la_4]
          refine r_sld hX hsc d_La_law_488 (vp_in_nI (by omega) (by omega)) ?_
          refine r_if_eq hX 496 d_La_law_489 (by decide) (fun c489 => absurd c489 c452) (fun _ => ?_)
          refine r_iconst (v := 1) hX d_La_law_492 (by decide) ?_
          refine r_goto hX 497 d_La_law_493 (by decide) ?_
          refine q_aload hX 0 d_La_law_497 rfl (by first | rfl | assumption) ?_
          refine q_iload hX 3 d_La_law_498 rfl (by first | rfl | assumption) ?_
          refine r_iconst (v := 5) hX d_La_law_499 (by decide) ?_
          refine r_iadd hX d_La_law_500 ?_
          rw [la_5]
          refine r_sld hX hsc d_La_law_501 (vp_in_nI (by omega) (by omega)) ?_
          refine r_callV (as := [_, _, _, _, _]) hX d_La_law_502 lk_La_62 h117 rfl rfl (Nat.le_of_ble_eq_true rfl) (by decide) (bc - 122) (bs - 2013) (by omega) (by omega) (hmm) (fun v w1 hq => ?_)
          obtain ⟨rfl, hR⟩ := hq
          refine r_icmp_eq hX 897 d_La_law_505 (by decide) (fun _ => ?_) (fun c505 => absurd rfl c505)
          refine r_iinc hX d_La_law_897 l3 ?_
          refine r_goto hX 18 d_La_law_900 (by decide) ?_
          exact ih (i + 6) (bc - 122) (bs - 2013) _ _ (by omega) (by omega) (by omega) (by omega) hR l0 l1 l2 (by show some (Value.int (nI i + Int32.ofInt 6)) = _; rw [la_6])
      · refine r_tableIn hX 510 d_La_law_33 (by decide) (by decide) rfl (by decide) ?_
        refine q_aload hX 1 d_La_law_510 rfl (by first | rfl | assumption) ?_
        refine q_aload hX 0 d_La_law_511 rfl (by first | rfl | assumption) ?_
        refine q_iload hX 3 d_La_law_512 rfl (by first | rfl | assumption) ?_
        refine r_iconst (v := 1) hX d_La_law_513 (by decide) ?_
        refine r_iadd hX d_La_law_514 ?_
        rw [nI_1]
        refine r_sld hX hsc d_La_law_515 (vp_in_nI (by omega) (by omega)) ?_
        refine r_callV (as := [_]) hX d_La_law_516 lk_La_63 hR.ef rfl rfl (Nat.le_of_ble_eq_true rfl) (by decide) (bc - 122) (bs - 2013) (by omega) (by omega) (k_id (G := G) hR _) (fun v w1 hq => ?_)
        obtain ⟨x, rfl, ⟨hK, fs, h117⟩, hmm⟩ := hq
        refine q_aload hX 2 d_La_law_519 rfl (by first | rfl | assumption) ?_
        refine q_aload hX 0 d_La_law_520 rfl (by first | rfl | assumption) ?_
        refine q_iload hX 3 d_La_law_521 rfl (by first | rfl | assumption) ?_
        refine r_iconst (v := 1) hX d_La_law_522 (by decide) ?_
        refine r_iadd hX d_La_law_523 ?_
        rw [nI_1]
        refine r_sld hX hsc d_La_law_524 (vp_in_nI (by omega) (by omega)) ?_
        refine r_callV (as := [_]) hX d_La_law_525 lk_La_66 h117 rfl rfl (Nat.le_of_ble_eq_true rfl) (by decide) (bc - 122) (bs - 2013) (by omega) (by omega) (hmm) (fun v w1 hq => ?_)
        obtain ⟨rfl, hR⟩ := hq
        refine r_icmp_eq hX 897 d_La_law_528 (by decide) (fun _ => ?_) (fun c528 => absurd rfl c528)
        refine r_iinc hX d_La_law_897 l3 ?_
        refine r_goto hX 18 d_La_law_900 (by decide) ?_
        exact ih (i + 6) (bc - 122) (bs - 2013) _ _ (by omega) (by omega) (by omega) (by omega) hR l0 l1 l2 (by show some (Value.int (nI i + Int32.ofInt 6)) = _; rw [la_6])
      · refine r_tableIn hX 533 d_La_law_33 (by decide) (by decide) rfl (by decide) ?_
        refine q_aload hX 1 d_La_law_533 rfl (by first | rfl | assumption) ?_
        refine q_aload hX 0 d_La_law_534 rfl (by first | rfl | assumption) ?_
        refine q_iload hX 3 d_La_law_535 rfl (by first | rfl | assumption) ?_
        refine r_iconst (v := 1) hX d_La_law_536 (by decide) ?_
        refine r_iadd hX d_La_law_537 ?_
        rw [nI_1]
        refine r_sld hX hsc d_La_law_538 (vp_in_nI (by omega) (by omega)) ?_
        refine r_callV (as := [_]) hX d_La_law_539 lk_La_67 hR.ef rfl rfl (Nat.le_of_ble_eq_true rfl) (by decide) (bc - 122) (bs - 2013) (by omega) (by omega) (k_parent (G := G) hR _) (fun v w1 hq => ?_)
        obtain ⟨x, rfl, ⟨hK, fs, h117⟩, hmm⟩ := hq
        refine q_aload hX 2 d_La_law_542 rfl (by first | rfl | assumption) ?_
        refine q_aload hX 0 d_La_law_543 rfl (by first | rfl | assumption) ?_
        refine q_iload hX 3 d_La_law_544 rfl (by first | rfl | assumption) ?_
        refine r_iconst (v := 1) hX d_La_law_545 (by decide) ?_
        refine r_iadd hX d_La_law_546 ?_
        rw [nI_1]
        refine r_sld hX hsc d_La_law_547 (vp_in_nI (by omega) (by omega)) ?_
        refine r_callV (as := [_]) hX d_La_law_548 lk_La_70 h117 rfl rfl (Nat.le_of_ble_eq_true rfl) (by decide) (bc - 122) (bs - 2013) (by omega) (by omega) (hmm) (fun v w1 hq => ?_)
        obtain ⟨rfl, hR⟩ := hq
        refine r_icmp_eq hX 897 d_La_law_551 (by decide) (fun _ => ?_) (fun c551 => absurd rfl c551)
        refine r_iinc hX d_La_law_897 l3 ?_
        refine r_goto hX 18 d_La_law_900 (by decide) ?_
        exact ih (i + 6) (bc - 122) (bs - 2013) _ _ (by omega) (by omega) (by omega) (by omega) hR l0 l1 l2 (by show some (Value.int (nI i + Int32.ofInt 6)) = _; rw [la_6])
      · refine r_tableIn hX 556 d_La_law_33 (by decide) (by decide) rfl (by decide) ?_
        refine q_aload hX 1 d_La_law_556 rfl (by first | rfl | assumption) ?_
        refine q_aload hX 0 d_La_law_557 rfl (by first | rfl | assumption) ?_
        refine q_iload hX 3 d_La_law_558 rfl (by first | rfl | assumption) ?_
        refine r_iconst (v := 1) hX d_La_law_559 (by decide) ?_
        refine r_iadd hX d_La_law_560 ?_
        rw [nI_1]
        refine r_sld hX hsc d_La_law_561 (vp_in_nI (by omega) (by omega)) ?_
        refine r_callV (as := [_]) hX d_La_law_562 lk_La_71 hR.ef rfl rfl (Nat.le_of_ble_eq_true rfl) (by decide) (bc - 122) (bs - 2013) (by omega) (by omega) (k_value (G := G) hR _) (fun v w1 hq => ?_)
        obtain ⟨x, rfl, ⟨hK, fs, h117⟩, hmm⟩ := hq
        refine q_aload hX 2 d_La_law_565 rfl (by first | rfl | assumption) ?_
        refine q_aload hX 0 d_La_law_566 rfl (by first | rfl | assumption) ?_
        refine q_iload hX 3 d_La_law_567 rfl (by first | rfl | assumption) ?_
        refine r_iconst (v := 1) hX d_La_law_568 (by decide) ?_
        refine r_iadd hX d_La_law_569 ?_
        rw [nI_1]
        refine r_sld hX hsc d_La_law_570 (vp_in_nI (by omega) (by omega)) ?_
        refine r_callV (as := [_]) hX d_La_law_571 lk_La_75 h117 rfl rfl (Nat.le_of_ble_eq_true rfl) (by decide) (bc - 122) (bs - 2013) (by omega) (by omega) (hmm) (fun v w1 hq => ?_)
        obtain ⟨rfl, hR⟩ := hq
        refine r_lcmp hX d_La_law_574 ?_
        refine r_if_eq hX 897 d_La_law_575 (by decide) (fun _ => ?_) (fun c575 => absurd (lc_0 _) c575)
        refine r_iinc hX d_La_law_897 l3 ?_
        refine r_goto hX 18 d_La_law_900 (by decide) ?_
        exact ih (i + 6) (bc - 122) (bs - 2013) _ _ (by omega) (by omega) (by omega) (by omega) hR l0 l1 l2 (by show some (Value.int (nI i + Int32.ofInt 6)) = _; rw [la_6])
      · refine r_tableIn hX 580 d_La_law_33 (by decide) (by decide) rfl (by decide) ?_
        refine q_aload hX 1 d_La_law_580 rfl (by first | rfl | assumption) ?_
        refine q_aload hX 0 d_La_law_581 rfl (by first | rfl | assumption) ?_
        refine q_iload hX 3 d_La_law_582 rfl (by first | rfl | assumption) ?_
        refine r_iconst (v := 1) hX d_La_law_583 (by decide) ?_
        refine r_iadd hX d_La_law_584 ?_
        rw [nI_1]
        refine r_sld hX hsc d_La_law_585 (vp_in_nI (by omega) (by omega)) ?_
        refine q_aload hX 0 d_La_law_586 rfl (by first | rfl | assumption) ?_
        refine q_iload hX 3 d_La_law_587 rfl (by first | rfl | assumption) ?_
        refine r_iconst (v := 2) hX d_La_law_588 (by decide) ?_
        refine r_iadd hX d_La_law_589 ?_
        rw [la_2]
        refine r_sld hX hsc d_La_law_590 (vp_in_nI (by omega) (by omega)) ?_
        refine r_callV (as := [_, _]) hX d_La_law_591 lk_La_76 hR.ef rfl rfl (Nat.le_of_ble_eq_true rfl) (by decide) (bc - 122) (bs - 2013) (by omega) (by omega) (k_part (G := G) hR _ _) (fun v w1 hq => ?_)
        obtain ⟨x, rfl, ⟨hK, fs, h117⟩, hmm⟩ := hq
        refine q_aload hX 2 d_La_law_594 rfl (by first | rfl | assumption) ?_
        refine q_aload hX 0 d_La_law_595 rfl (by first | rfl | assumption) ?_
        refine q_iload hX 3 d_La_law_596 rfl (by first | rfl | assumption) ?_
        refine r_iconst (v := 1) hX d_La_law_597 (by decide) ?_
        refine r_iadd hX d_La_law_598 ?_
        rw [nI_1]
        refine r_sld hX hsc d_La_law_599 (vp_in_nI (by omega) (by omega)) ?_
        refine q_aload hX 0 d_La_law_600 rfl (by first | rfl | assumption) ?_
        refine q_iload hX 3 d_La_law_601 rfl (by first | rfl | assumption) ?_
        refine r_iconst (v := 2) hX d_La_law_602 (by decide) ?_
        refine r_iadd hX d_La_law_603 ?_
        rw [la_2]
        refine r_sld hX hsc d_La_law_604 (vp_in_nI (by omega) (by omega)) ?_
        refine r_callV (as := [_, _]) hX d_La_law_605 lk_La_79 h117 rfl rfl (Nat.le_of_ble_eq_true rfl) (by decide) (bc - 122) (bs - 2013) (by omega) (by omega) (hmm) (fun v w1 hq => ?_)
        obtain ⟨rfl, hR⟩ := hq
        refine r_icmp_eq hX 897 d_La_law_608 (by decide) (fun _ => ?_) (fun c608 => absurd rfl c608)
        refine r_iinc hX d_La_law_897 l3 ?_
        refine r_goto hX 18 d_La_law_900 (by decide) ?_
        exact ih (i + 6) (bc - 122) (bs - 2013) _ _ (by omega) (by omega) (by omega) (by omega) hR l0 l1 l2 (by show some (Value.int (nI i + Int32.ofInt 6)) = _; rw [la_6])
      · refine r_tableIn hX 613 d_La_law_33 (by decide) (by decide) rfl (by decide) ?_
        refine q_aload hX 1 d_La_law_613 rfl (by first | rfl | assumption) ?_
        refine q_aload hX 0 d_La_law_614 rfl (by first | rfl | assumption) ?_
        refine q_iload hX 3 d_La_law_615 rfl (by first | rfl | assumption) ?_
        refine r_iconst (v := 1) hX d_La_law_616 (by decide) ?_
        refine r_iadd hX d_La_law_617 ?_
        rw [nI_1]
        refine r_sld hX hsc d_La_law_618 (vp_in_nI (by omega) (by omega)) ?_
        refine q_aload hX 0 d_La_law_619 rfl (by first | rfl | assumption) ?_
        refine q_iload hX 3 d_La_law_620 rfl (by first | rfl | assumption) ?_
        refine r_iconst (v := 2) hX d_La_law_621 (by decide) ?_
        refine r_iadd hX d_La_law_622 ?_
        rw [la_2]
        refine r_sld hX hsc d_La_law_623 (vp_in_nI (by omega) (by omega)) ?_
        refine q_aload hX 0 d_La_law_624 rfl (by first | rfl | assumption) ?_
        refine q_iload hX 3 d_La_law_625 rfl (by first | rfl | assumption) ?_
        refine r_iconst (v := 3) hX d_La_law_626 (by decide) ?_
        refine r_iadd hX d_La_law_627 ?_
        rw [la_3]
        refine r_sld hX hsc d_La_law_628 (vp_in_nI (by omega) (by omega)) ?_
        refine r_callV (as := [_, _, _]) hX d_La_law_629 lk_La_80 hR.ef rfl rfl (Nat.le_of_ble_eq_true rfl) (by decide) (bc - 122) (bs - 2013) (by omega) (by omega) (k_sample (G := G) hR _ _ _) (fun v w1 hq => ?_)
        obtain ⟨x, rfl, ⟨hK, fs, h117⟩, hmm⟩ := hq
        refine q_aload hX 2 d_La_law_632 rfl (by first | rfl | assumption) ?_
        refine q_aload hX 0 d_La_law_633 rfl (by first | rfl | assumption) ?_
        refine q_iload hX 3 d_La_law_634 rfl (by first | rfl | assumption) ?_
        refine r_iconst (v := 1) hX d_La_law_635 (by decide) ?_
        refine r_iadd hX d_La_law_636 ?_
        rw [nI_1]
        refine r_sld hX hsc d_La_law_637 (vp_in_nI (by omega) (by omega)) ?_
        refine q_aload hX 0 d_La_law_638 rfl (by first | rfl | assumption) ?_
        refine q_iload hX 3 d_La_law_639 rfl (by first | rfl | assumption) ?_
        refine r_iconst (v := 2) hX d_La_law_640 (by decide) ?_
        refine r_iadd hX d_La_law_641 ?_
        rw [la_2]
        refine r_sld hX hsc d_La_law_642 (vp_in_nI (by omega) (by omega)) ?_
        refine q_aload hX 0 d_La_law_643 rfl (by first | rfl | assumption) ?_
        refine q_iload hX 3 d_La_law_644 rfl (by first | rfl | assumption) ?_
        refine r_iconst (v := 3) hX d_La_law_645 (by decide) ?_
        refine r_iadd hX d_La_law_646 ?_
        rw [la_3]
        refine r_sld hX hsc d_La_law_647 (vp_in_nI (by omega) (by omega)) ?_
        refine r_callV (as := [_, _, _]) hX d_La_law_648 lk_La_84 h117 rfl rfl (Nat.le_of_ble_eq_true rfl) (by decide) (bc - 122) (bs - 2013) (by omega) (by omega) (hmm) (fun v w1 hq => ?_)
        obtain ⟨rfl, hR⟩ := hq
        refine r_icmp_eq hX 897 d_La_law_651 (by decide) (fun _ => ?_) (fun c651 => absurd rfl c651)
        refine r_iinc hX d_La_law_897 l3 ?_
        refine r_goto hX 18 d_La_law_900 (by decide) ?_
        exact ih (i + 6) (bc - 122) (bs - 2013) _ _ (by omega) (by omega) (by omega) (by omega) hR l0 l1 l2 (by show some (Value.int (nI i + Int32.ofInt 6)) = _; rw [la_6])
      · refine r_tableIn hX 656 d_La_law_33 (by decide) (by decide) rfl (by decide) ?_
        refine q_aload hX 1 d_La_law_656 rfl (by first | rfl | assumption) ?_
        refine q_aload hX 0 d_La_law_657 rfl (by first | rfl | assumption) ?_
        refine q_iload hX 3 d_La_law_658 rfl (by first | rfl | assumption) ?_
        refine r_iconst (v := 1) hX d_La_law_659 (by decide) ?_
        refine r_iadd hX d_La_law_660 ?_
        rw [nI_1]
        refine r_sld hX hsc d_La_law_661 (vp_in_nI (by omega) (by omega)) ?_
        refine q_aload hX 0 d_La_law_662 rfl (by first | rfl | assumption) ?_
        refine q_iload hX 3 d_La_law_663 rfl (by first | rfl | assumption) ?_
        refine r_iconst (v := 2) hX d_La_law_664 (by decide) ?_
        refine r_iadd hX d_La_law_665 ?_
        rw [la_2]
        refine r_sld hX hsc d_La_law_666 (vp_in_nI (by omega) (by omega)) ?_
        refine r_callV (as := [_, _]) hX d_La_law_667 lk_La_85 hR.ef rfl rfl (Nat.le_of_ble_eq_true rfl) (by decide) (bc - 122) (bs - 2013) (by omega) (by omega) (k_detail (G := G) hR _ _) (fun v w1 hq => ?_)
        obtain ⟨x, rfl, ⟨hK, fs, h117⟩, hmm⟩ := hq
        refine q_aload hX 2 d_La_law_670 rfl (by first | rfl | assumption) ?_
        refine q_aload hX 0 d_La_law_671 rfl (by first | rfl | assumption) ?_
        refine q_iload hX 3 d_La_law_672 rfl (by first | rfl | assumption) ?_
        refine r_iconst (v := 1) hX d_La_law_673 (by decide) ?_
        refine r_iadd hX d_La_law_674 ?_
        rw [nI_1]
        refine r_sld hX hsc d_La_law_675 (vp_in_nI (by omega) (by omega)) ?_
        refine q_aload hX 0 d_La_law_676 rfl (by first | rfl | assumption) ?_
        refine q_iload hX 3 d_La_law_677 rfl (by first | rfl | assumption) ?_
        refine r_iconst (v := 2) hX d_La_law_678 (by decide) ?_
        refine r_iadd hX d_La_law_679 ?_
        rw [la_2]
        refine r_sld hX hsc d_La_law_680 (vp_in_nI (by omega) (by omega)) ?_
        refine r_callV (as := [_, _]) hX d_La_law_681 lk_La_88 h117 rfl rfl (Nat.le_of_ble_eq_true rfl) (by decide) (bc - 122) (bs - 2013) (by omega) (by omega) (hmm) (fun v w1 hq => ?_)
        obtain ⟨rfl, hR⟩ := hq
        refine r_icmp_eq hX 897 d_La_law_684 (by decide) (fun _ => ?_) (fun c684 => absurd rfl c684)
        refine r_iinc hX d_La_law_897 l3 ?_
        refine r_goto hX 18 d_La_law_900 (by decide) ?_
        exact ih (i + 6) (bc - 122) (bs - 2013) _ _ (by omega) (by omega) (by omega) (by omega) hR l0 l1 l2 (by show some (Value.int (nI i + Int32.ofInt 6)) = _; rw [la_6])
      · refine r_tableIn hX 689 d_La_law_33 (by decide) (by decide) rfl (by decide) ?_
        refine q_aload hX 1 d_La_law_689 rfl (by first | rfl | assumption) ?_
        refine q_aload hX 0 d_La_law_690 rfl (by first | rfl | assumption) ?_
        refine q_iload hX 3 d_La_law_691 rfl (by first | rfl | assumption) ?_
        refine r_iconst (v := 1) hX d_La_law_692 (by decide) ?_
        refine r_iadd hX d_La_law_693 ?_
        rw [nI_1]
        refine r_sld hX hsc d_La_law_694 (vp_in_nI (by omega) (by omega)) ?_
        refine r_if_eq hX 702 d_La_law_695 (by decide) (fun c695 => ?_) (fun c695 => ?_)
        · refine r_iconst (v := 0) hX d_La_law_702 (by decide) ?_
          refine r_callV (as := [_]) hX d_La_law_703 lk_La_89 hR.ef rfl rfl (Nat.le_of_ble_eq_true rfl) (by decide) (bc - 122) (bs - 2013) (by omega) (by omega) (k_write (G := G) hR _) (fun v w1 hq => ?_)
          obtain ⟨x, rfl, ⟨hK, fs, h117⟩, hmm⟩ := hq
          refine q_aload hX 2 d_La_law_706 rfl (by first | rfl | assumption) ?_
          refine q_aload hX 0 d_La_law_707 rfl (by first | rfl | assumption) ?_
          refine q_iload hX 3 d_La_law_708 rfl (by first | rfl | assumption) ?_
          refine r_iconst (v := 1) hX d_La_law_709 (by decide) ?_
          refine r_iadd hX d_La_law_710 ?_
          rw [nI_1]
          refine r_sld hX hsc d_La_law_711 (vp_in_nI (by omega) (by omega)) ?_
          refine r_if_eq hX 719 d_La_law_712 (by decide) (fun _ => ?_) (fun c712 => absurd c695 c712)
          refine r_iconst (v := 0) hX d_La_law_719 (by decide) ?_
          refine r_callV (as := [_]) hX d_La_law_720 lk_La_92 h117 rfl rfl (Nat.le_of_ble_eq_true rfl) (by decide) (bc - 122) (bs - 2013) (by omega) (by omega) (hmm) (fun v w1 hq => ?_)
          obtain ⟨rfl, hR⟩ := hq
          refine r_icmp_eq hX 897 d_La_law_723 (by decide) (fun _ => ?_) (fun c723 => absurd rfl c723)
          refine r_iinc hX d_La_law_897 l3 ?_
          refine r_goto hX 18 d_La_law_900 (by decide) ?_
          exact ih (i + 6) (bc - 122) (bs - 2013) _ _ (by omega) (by omega) (by omega) (by omega) hR l0 l1 l2 (by show some (Value.int (nI i + Int32.ofInt 6)) = _; rw [la_6])
        · refine r_iconst (v := 1) hX d_La_law_698 (by decide) ?_
          refine r_goto hX 703 d_La_law_699 (by decide) ?_
          refine r_callV (as := [_]) hX d_La_law_703 lk_La_89 hR.ef rfl rfl (Nat.le_of_ble_eq_true rfl) (by decide) (bc - 122) (bs - 2013) (by omega) (by omega) (k_write (G := G) hR _) (fun v w1 hq => ?_)
          obtain ⟨x, rfl, ⟨hK, fs, h117⟩, hmm⟩ := hq
          refine q_aload hX 2 d_La_law_706 rfl (by first | rfl | assumption) ?_
          refine q_aload hX 0 d_La_law_707 rfl (by first | rfl | assumption) ?_
          refine q_iload hX 3 d_La_law_708 rfl (by first | rfl | assumption) ?_
          refine r_iconst (v := 1) hX d_La_law_709 (by decide) ?_
          refine r_iadd hX d_La_law_710 ?_
          rw [nI_1]
          refine r_sld hX hsc d_La_law_711 (vp_in_nI (by omega) (by omega)) ?_
          refine r_if_eq hX 719 d_La_law_712 (by decide) (fun c712 => absurd c712 c695) (fun _ => ?_)
          refine r_iconst (v := 1) hX d_La_law_715 (by decide) ?_
          refine r_goto hX 720 d_La_law_716 (by decide) ?_
          refine r_callV (as := [_]) hX d_La_law_720 lk_La_92 h117 rfl rfl (Nat.le_of_ble_eq_true rfl) (by decide) (bc - 122) (bs - 2013) (by omega) (by omega) (hmm) (fun v w1 hq => ?_)
          obtain ⟨rfl, hR⟩ := hq
          refine r_icmp_eq hX 897 d_La_law_723 (by decide) (fun _ => ?_) (fun c723 => absurd rfl c723)
          refine r_iinc hX d_La_law_897 l3 ?_
          refine r_goto hX 18 d_La_law_900 (by decide) ?_
          exact ih (i + 6) (bc - 122) (bs - 2013) _ _ (by omega) (by omega) (by omega) (by omega) hR l0 l1 l2 (by show some (Value.int (nI i + Int32.ofInt 6)) = _; rw [la_6])
      · refine r_tableIn hX 728 d_La_law_33 (by decide) (by decide) rfl (by decide) ?_
        refine q_aload hX 1 d_La_law_728 rfl (by first | rfl | assumption) ?_
        refine q_aload hX 0 d_La_law_729 rfl (by first | rfl | assumption) ?_
        refine q_iload hX 3 d_La_law_730 rfl (by first | rfl | assumption) ?_
        refine r_iconst (v := 1) hX d_La_law_731 (by decide) ?_
        refine r_iadd hX d_La_law_732 ?_
        rw [nI_1]
        refine r_sld hX hsc d_La_law_733 (vp_in_nI (by omega) (by omega)) ?_
        refine r_callV (as := [_]) hX d_La_law_734 lk_La_93 hR.ef rfl rfl (Nat.le_of_ble_eq_true rfl) (by decide) (bc - 122) (bs - 2013) (by omega) (by omega) (k_index (G := G) hR _) (fun v w1 hq => ?_)
        obtain ⟨x, rfl, ⟨hK, fs, h117⟩, hmm⟩ := hq
        refine q_aload hX 2 d_La_law_737 rfl (by first | rfl | assumption) ?_
        refine q_aload hX 0 d_La_law_738 rfl (by first | rfl | assumption) ?_
        refine q_iload hX 3 d_La_law_739 rfl (by first | rfl | assumption) ?_
        refine r_iconst (v := 1) hX d_La_law_740 (by decide) ?_
        refine r_iadd hX d_La_law_741 ?_
        rw [nI_1]
        refine r_sld hX hsc d_La_law_742 (vp_in_nI (by omega) (by omega)) ?_
        refine r_callV (as := [_]) hX d_La_law_743 lk_La_96 h117 rfl rfl (Nat.le_of_ble_eq_true rfl) (by decide) (bc - 122) (bs - 2013) (by omega) (by omega) (hmm) (fun v w1 hq => ?_)
        obtain ⟨rfl, hR⟩ := hq
        refine r_icmp_eq hX 897 d_La_law_746 (by decide) (fun _ => ?_) (fun c746 => absurd rfl c746)
        refine r_iinc hX d_La_law_897 l3 ?_
        refine r_goto hX 18 d_La_law_900 (by decide) ?_
        exact ih (i + 6) (bc - 122) (bs - 2013) _ _ (by omega) (by omega) (by omega) (by omega) hR l0 l1 l2 (by show some (Value.int (nI i + Int32.ofInt 6)) = _; rw [la_6])
      · refine r_tableIn hX 751 d_La_law_33 (by decide) (by decide) rfl (by decide) ?_
        refine q_aload hX 1 d_La_law_751 rfl (by first | rfl | assumption) ?_
        refine q_aload hX 0 d_La_law_752 rfl (by first | rfl | assumption) ?_
        refine q_iload hX 3 d_La_law_753 rfl (by first | rfl | assumption) ?_
        refine r_iconst (v := 1) hX d_La_law_754 (by decide) ?_
        refine r_iadd hX d_La_law_755 ?_
        rw [nI_1]
        refine r_sld hX hsc d_La_law_756 (vp_in_nI (by omega) (by omega)) ?_
        refine q_aload hX 0 d_La_law_757 rfl (by first | rfl | assumption) ?_
        refine q_iload hX 3 d_La_law_758 rfl (by first | rfl | assumption) ?_
        refine r_iconst (v := 2) hX d_La_law_759 (by decide) ?_
        refine r_iadd hX d_La_law_760 ?_
        rw [la_2]
        refine r_sld hX hsc d_La_law_761 (vp_in_nI (by omega) (by omega)) ?_
        refine q_aload hX 0 d_La_law_762 rfl (by first | rfl | assumption) ?_
        refine q_iload hX 3 d_La_law_763 rfl (by first | rfl | assumption) ?_
        refine r_iconst (v := 3) hX d_La_law_764 (by decide) ?_
        refine r_iadd hX d_La_law_765 ?_
        rw [la_3]
        refine r_sld hX hsc d_La_law_766 (vp_in_nI (by omega) (by omega)) ?_
        refine r_i2l hX d_La_law_767 ?_
        refine r_bipush (v := 32) hX d_La_law_768 (by decide) ?_
        refine r_lshl hX d_La_law_770 ?_
        refine q_aload hX 0 d_La_law_771 rfl (by first | rfl | assumption) ?_
        refine q_iload hX 3 d_La_law_772 rfl (by first | rfl | assumption) ?_
        refine r_iconst (v := 4) hX d_La_law_773 (by decide) ?_
        refine r_iadd hX d_La_law_774 ?_
        rw [la_4]
        refine r_sld hX hsc d_La_law_775 (vp_in_nI (by omega) (by omega)) ?_
        refine r_i2l hX d_La_law_776 ?_
        refine r_ldc2 hX d_La_law_777 m_869 ?_
        refine r_land hX d_La_law_780 ?_
        refine r_lor hX d_La_law_781 ?_
        refine r_callV (as := [_, _, _]) hX d_La_law_782 lk_La_97 hR.ef rfl rfl (Nat.le_of_ble_eq_true rfl) (by decide) (bc - 122) (bs - 2013) (by omega) (by omega) (k_seek (G := G) hR _ _ _) (fun v w1 hq => ?_)
        obtain ⟨x, rfl, ⟨hK, fs, h117⟩, hmm⟩ := hq
        refine q_aload hX 2 d_La_law_785 rfl (by first | rfl | assumption) ?_
        refine q_aload hX 0 d_La_law_786 rfl (by first | rfl | assumption) ?_
        refine q_iload hX 3 d_La_law_787 rfl (by first | rfl | assumption) ?_
        refine r_iconst (v := 1) hX d_La_law_788 (by decide) ?_
        refine r_iadd hX d_La_law_789 ?_
        rw [nI_1]
        refine r_sld hX hsc d_La_law_790 (vp_in_nI (by omega) (by omega)) ?_
        refine q_aload hX 0 d_La_law_791 rfl (by first | rfl | assumption) ?_
        refine q_iload hX 3 d_La_law_792 rfl (by first | rfl | assumption) ?_
        refine r_iconst (v := 2) hX d_La_law_793 (by decide) ?_
        refine r_iadd hX d_La_law_794 ?_
        rw [la_2]
        refine r_sld hX hsc d_La_law_795 (vp_in_nI (by omega) (by omega)) ?_
        refine q_aload hX 0 d_La_law_796 rfl (by first | rfl | assumption) ?_
        refine q_iload hX 3 d_La_law_797 rfl (by first | rfl | assumption) ?_
        refine r_iconst (v := 3) hX d_La_law_798 (by decide) ?_
        refine r_iadd hX d_La_law_799 ?_
        rw [la_3]
        refine r_sld hX hsc d_La_law_800 (vp_in_nI (by omega) (by omega)) ?_
        refine r_i2l hX d_La_law_801 ?_
        refine r_bipush (v := 32) hX d_La_law_802 (by decide) ?_
        refine r_lshl hX d_La_law_804 ?_
        refine q_aload hX 0 d_La_law_805 rfl (by first | rfl | assumption) ?_
        refine q_iload hX 3 d_La_law_806 rfl (by first | rfl | assumption) ?_
        refine r_iconst (v := 4) hX d_La_law_807 (by decide) ?_
        refine r_iadd hX d_La_law_808 ?_
        rw [la_4]
        refine r_sld hX hsc d_La_law_809 (vp_in_nI (by omega) (by omega)) ?_
        refine r_i2l hX d_La_law_810 ?_
        refine r_ldc2 hX d_La_law_811 m_869 ?_
        refine r_land hX d_La_law_814 ?_
        refine r_lor hX d_La_law_815 ?_
        refine r_callV (as := [_, _, _]) hX d_La_law_816 lk_La_100 h117 rfl rfl (Nat.le_of_ble_eq_true rfl) (by decide) (bc - 122) (bs - 2013) (by omega) (by omega) (hmm) (fun v w1 hq => ?_)
        obtain ⟨rfl, hR⟩ := hq
        refine r_icmp_eq hX 897 d_La_law_819 (by decide) (fun _ => ?_) (fun c819 => absurd rfl c819)
        refine r_iinc hX d_La_law_897 l3 ?_
        refine r_goto hX 18 d_La_law_900 (by decide) ?_
        exact ih (i + 6) (bc - 122) (bs - 2013) _ _ (by omega) (by omega) (by omega) (by omega) hR l0 l1 l2 (by show some (Value.int (nI i + Int32.ofInt 6)) = _; rw [la_6])
      · refine r_tableIn hX 824 d_La_law_33 (by decide) (by decide) rfl (by decide) ?_
        refine q_aload hX 1 d_La_law_824 rfl (by first | rfl | assumption) ?_
        refine q_aload hX 0 d_La_law_825 rfl (by first | rfl | assumption) ?_
        refine q_iload hX 3 d_La_law_826 rfl (by first | rfl | assumption) ?_
        refine r_iconst (v := 1) hX d_La_law_827 (by decide) ?_
        refine r_iadd hX d_La_law_828 ?_
        rw [nI_1]
        refine r_sld hX hsc d_La_law_829 (vp_in_nI (by omega) (by omega)) ?_
        refine q_aload hX 0 d_La_law_830 rfl (by first | rfl | assumption) ?_
        refine q_iload hX 3 d_La_law_831 rfl (by first | rfl | assumption) ?_
        refine r_iconst (v := 2) hX d_La_law_832 (by decide) ?_
        refine r_iadd hX d_La_law_833 ?_
        rw [la_2]
        refine r_sld hX hsc d_La_law_834 (vp_in_nI (by omega) (by omega)) ?_
        refine q_aload hX 0 d_La_law_835 rfl (by first | rfl | assumption) ?_
        refine q_iload hX 3 d_La_law_836 rfl (by first | rfl | assumption) ?_
        refine r_iconst (v := 3) hX d_La_law_837 (by decide) ?_
        refine r_iadd hX d_La_law_838 ?_
        rw [la_3]
        refine r_sld hX hsc d_La_law_839 (vp_in_nI (by omega) (by omega)) ?_
        refine r_i2l hX d_La_law_840 ?_
        refine r_bipush (v := 32) hX d_La_law_841 (by decide) ?_
        refine r_lshl hX d_La_law_843 ?_
        refine q_aload hX 0 d_La_law_844 rfl (by first | rfl | assumption) ?_
        refine q_iload hX 3 d_La_law_845 rfl (by first | rfl | assumption) ?_
        refine r_iconst (v := 4) hX d_La_law_846 (by decide) ?_
        refine r_iadd hX d_La_law_847 ?_
        rw [la_4]
        refine r_sld hX hsc d_La_law_848 (vp_in_nI (by omega) (by omega)) ?_
        refine r_i2l hX d_La_law_849 ?_
        refine r_ldc2 hX d_La_law_850 m_869 ?_
        refine r_land hX d_La_law_853 ?_
        refine r_lor hX d_La_law_854 ?_
        refine r_callV (as := [_, _, _]) hX d_La_law_855 lk_La_101 hR.ef rfl rfl (Nat.le_of_ble_eq_true rfl) (by decide) (bc - 122) (bs - 2013) (by omega) (by omega) (k_jump (G := G) hR _ _ _) (fun v w1 hq => ?_)
        obtain ⟨x, rfl, ⟨hK, fs, h117⟩, hmm⟩ := hq
        refine q_aload hX 2 d_La_law_858 rfl (by first | rfl | assumption) ?_
        refine q_aload hX 0 d_La_law_859 rfl (by first | rfl | assumption) ?_
        refine q_iload hX 3 d_La_law_860 rfl (by first | rfl | assumption) ?_
        refine r_iconst (v := 1) hX d_La_law_861 (by decide) ?_
        refine r_iadd hX d_La_law_862 ?_
        rw [nI_1]
        refine r_sld hX hsc d_La_law_863 (vp_in_nI (by omega) (by omega)) ?_
        refine q_aload hX 0 d_La_law_864 rfl (by first | rfl | assumption) ?_
        refine q_iload hX 3 d_La_law_865 rfl (by first | rfl | assumption) ?_
        refine r_iconst (v := 2) hX d_La_law_866 (by decide) ?_
        refine r_iadd hX d_La_law_867 ?_
        rw [la_2]
        refine r_sld hX hsc d_La_law_868 (vp_in_nI (by omega) (by omega)) ?_
        refine q_aload hX 0 d_La_law_869 rfl (by first | rfl | assumption) ?_
        refine q_iload hX 3 d_La_law_870 rfl (by first | rfl | assumption) ?_
        refine r_iconst (v := 3) hX d_La_law_871 (by decide) ?_
        refine r_iadd hX d_La_law_872 ?_
        rw [la_3]
        refine r_sld hX hsc d_La_law_873 (vp_in_nI (by omega) (by omega)) ?_
        refine r_i2l hX d_La_law_874 ?_
        refine r_bipush (v := 32) hX d_La_law_875 (by decide) ?_
        refine r_lshl hX d_La_law_877 ?_
        refine q_aload hX 0 d_La_law_878 rfl (by first | rfl | assumption) ?_
        refine q_iload hX 3 d_La_law_879 rfl (by first | rfl | assumption) ?_
        refine r_iconst (v := 4) hX d_La_law_880 (by decide) ?_
        refine r_iadd hX d_La_law_881 ?_
        rw [la_4]
        refine r_sld hX hsc d_La_law_882 (vp_in_nI (by omega) (by omega)) ?_
        refine r_i2l hX d_La_law_883 ?_
        refine r_ldc2 hX d_La_law_884 m_869 ?_
        refine r_land hX d_La_law_887 ?_
        refine r_lor hX d_La_law_888 ?_
        refine r_callV (as := [_, _, _]) hX d_La_law_889 lk_La_104 h117 rfl rfl (Nat.le_of_ble_eq_true rfl) (by decide) (bc - 122) (bs - 2013) (by omega) (by omega) (hmm) (fun v w1 hq => ?_)
        obtain ⟨rfl, hR⟩ := hq
        refine r_icmp_eq hX 897 d_La_law_892 (by decide) (fun _ => ?_) (fun c892 => absurd rfl c892)
        refine r_iinc hX d_La_law_897 l3 ?_
        refine r_goto hX 18 d_La_law_900 (by decide) ?_
        exact ih (i + 6) (bc - 122) (bs - 2013) _ _ (by omega) (by omega) (by omega) (by omega) hR l0 l1 l2 (by show some (Value.int (nI i + Int32.ofInt 6)) = _; rw [la_6])
      · refine r_tableOut hX 897 d_La_law_33 (Or.inr (by rw [nI_toInt (by omega)]; omega)) (by decide) ?_
        refine r_iinc hX d_La_law_897 l3 ?_
        refine r_goto hX 18 d_La_law_900 (by decide) ?_
        exact ih (i + 6) bc bs _ _ (by omega) (by omega) (by omega) (by omega) hR l0 l1 l2 (by show some (Value.int (nI i + Int32.ofInt 6)) = _; rw [la_6])
def S_0 : Ev_S := (0, 0, 139, (fun _ => none), (fun _ => 0), (fun _ => tr_e0), (fun _ _ => 0), (fun _ => none))
def I_0 : Nat → Int32 := fun J => if J = 6 then -1 else 0
def A_0 : Ev_A := ((fun _ _ => 0), fun _ => 0)
def D_0 : Nat → Ev_D := fun _ => (0, 0, (fun _ => 0), 0)
theorem rp_0 : rp S_0 D_0 (fun _ => 0) 0 0 (fun _ => 0) 0 (fun _ => 0) (-1) 0 0 (fun _ => 0) (fun _ => 0) I_0 A_0 :=
  ⟨⟨rfl, Nat.zero_le _, rfl, Nat.zero_le _, fun i hi => absurd hi (Nat.not_lt_zero _), fun i hi => absurd hi (Nat.not_lt_zero _), fun i hi => absurd hi (Nat.not_lt_zero _), fun i hi => absurd hi (Nat.not_lt_zero _)⟩, rfl, rfl, rfl, rfl, rfl, ⟨(fun _ => 0), Nat.zero_le _, Nat.zero_le _, rfl, fun i hi => absurd hi (Nat.not_lt_zero _)⟩, ⟨(fun _ => 0), ⟨Nat.zero_le _, fun i hi => absurd hi (Nat.not_lt_zero _)⟩, Nat.zero_le _, fun i hi => absurd hi (Nat.not_lt_zero _)⟩, ⟨(fun _ => 0), ⟨Nat.zero_le _, fun i hi => absurd hi (Nat.not_lt_zero _)⟩, Nat.zero_le _, fun i hi => absurd hi (Nat.not_lt_zero _)⟩, fun i hi => absurd hi (Nat.not_lt_zero _), fun i hi => absurd hi (Nat.not_lt_zero _)⟩
set_option maxHeartbeats 4000000 in
theorem law_all {G : Ev_G} {X : Ev_X} (hX : ev_C G M_La_law 10 X) {L : Nat} {xs : Nat → Int32} (hL : L ≤ 3072) (hsc : va_X (G.2.2.2.1 18) L xs X.2.2.2.1 G.2.2.2.2) (hend : ∀ bc bs ls w, ev_W G M_La_law X bc bs 904 ls [.int 1] w) {w : Ev_W} (hT : wt w 100 []) : ev_W G M_La_law X 600000 7302250 0 (ev_in [.ref 18]) [] w := by
  refine r_newT (bc' := 599999) (bs' := 7302243) hX hT d_La_law_0 nw_La_7 (by decide) (by decide) (fun w hT => ?_)
  refine r_dup hX d_La_law_3 rfl ?_
  refine r_callI (as := []) hX d_La_law_4 lk_La_9 rfl (Nat.le_of_ble_eq_true rfl) (by decide) 599983 7299207 (by decide) (by decide) (c_EF_init_100 (G := G) hT) (fun v w hq => ?_)
  obtain ⟨rfl, hT⟩ := hq
  refine q_astore hX 1 d_La_law_7 rfl (by decide) ?_
  refine r_newT (bc' := 599982) (bs' := 7299174) hX hT d_La_law_8 nw_La_10 (by decide) (by decide) (fun w hT => ?_)
  refine r_dup hX d_La_law_11 rfl ?_
  refine r_callI (as := []) hX d_La_law_12 lk_La_12 rfl (Nat.le_of_ble_eq_true rfl) (by decide) 599961 7293932 (by decide) (by decide) (c_Mo_init_117 (G := G) hT) (fun v w hq => ?_)
  obtain ⟨rfl, hT⟩ := hq
  refine q_astore hX 2 d_La_law_15 rfl (by decide) ?_
  refine r_iconst (v := 0) hX d_La_law_16 (by decide) ?_
  refine q_istore hX 3 d_La_law_17 rfl (by decide) ?_
  have hty : ∀ c k n, mo_ty c = some (k, n) → w.2 c = some (.inl (k, n, .inl (A_0.1 c))) := by
    intro c k n h
    have hc := mo_ty_c h
    rcases (show c = 118 ∨ c = 119 ∨ c = 121 ∨ c = 122 ∨ c = 123 ∨ c = 124 ∨ c = 125 ∨ c = 126 ∨ c = 127 ∨ c = 128 ∨ c = 129 ∨ c = 130 ∨ c = 131 ∨ c = 132 ∨ c = 133 ∨ c = 134 ∨ c = 135 ∨ c = 136 ∨ c = 137 ∨ c = 138 by omega) with rfl | rfl | rfl | rfl | rfl | rfl | rfl | rfl | rfl | rfl | rfl | rfl | rfl | rfl | rfl | rfl | rfl | rfl | rfl | rfl
    · have h2 : some ((0 : Nat), (61 : Nat)) = some (k, n) := h
      cases h2; exact hT.2 118 _ rfl
    · have h2 : some ((0 : Nat), (61 : Nat)) = some (k, n) := h
      cases h2; exact hT.2 119 _ rfl
    · have h2 : some ((0 : Nat), (61 : Nat)) = some (k, n) := h
      cases h2; exact hT.2 121 _ rfl
    · have h2 : some ((0 : Nat), (976 : Nat)) = some (k, n) := h
      cases h2; exact hT.2 122 _ rfl
    · have h2 : some ((0 : Nat), (61 : Nat)) = some (k, n) := h
      cases h2; exact hT.2 123 _ rfl
    · have h2 : some ((0 : Nat), (61 : Nat)) = some (k, n) := h
      cases h2; exact hT.2 124 _ rfl
    · have h2 : some ((2 : Nat), (61 : Nat)) = some (k, n) := h
      cases h2; exact hT.2 125 _ rfl
    · have h2 : some ((0 : Nat), (61 : Nat)) = some (k, n) := h
      cases h2; exact hT.2 126 _ rfl
    · have h2 : some ((0 : Nat), (488 : Nat)) = some (k, n) := h
      cases h2; exact hT.2 127 _ rfl
    · have h2 : some ((0 : Nat), (488 : Nat)) = some (k, n) := h
      cases h2; exact hT.2 128 _ rfl
    · have h2 : some ((0 : Nat), (1300 : Nat)) = some (k, n) := h
      cases h2; exact hT.2 129 _ rfl
    · have h2 : some ((0 : Nat), (8 : Nat)) = some (k, n) := h
      cases h2; exact hT.2 130 _ rfl
    · have h2 : some ((0 : Nat), (8 : Nat)) = some (k, n) := h
      cases h2; exact hT.2 131 _ rfl
    · have h2 : some ((0 : Nat), (640 : Nat)) = some (k, n) := h
      cases h2; exact hT.2 132 _ rfl
    · have h2 : some ((0 : Nat), (700 : Nat)) = some (k, n) := h
      cases h2; exact hT.2 133 _ rfl
    · have h2 : some ((0 : Nat), (8 : Nat)) = some (k, n) := h
      cases h2; exact hT.2 134 _ rfl
    · have h2 : some ((0 : Nat), (8 : Nat)) = some (k, n) := h
      cases h2; exact hT.2 135 _ rfl
    · have h2 : some ((2 : Nat), (8 : Nat)) = some (k, n) := h
      cases h2; exact hT.2 136 _ rfl
    · have h2 : some ((0 : Nat), (61 : Nat)) = some (k, n) := h
      cases h2; exact hT.2 137 _ rfl
    · have h2 : some ((0 : Nat), (61 : Nat)) = some (k, n) := h
      cases h2; exact hT.2 138 _ rfl
  have hR : rl w (w.2 18) := ⟨S_0, D_0, (fun _ => 0), 0, 0, (fun _ => 0), 0, (fun _ => 0), -1, 0, 0, (fun _ => 0), (fun _ => 0), I_0, 0, A_0, ⟨hT.2 100 _ rfl, ⟨hT.2 101 _ rfl, hT.2 102 _ rfl⟩, ⟨hT.2 103 _ rfl, hT.2 104 _ rfl⟩, ⟨0, (fun _ => 0), hT.2 114 _ rfl, hT.2 115 _ rfl⟩, hT.2 113 _ rfl, hT.2 116 _ rfl, ⟨none, 0, 0, 0, 0, 0, hT.2 112 _ rfl⟩, ⟨hT.2 105 _ rfl, hT.2 106 _ rfl, hT.2 107 _ rfl⟩, ⟨(fun _ => none), ⟨hT.2 108 _ rfl, hT.2 109 _ rfl, hT.2 110 _ rfl, hT.2 111 _ rfl⟩, ⟨fun i hi => absurd hi (Nat.not_lt_zero _), fun i j hi => absurd hi (Nat.not_lt_zero _)⟩, fun i hi => absurd hi (Nat.not_lt_zero _), Nat.le_refl _, Nat.zero_le _, fun _ _ _ => rfl, hT.1, Nat.le_refl _⟩, rfl⟩, ⟨hT.2 117 _ rfl, hty, hT.2 120 _ rfl⟩, rp_0⟩
  exact law_loop hX hL hsc hend 512 0 _ _ _ _ (by omega) (by omega) (by decide) (by decide) hR rfl rfl rfl rfl
