/-! ===== Reader: a block's sizes ===== -/
def rz1 (g : Nat → Nat) (la e i p prev : Nat) : Option (Nat × Nat) := if la = 1 then sz_b g (e - p) p 0 else match vi g p e with
  | none => none
  | some r => if vi_full r = true then none else if i = 0 then some (r.1, p + r.2) else if prev + r.1 < 2 ^ (7 * r.2 - 1) - 1 then none else some (prev + r.1 - (2 ^ (7 * r.2 - 1) - 1), p + r.2)
def rz (g : Nat → Nat) (la e : Nat) : Nat → Nat → Nat → Nat → Nat → Option (List Nat × Nat)
  | 0, _, p, _, sum => if sum ≤ e - p then some ([e - p - sum], p) else none
  | k + 1, i, p, prev, sum => match rz1 g la e i p prev with
    | none => none
    | some r => if r.1 ≤ e - r.2 then (rz g la e k (i + 1) r.2 r.1 (sum + r.1)).map (fun q => (r.1 :: q.1, q.2)) else none
def bz (g : Nat → Nat) (la k p e : Nat) : Option (List Nat × Nat) := if k < 1 ∨ 8 < k then none else if la = 2 then (if (e - p) % k = 0 then some (List.replicate k ((e - p) / k), p) else none) else rz g la e (k - 1) 0 p 0 0
theorem rz1_b {g : Nat → Nat} {la e i p prev : Nat} {r : Nat × Nat} (hg : ∀ i, i < e → g i < 256) (hpe : p ≤ e) (he : e ≤ 640) (hpr : prev ≤ 640) (h : rz1 g la e i p prev = some r) : p < r.2 ∧ r.2 ≤ e ∧ r.1 < 2 ^ 57 := by
  unfold rz1 at h
  split at h
  · have h1 := sz_b_le h
    have h2 := sz_b_b (fun i hi => hg i (by omega)) h
    omega
  · split at h
    · cases h
    · rename_i r1 hv
      have hv1 := vi_of hv
      split at h
      · cases h
      · split at h
        · cases h; dsimp only; omega
        · split at h
          · cases h
          · cases h; dsimp only; omega
theorem lN_d {a b : Nat} (ha : a < 2 ^ 62) (hb : b < 2 ^ 62) : (lN a - lN b).toInt = (a : Int) - (b : Int) := by
  rw [Int64.toInt_sub, pk_lT (by omega), pk_lT (by omega)]
  exact Int.bmod_eq_of_le (by omega) (by omega)
def rz_post (w w' : Ev_W) (o : Option (List Nat × Nat)) (a : Nat) (E : Ev_E) (pf : Nat → Int32) (e : Nat) (fp : Int32) (ms : Option Nat) (tg : Int32) (v : Option Value) : Prop := match o with
  | none => v = some (.int 0) ∧ (∃ l, is_pa w' a E pf l) ∧ re_no w w' fp ms e tg [112, a, a + 1]
  | some q => v = some (.int 1) ∧ is_pa w' a E pf q.1 ∧ (∃ vf' vL', is_Re w' fp ms (nI q.2) (nI e) tg vf' vL') ∧ ev_sm w w' [112, a, a + 1]
theorem c_Re_readSizes {G : Ev_G} {w : Ev_W} {c : Nat} {f : Nat → Int32} (hin : is_Ro w 101 102 640 c f) {g : Nat → Nat} (hg : rd_g c f g) {fp tg vf vL : Int32} {ms : Option Nat} {p e : Nat} (hre : is_Re w fp ms (nI p) (nI e) tg vf vL) (hec : e ≤ c) (hpe : p ≤ e) {a : Nat} {E : Ev_E} {pf : Nat → Int32} (hpa : is_pa w a E pf []) (ha : 139 ≤ a) {la : Nat} (hla : E.2.2.2 8 = nI la) (hl3 : la ≤ 3) (n : Nat) (hn : n ≤ 300) : ev_Met G M_Re_readSizes 3 0 0 [.ref 112, .ref a, .int (nI n)] w (fun v w' => rz_post w w' (bz g la n p e) a E pf e fp ms tg v) := by
  have hc := hg.1
  have hge : ∀ i, i < e → g i < 256 := fun i hi => (hg.2 i (by omega)).2
  refine ev_Met.of md_Re_readSizes (Nat.le_of_ble_eq_true rfl) (fun X hX hR => ?_)
  by_cases hn18 : n < 1 ∨ 8 < n
  · have hbz : bz g la n p e = none := if_pos hn18
    have fin : rz_post w w (bz g la n p e) a E pf e fp ms tg (some (.int 0)) := by
      rw [hbz]; exact ⟨rfl, ⟨_, hpa⟩, ⟨p, vf, vL, hpe, hre⟩, ev_sm.rf⟩
    refine q_iload hX 2 d_Re_readSizes_0 rfl (by first | rfl | assumption) ?_
    refine r_iconst (v := 1) hX d_Re_readSizes_1 (by decide) ?_
    refine r_icmp_lt hX 11 d_Re_readSizes_2 (by decide) (fun c2 => ?_) (fun c2 => ?_)
    · refine r_iconst (v := 0) hX d_Re_readSizes_11 (by decide) ?_
      refine r_iret hX hR d_Re_readSizes_12 rfl (by first | rfl | assumption) ?_
      exact fin
    · refine q_iload hX 2 d_Re_readSizes_5 rfl (by first | rfl | assumption) ?_
      refine r_bipush (v := 8) hX d_Re_readSizes_6 (by decide) ?_
      refine r_icmp_le hX 13 d_Re_readSizes_8 (by decide) (fun c8 => ?_) (fun c8 => ?_)
      · have hA : ¬ n < 1 := fun z => c2 (nI_lt (a := n) (b := 1) z (by decide))
        have hB : n ≤ 8 := (nI_leI (b := 8) (by omega) (by decide)).mp c8
        exact absurd hn18 (by omega)
      · refine r_iconst (v := 0) hX d_Re_readSizes_11 (by decide) ?_
        refine r_iret hX hR d_Re_readSizes_12 rfl (by first | rfl | assumption) ?_
        exact fin
  · have hfr : nI n - 1 = nI (n - 1) := nI_1m (by omega)
    by_cases hla2 : la = 2
    · have hbz : bz g la n p e = (if (e - p) % n = 0 then some (List.replicate n ((e - p) / n), p) else none) := by rw [bz, if_neg hn18, if_pos hla2]
      refine q_iload hX 2 d_Re_readSizes_0 rfl (by first | rfl | assumption) ?_
      refine r_iconst (v := 1) hX d_Re_readSizes_1 (by decide) ?_
      refine r_icmp_lt hX 11 d_Re_readSizes_2 (by decide) (fun c2 => absurd c2 (nI_nlt (a := n) (b := 1) (by omega) (by omega))) (fun _ => ?_)
      refine q_iload hX 2 d_Re_readSizes_5 rfl (by first | rfl | assumption) ?_
      refine r_bipush (v := 8) hX d_Re_readSizes_6 (by decide) ?_
      refine r_icmp_le hX 13 d_Re_readSizes_8 (by decide) (fun _ => ?_) (fun c8 => absurd (nI_le (a := n) (b := 8) (by omega) (by decide)) c8)
      refine q_aload hX 1 d_Re_readSizes_13 rfl (by first | rfl | assumption) ?_
      refine r_getf hX d_Re_readSizes_14 fl_Re_167 hpa.1 rfl ?_
      refine r_iconst (v := 2) hX d_Re_readSizes_17 (by decide) ?_
      refine r_icmp_ne hX 28 d_Re_readSizes_18 (by decide) (fun c18 => absurd (show E.2.2.2 8 = 2 by rw [hla, hla2]; rfl) c18) (fun _ => ?_)
      refine q_aload hX 0 d_Re_readSizes_21 rfl (by first | rfl | assumption) ?_
      refine q_aload hX 1 d_Re_readSizes_22 rfl (by first | rfl | assumption) ?_
      refine q_iload hX 2 d_Re_readSizes_23 rfl (by first | rfl | assumption) ?_
      refine r_callV (as := [_, _]) hX d_Re_readSizes_24 lk_Re_170 hre rfl rfl (Nat.le_of_ble_eq_true rfl) (by decide) 0 0 (Nat.le_refl _) (Nat.le_refl _) (c_Re_shareEvenly (G := G) hre (by omega) hpe hpa ha n (by omega) (by omega)) (fun v w1 hq => ?_)
      by_cases hz : (e - p) % n = 0
      · rw [if_pos hz] at hq
        obtain ⟨rfl, q1, q2⟩ := hq
        refine r_iret hX hR d_Re_readSizes_27 rfl (by first | rfl | assumption) ?_
        show rz_post _ _ _ _ _ _ _ _ _ _ _
        rw [hbz, if_pos hz]
        exact ⟨rfl, q1, ⟨_, _, (q2.2 112 (by simp; omega)).trans hre⟩, q2.up (by simp)⟩
      · rw [if_neg hz] at hq
        obtain ⟨rfl, hw⟩ := hq
        rw [hw]
        refine r_iret hX hR d_Re_readSizes_27 rfl (by first | rfl | assumption) ?_
        show rz_post _ _ _ _ _ _ _ _ _ _ _
        rw [hbz, if_neg hz]
        exact ⟨rfl, ⟨_, hpa⟩, ⟨p, vf, vL, hpe, hre⟩, ev_sm.rf⟩
    · have hbz : bz g la n p e = rz g la e (n - 1) 0 p 0 0 := by rw [bz, if_neg hn18, if_neg hla2]
      have no : ∀ (w2 : Ev_W), (∃ p' vf' vL', p' ≤ e ∧ is_Re w2 fp ms (nI p') (nI e) tg vf' vL') → (∃ l, is_pa w2 a E pf l) → ev_sm w w2 [112, a, a + 1] → none = rz g la e (n - 1) 0 p 0 0 → rz_post w w2 (bz g la n p e) a E pf e fp ms tg (some (.int 0)) := by
        intro w2 h1 h2 h3 h4
        rw [hbz, ← h4]; exact ⟨rfl, h2, h1, h3⟩
      suffices loop : ∀ (k : Nat) (acc : List Nat) (p1 prev sum : Nat) (ls : Ev_L) (w1 : Ev_W) (vf1 vL1 : Int32), acc.length + k = n - 1 → p1 ≤ e → prev ≤ 640 → sum ≤ 640 * acc.length → (rz g la e k acc.length p1 prev sum).map (fun q => (acc ++ q.1, q.2)) = rz g la e (n - 1) 0 p 0 0 → is_pa w1 a E pf acc → is_Re w1 fp ms (nI p1) (nI e) tg vf1 vL1 → ev_sm w w1 [112, a, a + 1] → ls.1 0 = some (.ref 112) → ls.1 1 = some (.ref a) → ls.1 2 = some (.int (nI n)) → ls.1 3 = some (.int (nI sum)) → ls.2 4 = some (lN prev) → ls.1 6 = some (.int (nI acc.length)) → ev_W G M_Re_readSizes X 0 0 36 ls [] w1 by
        refine q_iload hX 2 d_Re_readSizes_0 rfl (by first | rfl | assumption) ?_
        refine r_iconst (v := 1) hX d_Re_readSizes_1 (by decide) ?_
        refine r_icmp_lt hX 11 d_Re_readSizes_2 (by decide) (fun c2 => absurd c2 (nI_nlt (a := n) (b := 1) (by omega) (by omega))) (fun _ => ?_)
        refine q_iload hX 2 d_Re_readSizes_5 rfl (by first | rfl | assumption) ?_
        refine r_bipush (v := 8) hX d_Re_readSizes_6 (by decide) ?_
        refine r_icmp_le hX 13 d_Re_readSizes_8 (by decide) (fun _ => ?_) (fun c8 => absurd (nI_le (a := n) (b := 8) (by omega) (by decide)) c8)
        refine q_aload hX 1 d_Re_readSizes_13 rfl (by first | rfl | assumption) ?_
        refine r_getf hX d_Re_readSizes_14 fl_Re_167 hpa.1 rfl ?_
        refine r_iconst (v := 2) hX d_Re_readSizes_17 (by decide) ?_
        refine r_icmp_ne hX 28 d_Re_readSizes_18 (by decide) (fun _ => ?_) (fun c18 => absurd ((nI_eq (b := 2) (by omega) (by decide)).mp (hla.symm.trans c18)) hla2)
        refine r_iconst (v := 0) hX d_Re_readSizes_28 (by decide) ?_
        refine q_istore hX 3 d_Re_readSizes_29 rfl (by decide) ?_
        refine r_lconst (v := 0) hX d_Re_readSizes_30 (by decide) ?_
        refine r_lstore hX d_Re_readSizes_31 (by decide) ?_
        refine r_iconst (v := 0) hX d_Re_readSizes_33 (by decide) ?_
        refine r_istore hX d_Re_readSizes_34 (by decide) ?_
        exact loop (n - 1) [] p 0 0 _ w vf vL (by simp) hpe (by omega) (by simp) (by rw [show (fun q : List Nat × Nat => ([] ++ q.1, q.2)) = id from rfl, Option.map_id]; rfl) hpa hre ev_sm.rf rfl rfl rfl rfl rfl rfl
      intro k
      induction k with
      | zero =>
        intro acc p1 prev sum ls w1 vf1 vL1 e1 hp1e hpr hsu e2 hp1 hr1 hs1 l0 l1 l2 l3 l4 l6
        refine r_iload hX d_Re_readSizes_36 (by first | rfl | assumption) ?_
        refine q_iload hX 2 d_Re_readSizes_38 rfl (by first | rfl | assumption) ?_
        refine r_iconst (v := 1) hX d_Re_readSizes_39 (by decide) ?_
        refine r_isub hX d_Re_readSizes_40 ?_
        refine r_icmp_ge hX 153 d_Re_readSizes_41 (by decide) (fun _ => ?_) (fun c41 => absurd (by rw [hfr]; exact nI_le (by omega) (by omega)) c41)
        refine q_iload hX 3 d_Re_readSizes_153 rfl (by first | rfl | assumption) ?_
        refine q_aload hX 0 d_Re_readSizes_154 rfl (by first | rfl | assumption) ?_
        refine r_getf hX d_Re_readSizes_155 fl_Re_57 hr1 rfl ?_
        refine q_aload hX 0 d_Re_readSizes_158 rfl (by first | rfl | assumption) ?_
        refine r_getf hX d_Re_readSizes_159 fl_Re_32 hr1 rfl ?_
        refine r_isub hX d_Re_readSizes_162 ?_
        rw [nI_sb (by omega)]
        refine r_icmp_le hX 168 d_Re_readSizes_163 (by decide) (fun c163 => ?_) (fun c163 => ?_)
        · have hle : sum ≤ e - p1 := (nI_leI (by omega) (by omega)).mp c163
          refine q_aload hX 1 d_Re_readSizes_168 rfl (by first | rfl | assumption) ?_
          refine q_aload hX 0 d_Re_readSizes_169 rfl (by first | rfl | assumption) ?_
          refine r_getf hX d_Re_readSizes_170 fl_Re_57 hr1 rfl ?_
          refine q_aload hX 0 d_Re_readSizes_173 rfl (by first | rfl | assumption) ?_
          refine r_getf hX d_Re_readSizes_174 fl_Re_32 hr1 rfl ?_
          refine r_isub hX d_Re_readSizes_177 ?_
          rw [nI_sb (by omega)]
          refine q_iload hX 3 d_Re_readSizes_178 rfl (by first | rfl | assumption) ?_
          refine r_isub hX d_Re_readSizes_179 ?_
          rw [nI_sb hle]
          refine r_callV (as := [_]) hX d_Re_readSizes_180 lk_Re_152 hp1.1 rfl rfl (Nat.le_of_ble_eq_true rfl) (by decide) 0 0 (Nat.le_refl _) (Nat.le_refl _) (c_El_addPartL (G := G) hp1 (by omega) (by omega) (e - p1 - sum)) (fun v w3 hq => ?_)
          obtain ⟨rfl, q1, q2⟩ := hq
          refine r_iret hX hR d_Re_readSizes_183 rfl (by first | rfl | assumption) ?_
          show rz_post _ _ _ _ _ _ _ _ _ _ _
          rw [hbz, ← e2, rz, if_pos hle]
          exact ⟨rfl, q1, ⟨_, _, (q2.2 112 (by simp; omega)).trans hr1⟩, hs1.tr (q2.up (by simp))⟩
        · refine r_iconst (v := 0) hX d_Re_readSizes_166 (by decide) ?_
          refine r_iret hX hR d_Re_readSizes_167 rfl (by first | rfl | assumption) ?_
          exact no _ ⟨p1, _, _, by omega, hr1⟩ ⟨_, hp1⟩ hs1 (by rw [← e2, rz, if_neg (fun z => c163 (nI_le z (by omega)))]; rfl)
      | succ k ih =>
        intro acc p1 prev sum ls w1 vf1 vL1 e1 hp1e hpr hsu e2 hp1 hr1 hs1 l0 l1 l2 l3 l4 l6
        have pos : ∀ (r : Nat × Nat) (ls2 : Ev_L) (w2 : Ev_W), rz1 g la e acc.length p1 prev = some r → (∃ vf2 vL2, is_Re w2 fp ms (nI r.2) (nI e) tg vf2 vL2) → is_pa w2 a E pf acc → ev_sm w w2 [112, a, a + 1] → ls2.2 4 = some (lN r.1) → ls2.1 0 = some (.ref 112) → ls2.1 1 = some (.ref a) → ls2.1 2 = some (.int (nI n)) → ls2.1 3 = some (.int (nI sum)) → ls2.1 6 = some (.int (nI acc.length)) → ev_W G M_Re_readSizes X 0 0 108 ls2 [] w2 := by
          intro r ls2 w2 hrz hr2 hp2 hs2 m4 m0 m1 m2 m3 m6
          obtain ⟨vf2, vL2, hr2⟩ := hr2
          have hb := rz1_b hge hp1e (by omega) hpr hrz
          refine r_lload hX d_Re_readSizes_108 (by first | rfl | assumption) ?_
          refine r_lconst (v := 0) hX d_Re_readSizes_110 (by decide) ?_
          refine r_lcmp hX d_Re_readSizes_111 ?_
          refine r_if_lt hX 131 d_Re_readSizes_112 (by decide) (fun c112 => absurd c112 (by rw [l_lt0, pk_lT (by omega), show (0 : Int64).toInt = 0 from rfl]; omega)) (fun _ => ?_)
          refine r_lload hX d_Re_readSizes_115 (by first | rfl | assumption) ?_
          refine q_aload hX 0 d_Re_readSizes_117 rfl (by first | rfl | assumption) ?_
          refine r_getf hX d_Re_readSizes_118 fl_Re_57 hr2 rfl ?_
          refine q_aload hX 0 d_Re_readSizes_121 rfl (by first | rfl | assumption) ?_
          refine r_getf hX d_Re_readSizes_122 fl_Re_32 hr2 rfl ?_
          refine r_isub hX d_Re_readSizes_125 ?_
          rw [nI_sb (by omega)]
          refine r_i2l hX d_Re_readSizes_126 ?_
          rw [nI_l (by omega)]
          refine r_lcmp hX d_Re_readSizes_127 ?_
          refine r_if_le hX 133 d_Re_readSizes_128 (by decide) (fun c128 => ?_) (fun c128 => ?_)
          · have hle : r.1 ≤ e - r.2 := by rw [l_le0, pk_lT (by omega), pk_lT (by omega)] at c128; omega
            refine q_iload hX 3 d_Re_readSizes_133 rfl (by first | rfl | assumption) ?_
            refine r_lload hX d_Re_readSizes_134 (by first | rfl | assumption) ?_
            refine r_l2i hX d_Re_readSizes_136 ?_
            rw [lN_i]
            refine r_iadd hX d_Re_readSizes_137 ?_
            rw [nI_add]
            refine q_istore hX 3 d_Re_readSizes_138 rfl (by decide) ?_
            refine q_aload hX 1 d_Re_readSizes_139 rfl (by first | rfl | assumption) ?_
            refine r_lload hX d_Re_readSizes_140 (by first | rfl | assumption) ?_
            refine r_l2i hX d_Re_readSizes_142 ?_
            rw [lN_i]
            refine r_callV (as := [_]) hX d_Re_readSizes_143 lk_Re_152 hp2.1 rfl rfl (Nat.le_of_ble_eq_true rfl) (by decide) 0 0 (Nat.le_refl _) (Nat.le_refl _) (c_El_addPartL (G := G) hp2 (by omega) (by omega) r.1) (fun v w3 hq => ?_)
            obtain ⟨rfl, q1, q2⟩ := hq
            refine r_pop hX d_Re_readSizes_146 rfl ?_
            refine r_iinc hX d_Re_readSizes_147 (by first | rfl | assumption) ?_
            refine r_goto hX 36 d_Re_readSizes_150 (by decide) ?_
            exact ih (acc ++ [r.1]) r.2 r.1 (sum + r.1) _ w3 _ _ (by simp; omega) (by omega) (by omega) (by rw [List.length_append]; exact Nat.mul_le_mul_right 640 (Nat.succ_le_succ (Nat.le_refl acc.length)) |> fun _ => (by simp; omega)) (by rw [← e2, rz, hrz]; dsimp only; rw [if_pos hle, Option.map_map, List.length_append]; congr 1; funext q; simp) q1 ((q2.2 112 (by simp; omega)).trans hr2) (hs2.tr (q2.up (by simp))) m0 m1 m2 rfl m4 (by show some (Value.int (nI acc.length + Int32.ofInt 1)) = _; rw [show Int32.ofInt 1 = 1 from rfl, nI_1, List.length_append]; rfl)
          · refine r_iconst (v := 0) hX d_Re_readSizes_131 (by decide) ?_
            refine r_iret hX hR d_Re_readSizes_132 rfl (by first | rfl | assumption) ?_
            exact no _ ⟨r.2, _, _, hb.2.1, hr2⟩ ⟨_, hp2⟩ hs2 (by rw [← e2, rz, hrz]; dsimp only; rw [if_neg (fun z => c128 (by rw [l_le0, pk_lT (by omega), pk_lT (by omega)]; omega))]; rfl)
        have neg : ∀ (x : Int64) (ls2 : Ev_L) (w2 : Ev_W), x.toInt < 0 → rz1 g la e acc.length p1 prev = none → (∃ p9 vf2 vL2, p9 ≤ e ∧ is_Re w2 fp ms (nI p9) (nI e) tg vf2 vL2) → is_pa w2 a E pf acc → ev_sm w w2 [112, a, a + 1] → ls2.2 4 = some x → ls2.1 0 = some (.ref 112) → ls2.1 1 = some (.ref a) → ls2.1 2 = some (.int (nI n)) → ls2.1 3 = some (.int (nI sum)) → ls2.1 6 = some (.int (nI acc.length)) → ev_W G M_Re_readSizes X 0 0 108 ls2 [] w2 := by
          intro x ls2 w2 hx hrz hr2 hp2 hs2 m4 m0 m1 m2 m3 m6
          obtain ⟨p9, vf2, vL2, hp9, hr2⟩ := hr2
          refine r_lload hX d_Re_readSizes_108 (by first | rfl | assumption) ?_
          refine r_lconst (v := 0) hX d_Re_readSizes_110 (by decide) ?_
          refine r_lcmp hX d_Re_readSizes_111 ?_
          refine r_if_lt hX 131 d_Re_readSizes_112 (by decide) (fun _ => ?_) (fun c112 => absurd (by rw [l_lt0, show (0 : Int64).toInt = 0 from rfl]; exact hx) c112)
          refine r_iconst (v := 0) hX d_Re_readSizes_131 (by decide) ?_
          refine r_iret hX hR d_Re_readSizes_132 rfl (by first | rfl | assumption) ?_
          exact no _ ⟨_, _, _, hp9, hr2⟩ ⟨_, hp2⟩ hs2 (by rw [← e2, rz, hrz]; rfl)
        refine r_iload hX d_Re_readSizes_36 (by first | rfl | assumption) ?_
        refine q_iload hX 2 d_Re_readSizes_38 rfl (by first | rfl | assumption) ?_
        refine r_iconst (v := 1) hX d_Re_readSizes_39 (by decide) ?_
        refine r_isub hX d_Re_readSizes_40 ?_
        refine r_icmp_ge hX 153 d_Re_readSizes_41 (by decide) (fun c41 => absurd c41 (by rw [hfr]; exact nI_ge (by omega) (by omega))) (fun _ => ?_)
        refine q_aload hX 1 d_Re_readSizes_44 rfl (by first | rfl | assumption) ?_
        refine r_getf hX d_Re_readSizes_45 fl_Re_167 hp1.1 rfl ?_
        rw [(show (el_am E (lN acc.length)).2.2.2 8 = nI la from hla)]
        refine r_iconst (v := 1) hX d_Re_readSizes_48 (by decide) ?_
        refine r_icmp_ne hX 61 d_Re_readSizes_49 (by decide) (fun c49 => ?_) (fun c49 => ?_)
        · refine q_aload hX 0 d_Re_readSizes_61 rfl (by first | rfl | assumption) ?_
          refine r_callV (as := []) hX d_Re_readSizes_62 lk_Re_97 hr1 rfl rfl (Nat.le_of_ble_eq_true rfl) (by decide) 0 0 (Nat.le_refl _) (Nat.le_refl _) (c_Re_nextVint (G := G) (hin.sm hs1 (by simp; omega) (by simp; omega)) hg hr1 hec (by omega)) (fun v w2 hq => ?_)
          have hq : vi_post _ _ _ _ _ _ _ _ _ _ _ := hq
          have hla1 : ¬ la = 1 := fun z => c49 (by rw [z]; rfl)
          cases hvi : vi g p1 e with
          | none =>
            rw [vi_post, hvi] at hq
            obtain ⟨rfl, ⟨vf9, vL9, hr2⟩, q2⟩ := hq
            have hp2 : is_pa w2 a E pf acc := hp1.sm q2 (by simp; omega) (by simp; omega)
            have hs2 : ev_sm w w2 [112, a, a + 1] := hs1.tr (q2.up (by simp))
            refine r_lstore hX d_Re_readSizes_65 (by decide) ?_
            refine r_lload hX d_Re_readSizes_67 (by first | rfl | assumption) ?_
            refine r_lconst (v := 0) hX d_Re_readSizes_69 (by decide) ?_
            refine r_lcmp hX d_Re_readSizes_70 ?_
            refine r_if_lt hX 81 d_Re_readSizes_71 (by decide) (fun _ => ?_) (fun c71 => absurd (by decide) c71)
            refine r_iconst (v := 0) hX d_Re_readSizes_81 (by decide) ?_
            refine r_iret hX hR d_Re_readSizes_82 rfl (by first | rfl | assumption) ?_
            exact no _ ⟨p1, _, _, by omega, hr2⟩ ⟨_, hp2⟩ hs2 (by rw [← e2, rz, show rz1 g la e acc.length p1 prev = none from by rw [rz1, if_neg hla1, hvi]]; rfl)
          | some r =>
            have hv := vi_of hvi
            rw [vi_post, hvi] at hq
            obtain ⟨rfl, hr2, q2⟩ := hq
            have hp2 : is_pa w2 a E pf acc := hp1.sm q2 (by simp; omega) (by simp; omega)
            have hs2 : ev_sm w w2 [112, a, a + 1] := hs1.tr (q2.up (by simp))
            refine r_lstore hX d_Re_readSizes_65 (by decide) ?_
            refine r_lload hX d_Re_readSizes_67 (by first | rfl | assumption) ?_
            refine r_lconst (v := 0) hX d_Re_readSizes_69 (by decide) ?_
            refine r_lcmp hX d_Re_readSizes_70 ?_
            refine r_if_lt hX 81 d_Re_readSizes_71 (by decide) (fun c71 => absurd c71 (by rw [l_lt0, pk_lT (by omega), show (0 : Int64).toInt = 0 from rfl]; omega)) (fun _ => ?_)
            refine q_aload hX 0 d_Re_readSizes_74 rfl (by first | rfl | assumption) ?_
            refine r_getf hX d_Re_readSizes_75 fl_Re_101 hr2 rfl ?_
            refine r_if_eq hX 83 d_Re_readSizes_78 (by decide) (fun c78 => ?_) (fun c78 => ?_)
            · refine r_iload hX d_Re_readSizes_83 (by first | rfl | assumption) ?_
              refine r_if_ne hX 93 d_Re_readSizes_85 (by decide) (fun c85 => ?_) (fun c85 => ?_)
              · refine r_lload hX d_Re_readSizes_93 (by first | rfl | assumption) ?_
                refine r_lload hX d_Re_readSizes_95 (by first | rfl | assumption) ?_
                refine r_ladd hX d_Re_readSizes_97 ?_
                refine q_aload hX 0 d_Re_readSizes_98 rfl (by first | rfl | assumption) ?_
                refine r_getf hX d_Re_readSizes_99 fl_Re_176 hr2 rfl ?_
                refine r_callSN (as := [_]) hX d_Re_readSizes_102 lk_Re_179 rfl (Nat.le_of_ble_eq_true rfl) (by decide) 0 0 (Nat.le_refl _) (Nat.le_refl _) (c_EF_surplus (G := G) _) (fun v w3 hq => ?_)
                obtain ⟨rfl, hw⟩ := hq
                rw [hw, su_N _ (by omega) (by omega)]
                refine r_lsub hX d_Re_readSizes_105 ?_
                rw [lN_add]
                refine r_lstore hX d_Re_readSizes_106 (by decide) ?_
                have hnf : ¬ vi_full r = true := by rw [b_i_0 c78]; decide
                have hi0 : ¬ acc.length = 0 := fun z => c85 (by rw [z]; rfl)
                have hs57 : 2 ^ (7 * r.2 - 1) ≤ 2 ^ 55 := Nat.pow_le_pow_right (by decide) (by omega)
                by_cases hlt : prev + r.1 < 2 ^ (7 * r.2 - 1) - 1
                · exact neg _ _ _ (by rw [lN_d (by omega) (by omega)]; omega) (by rw [rz1, if_neg hla1, hvi]; dsimp only; rw [if_neg hnf, if_neg hi0, if_pos hlt]) ⟨_, _, _, hv.2.2.2.2.1, hr2⟩ hp2 hs2 rfl l0 l1 l2 l3 l6
                · exact pos (prev + r.1 - (2 ^ (7 * r.2 - 1) - 1), p1 + r.2) _ _ (by rw [rz1, if_neg hla1, hvi]; dsimp only; rw [if_neg hnf, if_neg hi0, if_neg hlt]) ⟨_, _, hr2⟩ hp2 hs2 (by show some (lN (prev + r.1) - lN (2 ^ (7 * r.2 - 1) - 1)) = _; rw [lN_sub (by omega)]) l0 l1 l2 l3 l6
              · refine r_lload hX d_Re_readSizes_88 (by first | rfl | assumption) ?_
                refine r_goto hX 106 d_Re_readSizes_90 (by decide) ?_
                refine r_lstore hX d_Re_readSizes_106 (by decide) ?_
                have hnf : ¬ vi_full r = true := by rw [b_i_0 c78]; decide
                have hi0 : acc.length = 0 := (nI_eq (by omega) (by decide)).mp (c85.trans nI_0.symm)
                exact pos (r.1, p1 + r.2) _ _ (by rw [rz1, if_neg hla1, hvi]; dsimp only; rw [if_neg hnf, if_pos hi0]) ⟨_, _, hr2⟩ hp2 hs2 rfl l0 l1 l2 l3 l6
            · refine r_iconst (v := 0) hX d_Re_readSizes_81 (by decide) ?_
              refine r_iret hX hR d_Re_readSizes_82 rfl (by first | rfl | assumption) ?_
              exact no _ ⟨p1 + r.2, _, _, hv.2.2.2.2.1, hr2⟩ ⟨_, hp2⟩ hs2 (by rw [← e2, rz, show rz1 g la e acc.length p1 prev = none from by rw [rz1, if_neg hla1, hvi]; dsimp only; rw [if_pos (b_i_1 c78)]]; rfl)
        · refine q_aload hX 0 d_Re_readSizes_52 rfl (by first | rfl | assumption) ?_
          refine r_callV (as := []) hX d_Re_readSizes_53 lk_Re_173 hr1 rfl rfl (Nat.le_of_ble_eq_true rfl) (by decide) 0 0 (Nat.le_refl _) (Nat.le_refl _) (c_Re_nextSizeOfBytes (G := G) (hin.sm hs1 (by simp; omega) (by simp; omega)) hg hr1 hec (by omega)) (fun v w2 hq => ?_)
          have hq : sz_post _ _ _ _ _ _ _ _ _ _ _ := hq
          have hla1 : la = 1 := (nI_eq (b := 1) (by omega) (by decide)).mp c49
          cases hsz : sz_b g (e - p1) p1 0 with
          | none =>
            rw [sz_post, hsz] at hq
            obtain ⟨rfl, ⟨p9, vf9, vL9, hp9, hr2⟩, q2⟩ := hq
            have hp2 : is_pa w2 a E pf acc := hp1.sm q2 (by simp; omega) (by simp; omega)
            have hs2 : ev_sm w w2 [112, a, a + 1] := hs1.tr (q2.up (by simp))
            refine r_lstore hX d_Re_readSizes_56 (by decide) ?_
            refine r_goto hX 108 d_Re_readSizes_58 (by decide) ?_
            exact neg _ _ _ (by decide) (by rw [rz1, if_pos hla1, hsz]) ⟨_, _, _, hp9, hr2⟩ hp2 hs2 rfl l0 l1 l2 l3 l6
          | some r =>
            rw [sz_post, hsz] at hq
            obtain ⟨rfl, hr2, q2⟩ := hq
            have hp2 : is_pa w2 a E pf acc := hp1.sm q2 (by simp; omega) (by simp; omega)
            have hs2 : ev_sm w w2 [112, a, a + 1] := hs1.tr (q2.up (by simp))
            refine r_lstore hX d_Re_readSizes_56 (by decide) ?_
            refine r_goto hX 108 d_Re_readSizes_58 (by decide) ?_
            exact pos r _ _ (by rw [rz1, if_pos hla1, hsz]) ⟨_, _, hr2⟩ hp2 hs2 rfl l0 l1 l2 l3 l6
