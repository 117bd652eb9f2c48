/-! ===== the reference: index ===== -/
theorem tg_10 : so_tg 10 = 187 := by decide +kernel
def mk_9 (S : Ev_S) (k x : Nat) : Bool := mp_b (sE S) (si S) k x && decide (¬ (sE S x).2.2.2 7 = 0)
/-- a CUE in the reference -/
theorem mdl.cu {S : Ev_S} {k : Nat} (hn : sn S + 4 ≤ 60) (hk : k < sn S) (h1 : (sE S k).1 = 1) : (sE (cu1 S k) (cup S k)).1 = 10 ∧ cup S k < sn (cu1 S k) := by
  refine ⟨?_, ?_⟩
  · show (tr_insE (mk_p (sE S) (sn S) (some k)) (sn S) _ (sE S) (mk_p (sE S) (sn S) (some k))).1 = 10
    rw [insE_at]; rfl
  · have : cup S k ≤ sn S := mk_pn (fun j hj => by cases hj; exact hk)
    show cup S k < sn S + 1
    omega
theorem c_Mo_index {G : Ev_G} {w : Ev_W} {I : Nat → Int32} {v0 : Int64} {A : Ev_A} (hM : is_M w I v0 A) {S : Ev_S} {D : Nat → Ev_D} {sf : Nat → Int32} {sd : Nat} (hm : mdl I A S D sf sd) (hmk : ∀ x, x < sn S → ∀ k, k < sn S → ((sE S x).2.1 = some (sa S k) ↔ si S x = some k)) {k : Nat} (hk : k < sn S) (h1 : (sE S k).1 = 1) (hsg : ef_seg (sE S) (sn S) (nI k) = some k) (L1 : Nat → Option Nat) : ev_Met G M_Mo_index 3 0 0 [.ref 117, .int (nI k)] w (fun v w' => (60 < sn S - (tr_wg (sE S) (sa S k) 10 (tr_end (el_lev (sE S)) (sn S) k - (k + 1)) (k + 1) false) + 4 * (fi_ck (sE S) (tr_end (el_lev (sE S)) (sn S) k - (k + 1)) (k + 1)) ∧ v = some (.int (-6)) ∧ w' = w) ∨ (sn S - (tr_wg (sE S) (sa S k) 10 (tr_end (el_lev (sE S)) (sn S) k - (k + 1)) (k + 1) false) + 4 * (fi_ck (sE S) (tr_end (el_lev (sE S)) (sn S) k - (k + 1)) (k + 1)) ≤ 60 ∧ v = some (.int (nI (fi_ck (sE S) (tr_end (el_lev (sE S)) (sn S) k - (k + 1)) (k + 1)))) ∧ ∃ I' A' D', is_M w' I' v0 A' ∧ mo_sm w w' ∧ mdl I' A' (ix_S S k L1) D' sf sd ∧ (∀ q, q ≠ 0 → I' q = I q) ∧ ∀ q, q ∉ mv_l → A'.1 q = A.1 q)) := by
  obtain ⟨_, hn, _, _, hpo, hpl, hrow, _⟩ := id hm
  have hmas : ∀ x, x < sn S → A.1 119 x = o_i (si S x) := fun x hx => (hrow x hx).2.2
  refine ev_Met.of md_Mo_index (Nat.le_of_ble_eq_true rfl) (fun X hX hR => ?_)
  have loop3 : ∀ (S1 : Ev_S), S1 = tk_S S k 10 L1 → sn S - (tr_wg (sE S) (sa S k) 10 (tr_end (el_lev (sE S)) (sn S) k - (k + 1)) (k + 1) false) + 4 * (fi_ck (sE S) (tr_end (el_lev (sE S)) (sn S) k - (k + 1)) (k + 1)) ≤ 60 → k < ix_end S1 k → ix_end S1 k ≤ sn S1 → (sE S1 k).1 = 1 → (∀ t, k < t → t < ix_end S1 k → el_ln (sE S1) k < el_ln (sE S1) t) → ∀ (t j bef : Nat) (Sc : Ev_S) (I1 : Nat → Int32) (A1 : Ev_A) (Dc : Nat → Ev_D) (w1 : Ev_W) (ls : Ev_L), j + t = sn S1 → k < j → bef ≤ j → ix_go k (ix_end S1 k - j) j bef Sc = ix_go k (ix_end S1 k - (k + 1)) (k + 1) 0 S1 → is_M w1 I1 v0 A1 → mo_sm w w1 → mdl I1 A1 Sc Dc sf sd → (∀ i, i < ix_end S1 k → sE Sc i = sE S1 i) → ix_end S1 k ≤ cup Sc k → (∀ i, ix_end S1 k ≤ i → i < sn Sc → mp_b (sE Sc) (si Sc) k i = false) → sn Sc + 4 * fi_ck (sE S1) (ix_end S1 k - j) j ≤ 60 → sn S1 ≤ sn Sc → (∀ q, q ≠ 0 → I1 q = I q) → (∀ q, q ∉ mv_l → A1.1 q = A.1 q) → ls.1 0 = some (.ref 117) → ls.1 1 = some (.int (nI k)) → ls.1 3 = some (.int (nI (fi_ck (sE S) (tr_end (el_lev (sE S)) (sn S) k - (k + 1)) (k + 1)))) → ls.1 4 = some (.int (nI bef)) → ls.1 5 = some (.int (nI (sn S1))) → ls.1 6 = some (.int (nI j)) → ev_W G M_Mo_index X 0 0 182 ls [] w1 := by
    intro S1 hS1e h60 hke hes h1s hd1 t
    induction t with
    | zero =>
      intro j bef Sc I1 A1 Dc w ls e1 hkj hbj eR hM hs hmc hsame hend hno hroom hgr g1 g2 l0 l1 l3 l4 l5 l6
      have hnc := hmc.2.1
      refine r_iload hX d_Mo_index_182 (by first | rfl | assumption) ?_
      refine r_iload hX d_Mo_index_184 (by first | rfl | assumption) ?_
      refine r_icmp_ge hX 279 d_Mo_index_186 (by decide) (fun _ => ?_) (fun c186 => absurd (nI_le (by omega) (by omega)) c186)
      refine q_iload hX 3 d_Mo_index_279 rfl (by first | rfl | assumption) ?_
      refine r_iret hX hR d_Mo_index_280 rfl (by first | rfl | assumption) ?_
      refine Or.inr ⟨h60, rfl, I1, A1, Dc, hM, hs, ?_, g1, g2⟩
      have hR : ix_S S k L1 = Sc := by rw [ix_S, ← hS1e, ← eR, show ix_end S1 k - j = 0 by omega]; rfl
      rw [hR]; exact hmc
    | succ t ih =>
      intro j bef Sc I1 A1 Dc w ls e1 hkj hbj eR hM hs hmc hsame hend hno hroom hgr g1 g2 l0 l1 l3 l4 l5 l6
      have hnc := hmc.2.1
      have h1c : (sE Sc k).1 = 1 := by rw [hsame k hke]; exact h1s
      have q7 : mp_b (sE Sc) (si Sc) k j = true → A1.1 125 j = (sE Sc j).2.2.2 7 := fun z => by
        have h9 := ((mp_b_iff hnc hmc.2.2.2.2.1 hmc.2.2.2.2.2.1 (by omega) h1c (by omega)).mp z).1
        exact ((hmc.2.2.2.2.2.2.1 j (by omega)).2.1.2.2.2.2.1 (by rw [h9]; rfl)).2.2.1
      refine r_iload hX d_Mo_index_182 (by first | rfl | assumption) ?_
      refine r_iload hX d_Mo_index_184 (by first | rfl | assumption) ?_
      refine r_icmp_ge hX 279 d_Mo_index_186 (by decide) (fun c186 => absurd c186 (nI_ge (by omega) (by omega))) (fun _ => ?_)
      refine q_aload hX 0 d_Mo_index_189 rfl (by first | rfl | assumption) ?_
      refine r_iload hX d_Mo_index_190 (by first | rfl | assumption) ?_
      refine q_iload hX 1 d_Mo_index_192 rfl (by first | rfl | assumption) ?_
      refine r_callV (as := [_, _]) hX d_Mo_index_193 lk_Mo_270 hM.1 rfl rfl (Nat.le_of_ble_eq_true rfl) (by decide) 0 0 (Nat.le_refl _) (Nat.le_refl _) (c_Mo_isBlockOf (G := G) hM hmc (i := j) (k := k) (by omega) (by omega)) (fun v w1 hq => ?_)
      obtain ⟨rfl, hw⟩ := hq
      rw [hw]
      refine r_if_eq hX 273 d_Mo_index_196 (by decide) (fun c196 => ?_) (fun c196 => ?_)
      · refine r_iinc hX d_Mo_index_273 (by first | rfl | assumption) ?_
        refine r_goto hX 182 d_Mo_index_276 (by decide) ?_
        have hb := b_i_0 c196
        by_cases hje : j < ix_end S1 k
        · have h9 : ¬ (sE Sc j).1 = 9 := fun z => by
            have := (mp_b_iff hnc hmc.2.2.2.2.1 hmc.2.2.2.2.2.1 (show k < sn Sc by omega) h1c (i := j) (by omega)).mpr ⟨z, by omega, by show j < cup Sc k; omega⟩
            rw [hb] at this; cases this
          have hck : fi_ck (sE S1) (ix_end S1 k - j) j = fi_ck (sE S1) (ix_end S1 k - (j + 1)) (j + 1) := by
            rw [show ix_end S1 k - j = (ix_end S1 k - (j + 1)) + 1 by omega, fi_ck, if_neg (by rw [← hsame j hje]; exact fun z => h9 z.1), Nat.zero_add]
          exact ih (j + 1) bef Sc I1 A1 Dc _ _ (by omega) (by omega) (by omega) (by rw [← eR, show ix_end S1 k - j = (ix_end S1 k - (j + 1)) + 1 by omega, ix_go, if_neg h9]) hM hs hmc hsame hend hno (by omega) (by omega) g1 g2 l0 l1 l3 l4 l5 (by show some (Value.int (nI j + Int32.ofInt 1)) = _; rw [show Int32.ofInt 1 = 1 from rfl, nI_1])
        · exact ih (j + 1) bef Sc I1 A1 Dc _ _ (by omega) (by omega) (by omega) (by rw [← eR, show ix_end S1 k - j = 0 by omega, show ix_end S1 k - (j + 1) = 0 by omega]; rfl) hM hs hmc hsame hend hno (by rw [show ix_end S1 k - (j + 1) = 0 by omega]; rw [show ix_end S1 k - j = 0 by omega] at hroom; exact hroom) (by omega) g1 g2 l0 l1 l3 l4 l5 (by show some (Value.int (nI j + Int32.ofInt 1)) = _; rw [show Int32.ofInt 1 = 1 from rfl, nI_1])
      · refine q_aload hX 0 d_Mo_index_199 rfl (by first | rfl | assumption) ?_
        refine r_getf hX d_Mo_index_200 fl_Mo_32 hM.1 rfl ?_
        refine r_iload hX d_Mo_index_203 (by first | rfl | assumption) ?_
        refine r_zaldm (c := 125) (x := (sE Sc j).2.2.2 7) hX d_Mo_index_205 hM rfl rfl (by omega) (q7 (b_i_1 c196)) ?_
        refine r_if_eq hX 270 d_Mo_index_206 (by decide) (fun c206 => ?_) (fun c206 => ?_)
        · refine r_iinc hX d_Mo_index_270 (by first | rfl | assumption) ?_
          refine r_iinc hX d_Mo_index_273 (by first | rfl | assumption) ?_
          refine r_goto hX 182 d_Mo_index_276 (by decide) ?_
          have h9 : (sE Sc j).1 = 9 := ((mp_b_iff hnc hmc.2.2.2.2.1 hmc.2.2.2.2.2.1 (by omega) h1c (by omega)).mp (b_i_1 c196)).1
          have hje : j < ix_end S1 k := Nat.lt_of_not_le (fun z => by have := hno j z (by omega); rw [b_i_1 c196] at this; cases this)
          have hck : fi_ck (sE S1) (ix_end S1 k - j) j = fi_ck (sE S1) (ix_end S1 k - (j + 1)) (j + 1) := by
            rw [show ix_end S1 k - j = (ix_end S1 k - (j + 1)) + 1 by omega, fi_ck, if_neg (by rw [← hsame j hje]; exact fun z => z.2 c206), Nat.zero_add]
          exact ih (j + 1) (bef + 1) Sc I1 A1 Dc _ _ (by omega) (by omega) (by omega) (by rw [← eR, show ix_end S1 k - j = (ix_end S1 k - (j + 1)) + 1 by omega, ix_go, if_pos h9, if_neg (fun z => z c206)]) hM hs hmc hsame hend hno (by omega) (by omega) g1 g2 l0 l1 l3 (by show some (Value.int (nI bef + Int32.ofInt 1)) = _; rw [show Int32.ofInt 1 = 1 from rfl, nI_1]) l5 (by show some (Value.int (nI j + Int32.ofInt 1)) = _; rw [show Int32.ofInt 1 = 1 from rfl, nI_1])
        · refine q_aload hX 0 d_Mo_index_209 rfl (by first | rfl | assumption) ?_
          refine q_iload hX 1 d_Mo_index_210 rfl (by first | rfl | assumption) ?_
          refine r_sipush (v := 187) hX d_Mo_index_211 (by decide) ?_
          refine r_lconst (v := 0) hX d_Mo_index_214 (by decide) ?_
          have h9 : (sE Sc j).1 = 9 := ((mp_b_iff hnc hmc.2.2.2.2.1 hmc.2.2.2.2.2.1 (by omega) h1c (by omega)).mp (b_i_1 c196)).1
          have hj7 : ¬ (sE Sc j).2.2.2 7 = 0 := c206
          have hje : j < ix_end S1 k := Nat.lt_of_not_le (fun z => by have := hno j z (by omega); rw [b_i_1 c196] at this; cases this)
          have hck : fi_ck (sE S1) (ix_end S1 k - j) j = 1 + fi_ck (sE S1) (ix_end S1 k - (j + 1)) (j + 1) := by
            rw [show ix_end S1 k - j = (ix_end S1 k - (j + 1)) + 1 by omega, fi_ck, if_pos (by rw [← hsame j hje]; exact ⟨h9, hj7⟩)]
          have hro : sn Sc + 4 ≤ 60 := by omega
          have hjc : j < cup Sc k := by omega
          have hgt1 : cup Sc k < mk_p (sE (cu1 Sc k)) (sn (cu1 Sc k)) (some (cup Sc k)) := mk_p_gt
          have hgt2 : cup Sc k < mk_p (sE (cu2 Sc k j)) (sn (cu2 Sc k j)) (some (cup Sc k)) := mk_p_gt
          have hgt3 : cup Sc k < mk_p (sE (cu3 Sc k j)) (sn (cu3 Sc k j)) (some (cup Sc k)) := mk_p_gt
          have hcn : cup Sc k ≤ sn Sc := mk_pn (fun j hj => by cases hj; omega)
          have hn1 : sn (cu1 Sc k) = sn Sc + 1 := rfl
          have hn2 : sn (cu2 Sc k j) = sn Sc + 2 := rfl
          have hn3 : sn (cu3 Sc k j) = sn Sc + 3 := rfl
          have hn4 : sn (cu4 Sc k j bef) = sn Sc + 4 := rfl
          have e1 : sE (cu1 Sc k) j = sE Sc j := (nw_lo hjc).2.1
          have e2 : sE (cu2 Sc k j) j = sE (cu1 Sc k) j := (nw_lo (S := cu1 Sc k) (by omega)).2.1
          have s1 : (sE (cu1 Sc k) (cup Sc k)).1 = 10 := (mdl.cu hro (by omega) h1c).1
          have s2 : (sE (cu2 Sc k j) (cup Sc k)).1 = 10 := by rw [show sE (cu2 Sc k j) (cup Sc k) = sE (cu1 Sc k) (cup Sc k) from (nw_lo (S := cu1 Sc k) hgt1).2.1]; exact s1
          have s3 : (sE (cu3 Sc k j) (cup Sc k)).1 = 10 := by rw [show sE (cu3 Sc k j) (cup Sc k) = sE (cu2 Sc k j) (cup Sc k) from (nw_lo (S := cu2 Sc k j) hgt2).2.1]; exact s2
          have hno1 := mpb_ins (o := some k) (E1 := ad_E Sc (some k) 10 (so_tg 10) 0) hmc.2.2.2.2.1 (show k < cup Sc k from mk_p_gt) hcn hend (by show ¬ (10 : Nat) = 9; decide) hno
          refine r_callV (as := [_, _, _]) hX d_Mo_index_215 lk_Mo_195 hM.1 rfl rfl (Nat.le_of_ble_eq_true rfl) (by decide) 0 0 (Nat.le_refl _) (Nat.le_refl _) (c_Mo_insert (G := G) hM hmc.1 (show sn Sc < 60 by omega) (E := sE Sc) (mi := si Sc) (fun x hx => (hmc.2.2.2.2.2.2.1 x hx).2.2) hmc.2.2.2.2.1 (mo := some k) (fun j hj => by cases hj; omega) (so_tg 10) 0) (fun v w hq => ?_)
          obtain ⟨rfl, A2, hM, hs2, hin⟩ := hq
          have hs := hs.tr hs2
          have hmc := mdl.nw (I' := upd I1 0 (nI (sn Sc + 1))) hmc (by omega) (show k < sn Sc by omega) (s := 10) (by decide) (Or.inl rfl) (by rw [h1c]; decide +kernel) rfl rfl hin
          have g2 : ∀ q, q ∉ mv_l → A2.1 q = A.1 q := fun q hq => (hin.2.2.2.2.2.2 q hq).trans (g2 q hq)
          have hmc : mdl _ A2 (cu1 Sc k) _ sf sd := hmc
          refine r_istore hX d_Mo_index_218 (by decide) ?_
          refine q_aload hX 0 d_Mo_index_220 rfl (by first | rfl | assumption) ?_
          refine r_iload hX d_Mo_index_221 (by first | rfl | assumption) ?_
          refine r_sipush (v := 179) hX d_Mo_index_223 (by decide) ?_
          refine q_aload hX 0 d_Mo_index_226 rfl (by first | rfl | assumption) ?_
          refine r_iload hX d_Mo_index_227 (by first | rfl | assumption) ?_
          refine r_callV (as := [_]) hX d_Mo_index_229 lk_Mo_276 hM.1 rfl rfl (Nat.le_of_ble_eq_true rfl) (by decide) 0 0 (Nat.le_refl _) (Nat.le_refl _) (c_Mo_moment (G := G) hM hmc (b := j) (by omega) (by rw [e1]; exact h9)) (fun v w1 hq => ?_)
          obtain ⟨rfl, hw⟩ := hq
          rw [hw]
          refine r_callV (as := [_, _, _]) hX d_Mo_index_232 lk_Mo_195 hM.1 rfl rfl (Nat.le_of_ble_eq_true rfl) (by decide) 0 0 (Nat.le_refl _) (Nat.le_refl _) (c_Mo_insert (G := G) hM hmc.1 (show sn (cu1 Sc k) < 60 by omega) (E := sE (cu1 Sc k)) (mi := si (cu1 Sc k)) (fun x hx => (hmc.2.2.2.2.2.2.1 x hx).2.2) hmc.2.2.2.2.1 (mo := some (cup Sc k)) (fun j hj => by cases hj; omega) (so_tg 11) (fi_mom (sE (cu1 Sc k)) (si (cu1 Sc k)) (sn (cu1 Sc k)) j)) (fun v w hq => ?_)
          obtain ⟨rfl, A3, hM, hs2, hin⟩ := hq
          have hs := hs.tr hs2
          have hno2 := mpb_ins (o := some (cup Sc k)) (E1 := ad_E (cu1 Sc k) (some (cup Sc k)) 11 (so_tg 11) (fi_mom (sE (cu1 Sc k)) (si (cu1 Sc k)) (sn (cu1 Sc k)) j)) hmc.2.2.2.2.1 (show k < mk_p (sE (cu1 Sc k)) (sn (cu1 Sc k)) (some (cup Sc k)) by have : k < cup Sc k := mk_p_gt; omega) (mk_pn (fun j hj => by cases hj; omega)) (by omega) (by show ¬ (11 : Nat) = 9; decide) hno1
          have hmc := mdl.nw (I' := upd (upd I1 0 (nI (sn (cu1 Sc k)))) 0 (nI (sn (cu1 Sc k) + 1))) hmc (by omega) (show cup Sc k < sn (cu1 Sc k) by omega) (s := 11) (by decide) (Or.inr rfl) (by rw [s1]; decide +kernel) rfl rfl hin
          rw [upd2] at hmc hM
          have g2 : ∀ q, q ∉ mv_l → A3.1 q = A.1 q := fun q hq => (hin.2.2.2.2.2.2 q hq).trans (g2 q hq)
          have hmc : mdl _ A3 (cu2 Sc k j) _ sf sd := hmc
          refine r_istore hX d_Mo_index_235 (by decide) ?_
          refine q_aload hX 0 d_Mo_index_237 rfl (by first | rfl | assumption) ?_
          refine r_iload hX d_Mo_index_238 (by first | rfl | assumption) ?_
          refine r_sipush (v := 247) hX d_Mo_index_240 (by decide) ?_
          refine q_aload hX 0 d_Mo_index_243 rfl (by first | rfl | assumption) ?_
          refine r_getf hX d_Mo_index_244 fl_Mo_26 hM.1 rfl ?_
          refine r_iload hX d_Mo_index_247 (by first | rfl | assumption) ?_
          refine r_ialdm (c := 123) (x := (sE (cu2 Sc k j) j).2.2.2 5) hX d_Mo_index_249 hM rfl rfl (by omega) (((hmc.2.2.2.2.2.2.1 j (by omega)).2.1.2.2.2.2.1 (by rw [e2, e1, h9]; rfl)).1) ?_
          refine r_i2l hX d_Mo_index_250 ?_
          refine r_callV (as := [_, _, _]) hX d_Mo_index_251 lk_Mo_195 hM.1 rfl rfl (Nat.le_of_ble_eq_true rfl) (by decide) 0 0 (Nat.le_refl _) (Nat.le_refl _) (c_Mo_insert (G := G) hM hmc.1 (show sn (cu2 Sc k j) < 60 by omega) (E := sE (cu2 Sc k j)) (mi := si (cu2 Sc k j)) (fun x hx => (hmc.2.2.2.2.2.2.1 x hx).2.2) hmc.2.2.2.2.1 (mo := some (cup Sc k)) (fun j hj => by cases hj; omega) (so_tg 12) ((sE (cu2 Sc k j) j).2.2.2 5).toInt64) (fun v w hq => ?_)
          obtain ⟨rfl, A4, hM, hs2, hin⟩ := hq
          have hs := hs.tr hs2
          have hno3 := mpb_ins (o := some (cup Sc k)) (E1 := ad_E (cu2 Sc k j) (some (cup Sc k)) 12 (so_tg 12) ((sE (cu2 Sc k j) j).2.2.2 5).toInt64) hmc.2.2.2.2.1 (show k < mk_p (sE (cu2 Sc k j)) (sn (cu2 Sc k j)) (some (cup Sc k)) by have : k < cup Sc k := mk_p_gt; omega) (mk_pn (fun j hj => by cases hj; omega)) (by omega) (by show ¬ (12 : Nat) = 9; decide) hno2
          have hmc := mdl.nw (I' := upd (upd I1 0 (nI (sn (cu2 Sc k j)))) 0 (nI (sn (cu2 Sc k j) + 1))) hmc (by omega) (show cup Sc k < sn (cu2 Sc k j) by omega) (s := 12) (by decide) (Or.inr rfl) (by rw [s2]; decide +kernel) rfl rfl hin
          rw [upd2] at hmc hM
          have g2 : ∀ q, q ∉ mv_l → A4.1 q = A.1 q := fun q hq => (hin.2.2.2.2.2.2 q hq).trans (g2 q hq)
          have hmc : mdl _ A4 (cu3 Sc k j) _ sf sd := hmc
          refine r_istore hX d_Mo_index_254 (by decide) ?_
          refine q_aload hX 0 d_Mo_index_256 rfl (by first | rfl | assumption) ?_
          refine r_iload hX d_Mo_index_257 (by first | rfl | assumption) ?_
          refine r_sipush (v := 241) hX d_Mo_index_259 (by decide) ?_
          refine r_iload hX d_Mo_index_262 (by first | rfl | assumption) ?_
          refine r_i2l hX d_Mo_index_264 ?_
          rw [nI_l (by omega)]
          refine r_callV (as := [_, _, _]) hX d_Mo_index_265 lk_Mo_195 hM.1 rfl rfl (Nat.le_of_ble_eq_true rfl) (by decide) 0 0 (Nat.le_refl _) (Nat.le_refl _) (c_Mo_insert (G := G) hM hmc.1 (show sn (cu3 Sc k j) < 60 by omega) (E := sE (cu3 Sc k j)) (mi := si (cu3 Sc k j)) (fun x hx => (hmc.2.2.2.2.2.2.1 x hx).2.2) hmc.2.2.2.2.1 (mo := some (cup Sc k)) (fun j hj => by cases hj; omega) (so_tg 13) (lN bef)) (fun v w hq => ?_)
          obtain ⟨rfl, A5, hM, hs2, hin⟩ := hq
          have hs := hs.tr hs2
          have hno4 := mpb_ins (o := some (cup Sc k)) (E1 := ad_E (cu3 Sc k j) (some (cup Sc k)) 13 (so_tg 13) (lN bef)) hmc.2.2.2.2.1 (show k < mk_p (sE (cu3 Sc k j)) (sn (cu3 Sc k j)) (some (cup Sc k)) by have : k < cup Sc k := mk_p_gt; omega) (mk_pn (fun j hj => by cases hj; omega)) (by omega) (by show ¬ (13 : Nat) = 9; decide) hno3
          have hmc := mdl.nw (I' := upd (upd I1 0 (nI (sn (cu3 Sc k j)))) 0 (nI (sn (cu3 Sc k j) + 1))) hmc (by omega) (show cup Sc k < sn (cu3 Sc k j) by omega) (s := 13) (by decide) (Or.inr rfl) (by rw [s3]; decide +kernel) rfl rfl hin
          rw [upd2] at hmc hM
          have g2 : ∀ q, q ∉ mv_l → A5.1 q = A.1 q := fun q hq => (hin.2.2.2.2.2.2 q hq).trans (g2 q hq)
          have hmc : mdl _ A5 (cu4 Sc k j bef) _ sf sd := hmc
          refine r_istore hX d_Mo_index_268 (by decide) ?_
          refine r_iinc hX d_Mo_index_270 (by first | rfl | assumption) ?_
          refine r_iinc hX d_Mo_index_273 (by first | rfl | assumption) ?_
          refine r_goto hX 182 d_Mo_index_276 (by decide) ?_
          have hsame4 : ∀ i, i < ix_end S1 k → sE (cu4 Sc k j bef) i = sE S1 i := fun i hi => ((cu_lo (S := Sc) (k := k) (b := j) (bef := bef) (show i < cup Sc k by omega)).2.1).trans (hsame i hi)
          have hend4 : ix_end S1 k ≤ cup (cu4 Sc k j bef) k := end_ge (by omega) hmc.2.2.2.2.1 (by omega) (by omega) (fun t t1 t2 => by
            unfold el_ln
            rw [hsame4 t t2, hsame4 k (by omega)]
            exact hd1 t t1 t2)
          refine ih (j + 1) (bef + 1) (cu4 Sc k j bef) _ A5 _ _ _ (by omega) (by omega) (by omega) (by rw [← eR, show ix_end S1 k - j = (ix_end S1 k - (j + 1)) + 1 by omega, ix_go, if_pos h9, if_pos hj7]) hM hs hmc hsame4 hend4 hno4 (by omega) (by omega) (fun q hq => ?_) g2 l0 l1 l3 (by show some (Value.int (nI bef + Int32.ofInt 1)) = _; rw [show Int32.ofInt 1 = 1 from rfl, nI_1]) l5 (by show some (Value.int (nI j + Int32.ofInt 1)) = _; rw [show Int32.ofInt 1 = 1 from rfl, nI_1])
          show (if q = 0 then _ else I1 q) = _
          rw [if_neg hq]; exact g1 q hq
  have last : sn S - (tr_wg (sE S) (sa S k) 10 (tr_end (el_lev (sE S)) (sn S) k - (k + 1)) (k + 1) false) + 4 * (fi_ck (sE S) (tr_end (el_lev (sE S)) (sn S) k - (k + 1)) (k + 1)) ≤ 60 → ∀ (I1 : Nat → Int32) (A1 : Ev_A) (w1 : Ev_W) (ls : Ev_L), is_M w1 I1 v0 A1 → mo_sm w w1 → mdl I1 A1 (ft S (cu_Q S k (k + 1))) (fun t => D (ft_p S (cu_Q S k (k + 1)) t)) sf sd → (∀ q, q ≠ 0 → I1 q = I q) → (∀ q, q ∉ mv_l → A1.1 q = A.1 q) → ls.1 0 = some (.ref 117) → ls.1 1 = some (.int (nI k)) → ls.1 3 = some (.int (nI (fi_ck (sE S) (tr_end (el_lev (sE S)) (sn S) k - (k + 1)) (k + 1)))) → ev_W G M_Mo_index X 0 0 168 ls [] w1 := by
    intro h60 I1 A1 w ls hM hs hm1 g1 g2 l0 l1 l3
    have hm1 := mdl.tk (L1 := L1) hm1 hk (cu_tk hn hpo hpl hmk hk h1) hpo
    have hkk := tk_of (E := sE S) (a := sa S k) (s := 10) (i := k) hk hk (tk_Q_lo (Nat.le_refl k))
    rw [kc_k _ _ _ _ _ (by omega)] at hkk
    have hk1 : k < sn (tk_S S k 10 L1) := hkk.1
    have h1k : (sE (tk_S S k 10 L1) k).1 = 1 := by
      show ((if k < (tk_K (sE S) (sa S k) 10 (sn S) k).length then el_n (sE S (tk_pi (sE S) (sa S k) 10 (sn S) k k)) (nI k) else sE S (tk_pi (sE S) (sa S k) 10 (sn S) k k)) : Ev_E).1 = 1
      rw [if_pos hkk.1, hkk.2]; exact h1
    have hn1 := hm1.2.1
    have hsp := tr_end_spec hn hpo hk
    have hsp1 := tr_end_spec hn1 hm1.2.2.2.2.1 hk1
    have hte := tk_end (s := 10) (L1 := L1) hn hpo hm1.2.2.2.2.1 hk
    have hcle := tk_ck (s := 10) (L1 := L1) hk hsp.2.1 hsp.1
    rw [← hte] at hcle
    have hleft := tk_left (sE S) (sa S k) 10 hk
    have hsn1 : sn (tk_S S k 10 L1) = (tk_K (sE S) (sa S k) 10 (sn S) k).length := rfl
    refine r_iconst (v := 0) hX d_Mo_index_168 (by decide) ?_
    refine r_istore hX d_Mo_index_169 (by decide) ?_
    refine q_aload hX 0 d_Mo_index_171 rfl (by first | rfl | assumption) ?_
    refine r_getm (J := 0) (x := nI (sn (tk_S S k 10 L1))) hX d_Mo_index_172 fl_Mo_86 hM hm1.1 rfl ?_
    refine r_istore hX d_Mo_index_175 (by decide) ?_
    refine q_iload hX 1 d_Mo_index_177 rfl (by first | rfl | assumption) ?_
    refine r_iconst (v := 1) hX d_Mo_index_178 (by decide) ?_
    refine r_iadd hX d_Mo_index_179 ?_
    rw [nI_1]
    refine r_istore hX d_Mo_index_180 (by decide) ?_
    refine loop3 (tk_S S k 10 L1) rfl h60 hsp1.1 hsp1.2.1 h1k hsp1.2.2.1 (sn (tk_S S k 10 L1) - (k + 1)) (k + 1) 0 (tk_S S k 10 L1) I1 A1 _ _ _ (by omega) (by omega) (by omega) rfl hM hs hm1 (fun _ _ => rfl) (Nat.le_refl _) (fun i i1 i2 => ?_) ?_ (Nat.le_refl _) g1 g2 l0 l1 l3 rfl rfl rfl
    · rw [← Bool.not_eq_true, mp_b_iff hn1 hm1.2.2.2.2.1 hm1.2.2.2.2.2.1 hk1 h1k i2]
      rintro ⟨_, _, z⟩
      have z : i < ix_end (tk_S S k 10 L1) k := z
      omega
    · show sn (tk_S S k 10 L1) + 4 * fi_ck _ (tr_end _ _ k - (k + 1)) (k + 1) ≤ 60
      omega
  have back : ∀ (ls : Ev_L), ls.1 2 = some (.int (nI (sn S - cu_F S k (sn S)))) → ls.1 3 = some (.int (nI (kc (mk_9 S k) (sn S)))) → ls.1 0 = some (.ref 117) → ls.1 1 = some (.int (nI k)) → ev_W G M_Mo_index X 0 0 105 ls [] w := by
    intro ls l2 l3 l0 l1
    have hsp := tr_end_spec hn hpo hk
    have hleft := tk_left (sE S) (sa S k) 10 hk
    have hK : (tk_K (sE S) (sa S k) 10 (sn S) k).length = kc (cu_Q S k (k + 1)) (sn S) := by rw [tk_K_kl _ _ _ hk, kl_len]; exact kc_cg (cu_tk hn hpo hpl hmk hk h1) (Nat.le_refl _)
    have hF := cu_kc hn hpo hpl (k := k) (sn S - (k + 1)) (k + 1) (by omega)
    rw [cu_F0 hpo hk _ (Nat.le_refl _)] at hF
    rw [show sn S - cu_F S k (sn S) = sn S - (tr_wg (sE S) (sa S k) 10 (tr_end (el_lev (sE S)) (sn S) k - (k + 1)) (k + 1) false) by omega] at l2
    have hck : kc (mk_9 S k) (sn S) = (fi_ck (sE S) (tr_end (el_lev (sE S)) (sn S) k - (k + 1)) (k + 1)) := by
      have h5 := (kc_win (p := mk_9 S k) (q := ck_P (sE S)) (a := k + 1) (e := tr_end (el_lev (sE S)) (sn S) k) (n := sn S) (by omega) (fun x hx => ?_) (sn S) (Nat.le_refl _)).2.2 hsp.2.1
      · have h6 := ck_kc (sE S) (tr_end (el_lev (sE S)) (sn S) k - (k + 1)) (k + 1)
        rw [show k + 1 + (tr_end (el_lev (sE S)) (sn S) k - (k + 1)) = tr_end (el_lev (sE S)) (sn S) k by omega] at h6
        omega
      · rw [mk_9, Bool.and_eq_true, mp_b_iff hn hpo hpl hk h1 hx, decide_eq_true_eq, ck_P, decide_eq_true_eq]
        constructor
        · rintro ⟨⟨u1, u2, u3⟩, u4⟩; exact ⟨⟨u1, u4⟩, by omega, u3⟩
        · rintro ⟨⟨u1, u4⟩, u2, u3⟩; exact ⟨⟨u1, by omega, u3⟩, u4⟩
    rw [hck] at l3
    have hckl := fi_ck_le (sE S) (tr_end (el_lev (sE S)) (sn S) k - (k + 1)) (k + 1)
    refine q_iload hX 2 d_Mo_index_105 rfl (by first | rfl | assumption) ?_
    refine r_iconst (v := 4) hX d_Mo_index_106 (by decide) ?_
    refine q_iload hX 3 d_Mo_index_107 rfl (by first | rfl | assumption) ?_
    refine r_imul hX d_Mo_index_108 ?_
    refine r_iadd hX d_Mo_index_109 ?_
    rw [show (4 : Int32) * nI (fi_ck (sE S) (tr_end (el_lev (sE S)) (sn S) k - (k + 1)) (k + 1)) = nI (4 * (fi_ck (sE S) (tr_end (el_lev (sE S)) (sn S) k - (k + 1)) (k + 1))) from nI_ml 4 _, nI_add]
    refine r_bipush (v := 60) hX d_Mo_index_110 (by decide) ?_
    refine r_icmp_le hX 118 d_Mo_index_112 (by decide) (fun c112 => ?_) (fun c112 => ?_)
    · have h60 : sn S - (tr_wg (sE S) (sa S k) 10 (tr_end (el_lev (sE S)) (sn S) k - (k + 1)) (k + 1) false) + 4 * (fi_ck (sE S) (tr_end (el_lev (sE S)) (sn S) k - (k + 1)) (k + 1)) ≤ 60 := (nI_leI (b := 60) (by omega) (by decide)).mp c112
      have last := last h60
      have loop2 : ∀ (t b : Nat) (I1 : Nat → Int32) (A1 : Ev_A) (w1 : Ev_W) (ls : Ev_L), k + 1 + t = b → b ≤ sn S → is_M w1 I1 v0 A1 → mo_sm w w1 → mdl I1 A1 (ft S (cu_Q S k b)) (fun t => D (ft_p S (cu_Q S k b) t)) sf sd → (∀ q, q ≠ 0 → I1 q = I q) → (∀ q, q ∉ mv_l → A1.1 q = A.1 q) → ls.1 0 = some (.ref 117) → ls.1 1 = some (.int (nI k)) → ls.1 3 = some (.int (nI (fi_ck (sE S) (tr_end (el_lev (sE S)) (sn S) k - (k + 1)) (k + 1)))) → ls.1 4 = some (.int (nI (b - 1))) → ev_W G M_Mo_index X 0 0 126 ls [] w1 := by
        intro t
        induction t with
        | zero =>
          intro b I1 A1 w ls e1 e2 hM hs hm1 g1 g2 l0 l1 l3 l4
          refine r_iload hX d_Mo_index_126 (by first | rfl | assumption) ?_
          refine q_iload hX 1 d_Mo_index_128 rfl (by first | rfl | assumption) ?_
          refine r_icmp_le hX 168 d_Mo_index_129 (by decide) (fun _ => ?_) (fun c129 => absurd (nI_le (by omega) (by omega)) c129)
          exact last I1 A1 _ _ hM hs (by rw [show b = k + 1 by omega] at hm1; exact hm1) g1 g2 l0 l1 l3
        | succ t ih =>
          intro b I1 A1 w ls e1 e2 hM hs hm1 g1 g2 l0 l1 l3 l4
          have hbq : ∀ x, x < b → cu_Q S k b x = true := fun x hx => cu_Q_le hpo hx (by omega)
          have hkb : ∀ x, x ≤ b → kc (cu_Q S k b) x = x := fun x hx => kc_lo hbq hx
          have hlt : b - 1 < sn (ft S (cu_Q S k b)) := by
            have := kc_le (cu_Q S k b) e2
            rw [hkb b (Nat.le_refl _)] at this
            show b - 1 < kc (cu_Q S k b) (sn S)
            omega
          have hft : ft_p S (cu_Q S k b) (b - 1) = b - 1 := by
            have := kl_get (cu_Q S k b) (n := sn S) (i := b - 1) (by omega) (hbq _ (by omega))
            rw [hkb _ (by omega)] at this; exact this
          have htg : A1.1 118 (b - 1) = 187 ↔ (sE S (b - 1)).1 = 10 := by
            have h5 := hm1.tg hlt (s := 10) (by decide)
            rw [tg_10] at h5
            rw [h5]
            show (sE S (ft_p S (cu_Q S k b) (b - 1))).1 = 10 ↔ _
            rw [hft]
          have hms : A1.1 119 (b - 1) = nI k ↔ si S (b - 1) = some k := by
            rw [hm1.ms hlt (j := k) (by omega)]
            show (si S (ft_p S (cu_Q S k b) (b - 1))).map (kc (cu_Q S k b)) = some k ↔ _
            rw [hft]
            cases hq : si S (b - 1) with
            | none => exact ⟨fun z => (by cases z), fun z => (by cases z)⟩
            | some q =>
              have := ((hpo (b - 1) (by omega)).2.2.2 q hq).1
              show some (kc (cu_Q S k b) q) = some k ↔ _
              rw [hkb q (by omega)]
          refine r_iload hX d_Mo_index_126 (by first | rfl | assumption) ?_
          refine q_iload hX 1 d_Mo_index_128 rfl (by first | rfl | assumption) ?_
          refine r_icmp_le hX 168 d_Mo_index_129 (by decide) (fun c129 => absurd ((nI_leI (by omega) (by omega)).mp c129) (by omega)) (fun _ => ?_)
          refine q_aload hX 0 d_Mo_index_132 rfl (by first | rfl | assumption) ?_
          refine r_getf hX d_Mo_index_133 fl_Mo_7 hM.1 rfl ?_
          refine r_iload hX d_Mo_index_136 (by first | rfl | assumption) ?_
          refine r_ialdm (c := 118) (x := _) hX d_Mo_index_138 hM rfl rfl (by omega) rfl ?_
          refine r_sipush (v := 187) hX d_Mo_index_139 (by decide) ?_
          refine r_icmp_ne hX 162 d_Mo_index_142 (by decide) (fun c142 => ?_) (fun c142 => ?_)
          · refine r_iinc hX d_Mo_index_162 (by first | rfl | assumption) ?_
            refine r_goto hX 126 d_Mo_index_165 (by decide) ?_
            have hr : ¬ cu_R S k (b - 1) (b - 1) := fun z => c142 (htg.mpr z.1)
            have hQe : cu_Q S k (b - 1) = cu_Q S k b := funext (fun x => by rw [cu_Q_s hr x, show b - 1 + 1 = b by omega])
            exact ih (b - 1) I1 A1 _ _ (by omega) (by omega) hM hs (by rw [hQe]; exact hm1) g1 g2 l0 l1 l3 (by show some (Value.int (nI (b - 1) + Int32.ofInt (-1))) = _; rw [nI_m1 (by omega)])
          · refine q_aload hX 0 d_Mo_index_145 rfl (by first | rfl | assumption) ?_
            refine r_getf hX d_Mo_index_146 fl_Mo_13 hM.1 rfl ?_
            refine r_iload hX d_Mo_index_149 (by first | rfl | assumption) ?_
            refine r_ialdm (c := 119) (x := _) hX d_Mo_index_151 hM rfl rfl (by omega) rfl ?_
            refine q_iload hX 1 d_Mo_index_152 rfl (by first | rfl | assumption) ?_
            refine r_icmp_ne hX 162 d_Mo_index_153 (by decide) (fun c153 => ?_) (fun c153 => ?_)
            · refine r_iinc hX d_Mo_index_162 (by first | rfl | assumption) ?_
              refine r_goto hX 126 d_Mo_index_165 (by decide) ?_
              have hr : ¬ cu_R S k (b - 1) (b - 1) := fun z => c153 (hms.mpr z.2.1)
              have hQe : cu_Q S k (b - 1) = cu_Q S k b := funext (fun x => by rw [cu_Q_s hr x, show b - 1 + 1 = b by omega])
              exact ih (b - 1) I1 A1 _ _ (by omega) (by omega) hM hs (by rw [hQe]; exact hm1) g1 g2 l0 l1 l3 (by show some (Value.int (nI (b - 1) + Int32.ofInt (-1))) = _; rw [nI_m1 (by omega)])
            · refine q_aload hX 0 d_Mo_index_156 rfl (by first | rfl | assumption) ?_
              refine r_iload hX d_Mo_index_157 (by first | rfl | assumption) ?_
              refine r_callV (as := [_]) hX d_Mo_index_159 lk_Mo_273 hM.1 rfl rfl (Nat.le_of_ble_eq_true rfl) (by decide) 0 0 (Nat.le_refl _) (Nat.le_refl _) (c_Mo_remove (G := G) hM hm1.1 hm1.2.1 (E := sE (ft S (cu_Q S k b))) (mi := si (ft S (cu_Q S k b))) (fun x hx => (hm1.2.2.2.2.2.2.1 x hx).2.2) hm1.2.2.2.2.1 (c := b - 1) hlt) (fun v w hq => ?_)
              obtain ⟨rfl, A2, hM, hs2, hrm⟩ := hq
              have hs := hs.tr hs2
              refine r_iinc hX d_Mo_index_162 (by first | rfl | assumption) ?_
              refine r_goto hX 126 d_Mo_index_165 (by decide) ?_
              have hr : cu_R S k (b - 1) (b - 1) := ⟨htg.mp c142, hms.mp c153, Nat.le_refl _⟩
              have hce := (cu_end hn hpo hpl (show b - 1 < sn S by omega) hr).2
              have hb1 : b - 1 + 1 = b := by omega
              rw [hb1] at hce
              have hce' : tr_end (el_lev (sE (ft S (cu_Q S k b)))) (sn (ft S (cu_Q S k b))) (b - 1) = tr_end (el_lev (sE S)) (sn S) (b - 1) := hce
              rw [hce'] at hM hrm
              obtain ⟨b1, b2, b3, b4⟩ := tr_end_spec hn hpo (show b - 1 < sn S by omega)
              have hee : b - 1 + (tr_end (el_lev (sE S)) (sn S) (b - 1) - (b - 1)) = tr_end (el_lev (sE S)) (sn S) (b - 1) := by omega
              have hF1 := cu_kc hn hpo hpl (k := k) (sn S - b) b (by omega)
              have hF2 := cu_kc hn hpo hpl (k := k) (sn S - (b - 1)) (b - 1) (by omega)
              have hF3 : cu_F S k b = cu_F S k (b - 1) + (tr_end (el_lev (sE S)) (sn S) (b - 1) - (b - 1)) := by
                have h5 : cu_F S k (b - 1 + 1) = cu_F S k (b - 1) + (if cu_R S k 0 (b - 1) then tr_end (el_lev (sE S)) (sn S) (b - 1) - (b - 1) else 0) := rfl
                rw [hb1, if_pos ⟨hr.1, hr.2.1, Nat.zero_le _⟩] at h5
                exact h5
              refine ih (b - 1) _ A2 _ _ (by omega) (by omega) hM hs (mdl.rm hm1 hpo hpl (cu_cl hpo hpl) (fun x hx => ?_) (fun x hx => ?_) (by omega) hrm ?_ ?_) (fun q hq => ?_) (fun q hq => ?_) l0 l1 l3 (by show some (Value.int (nI (b - 1) + Int32.ofInt (-1))) = _; rw [nI_m1 (by omega)])
              · have := cu_Q_lo hn hpo hpl (show b - 1 < sn S by omega) hr (x := x) (by omega)
                rw [hb1] at this; exact this
              · have := cu_Q_r hn hpo hpl (show b - 1 < sn S by omega) hr x hx
                rw [hb1] at this
                rw [hee]; exact this
              · show nI (kc (cu_Q S k b) (sn S) - _) = nI (kc (cu_Q S k (b - 1)) (sn S))
                congr 1
                omega
              · rfl
              · show (if q = 0 then _ else I1 q) = _
                rw [if_neg hq]; exact g1 q hq
              · rw [hrm.2.2 q hq]; exact g2 q hq
      refine q_aload hX 0 d_Mo_index_118 rfl (by first | rfl | assumption) ?_
      refine r_getm (J := 0) (x := nI (sn S)) hX d_Mo_index_119 fl_Mo_86 hM hm.1 rfl ?_
      refine r_iconst (v := 1) hX d_Mo_index_122 (by decide) ?_
      refine r_isub hX d_Mo_index_123 ?_
      rw [nI_1m (by omega)]
      refine r_istore hX d_Mo_index_124 (by decide) ?_
      exact loop2 (sn S - (k + 1)) (sn S) I A w _ (by omega) (Nat.le_refl _) hM mo_sm.rf (mdl.ft0 hm (fun x hx => cu_Q_le hpo hx hx)) (fun _ _ => rfl) (fun _ _ => rfl) l0 l1 l3 rfl
    · refine r_bipush (v := -6) hX d_Mo_index_115 (by decide) ?_
      refine r_iret hX hR d_Mo_index_117 rfl (by first | rfl | assumption) ?_
      exact Or.inl ⟨Nat.lt_of_not_le (fun z => c112 (nI_le (b := 60) z (by decide))), rfl, rfl⟩
  have loop1 : ∀ (t c : Nat) (ls : Ev_L), c + t = sn S → ls.1 0 = some (.ref 117) → ls.1 1 = some (.int (nI k)) → ls.1 2 = some (.int (nI (sn S - cu_F S k c))) → ls.1 3 = some (.int (nI (kc (mk_9 S k) c))) → ls.1 4 = some (.int (nI c)) → ev_W G M_Mo_index X 0 0 22 ls [] w := by
    intro t
    induction t with
    | zero =>
      intro c ls e1 l0 l1 l2 l3 l4
      refine r_iload hX d_Mo_index_22 (by first | rfl | assumption) ?_
      refine q_aload hX 0 d_Mo_index_24 rfl (by first | rfl | assumption) ?_
      refine r_getm (J := 0) (x := nI (sn S)) hX d_Mo_index_25 fl_Mo_86 hM hm.1 rfl ?_
      refine r_icmp_ge hX 105 d_Mo_index_28 (by decide) (fun _ => ?_) (fun c28 => absurd (nI_le (by omega) (by omega)) c28)
      exact back ls (by rw [show c = sn S by omega] at l2; exact l2) (by rw [show c = sn S by omega] at l3; exact l3) l0 l1
    | succ t ih =>
      intro c ls e1 l0 l1 l2 l3 l4
      have hcn : c < sn S := by omega
      have htg := hm.tg hcn (s := 10) (by decide)
      rw [tg_10] at htg
      have hms := hm.ms hcn (j := k) (by omega)
      obtain ⟨b1, b2, b3, b4⟩ := tr_end_spec hn hpo hcn
      have hF1 := cu_kc hn hpo hpl (k := k) (sn S - (c + 1)) (c + 1) (by omega)
      have hF2 := kc_self (cu_Q S k (c + 1)) (sn S)
      have hF0 : kc (cu_Q S k 0) (sn S) + cu_F S k (sn S) = sn S + 0 := cu_kc hn hpo hpl (k := k) (sn S) 0 (by omega)
      have q7 : mp_b (sE S) (si S) k c = true → A.1 125 c = (sE S c).2.2.2 7 := fun z => by
        have h9 := ((mp_b_iff hn hpo hpl hk h1 hcn).mp z).1
        exact ((hrow c hcn).2.1.2.2.2.2.1 (by rw [h9]; rfl)).2.2.1
      have mid : ∀ (ls : Ev_L), ls.1 2 = some (.int (nI (sn S - cu_F S k (c + 1)))) → ls.1 3 = some (.int (nI (kc (mk_9 S k) c))) → ls.1 4 = some (.int (nI c)) → ls.1 0 = some (.ref 117) → ls.1 1 = some (.int (nI k)) → ev_W G M_Mo_index X 0 0 71 ls [] w := by
        intro ls l2 l3 l4 l0 l1
        refine q_aload hX 0 d_Mo_index_71 rfl (by first | rfl | assumption) ?_
        refine r_iload hX d_Mo_index_72 (by first | rfl | assumption) ?_
        refine q_iload hX 1 d_Mo_index_74 rfl (by first | rfl | assumption) ?_
        refine r_callV (as := [_, _]) hX d_Mo_index_75 lk_Mo_270 hM.1 rfl rfl (Nat.le_of_ble_eq_true rfl) (by decide) 0 0 (Nat.le_refl _) (Nat.le_refl _) (c_Mo_isBlockOf (G := G) hM hm (i := c) (k := k) (by omega) (by omega)) (fun v w1 hq => ?_)
        obtain ⟨rfl, hw⟩ := hq
        rw [hw]
        refine r_if_eq hX 97 d_Mo_index_78 (by decide) (fun c78 => ?_) (fun c78 => ?_)
        · refine q_iload hX 3 d_Mo_index_97 rfl (by first | rfl | assumption) ?_
          refine q_istore hX 3 d_Mo_index_98 rfl (by decide) ?_
          refine r_iinc hX d_Mo_index_99 (by first | rfl | assumption) ?_
          refine r_goto hX 22 d_Mo_index_102 (by decide) ?_
          have hr : ¬ mk_9 S k c = true := fun z => by rw [mk_9, Bool.and_eq_true, b_i_0 c78] at z; cases z.1
          exact ih (c + 1) _ (by omega) l0 l1 l2 (by show some (Value.int _) = _; rw [kc, if_neg hr, Nat.add_zero]) (by show some (Value.int (nI c + Int32.ofInt 1)) = _; rw [show Int32.ofInt 1 = 1 from rfl, nI_1])
        · refine q_aload hX 0 d_Mo_index_81 rfl (by first | rfl | assumption) ?_
          refine r_getf hX d_Mo_index_82 fl_Mo_32 hM.1 rfl ?_
          refine r_iload hX d_Mo_index_85 (by first | rfl | assumption) ?_
          refine r_zaldm (c := 125) (x := (sE S c).2.2.2 7) hX d_Mo_index_87 hM rfl rfl (by omega) (q7 (b_i_1 c78)) ?_
          refine r_if_eq hX 97 d_Mo_index_88 (by decide) (fun c88 => ?_) (fun c88 => ?_)
          · refine q_iload hX 3 d_Mo_index_97 rfl (by first | rfl | assumption) ?_
            refine q_istore hX 3 d_Mo_index_98 rfl (by decide) ?_
            refine r_iinc hX d_Mo_index_99 (by first | rfl | assumption) ?_
            refine r_goto hX 22 d_Mo_index_102 (by decide) ?_
            have hr : ¬ mk_9 S k c = true := fun z => by rw [mk_9, Bool.and_eq_true] at z; exact of_decide_eq_true z.2 c88
            exact ih (c + 1) _ (by omega) l0 l1 l2 (by show some (Value.int _) = _; rw [kc, if_neg hr, Nat.add_zero]) (by show some (Value.int (nI c + Int32.ofInt 1)) = _; rw [show Int32.ofInt 1 = 1 from rfl, nI_1])
          · refine q_iload hX 3 d_Mo_index_91 rfl (by first | rfl | assumption) ?_
            refine r_iconst (v := 1) hX d_Mo_index_92 (by decide) ?_
            refine r_iadd hX d_Mo_index_93 ?_
            refine r_goto hX 98 d_Mo_index_94 (by decide) ?_
            refine q_istore hX 3 d_Mo_index_98 rfl (by decide) ?_
            refine r_iinc hX d_Mo_index_99 (by first | rfl | assumption) ?_
            refine r_goto hX 22 d_Mo_index_102 (by decide) ?_
            have hr : mk_9 S k c = true := by rw [mk_9, Bool.and_eq_true]; exact ⟨b_i_1 c78, decide_eq_true c88⟩
            exact ih (c + 1) _ (by omega) l0 l1 l2 (by show some (Value.int (nI _ + 1)) = _; rw [kc, if_pos hr, nI_1]) (by show some (Value.int (nI c + Int32.ofInt 1)) = _; rw [show Int32.ofInt 1 = 1 from rfl, nI_1])
      refine r_iload hX d_Mo_index_22 (by first | rfl | assumption) ?_
      refine q_aload hX 0 d_Mo_index_24 rfl (by first | rfl | assumption) ?_
      refine r_getm (J := 0) (x := nI (sn S)) hX d_Mo_index_25 fl_Mo_86 hM hm.1 rfl ?_
      refine r_icmp_ge hX 105 d_Mo_index_28 (by decide) (fun c28 => absurd c28 (nI_ge (by omega) (by omega))) (fun _ => ?_)
      refine q_aload hX 0 d_Mo_index_31 rfl (by first | rfl | assumption) ?_
      refine r_getf hX d_Mo_index_32 fl_Mo_7 hM.1 rfl ?_
      refine r_iload hX d_Mo_index_35 (by first | rfl | assumption) ?_
      refine r_ialdm (c := 118) (x := _) hX d_Mo_index_37 hM rfl rfl (by omega) rfl ?_
      refine r_sipush (v := 187) hX d_Mo_index_38 (by decide) ?_
      refine r_icmp_ne hX 69 d_Mo_index_41 (by decide) (fun c41 => ?_) (fun c41 => ?_)
      · refine q_iload hX 2 d_Mo_index_69 rfl (by first | rfl | assumption) ?_
        refine q_istore hX 2 d_Mo_index_70 rfl (by decide) ?_
        have hr : ¬ cu_R S k 0 c := fun z => c41 (htg.mpr z.1)
        exact mid _ (by show some (Value.int _) = _; rw [cu_F, if_neg hr, Nat.add_zero]) l3 l4 l0 l1
      · refine q_aload hX 0 d_Mo_index_44 rfl (by first | rfl | assumption) ?_
        refine r_getf hX d_Mo_index_45 fl_Mo_13 hM.1 rfl ?_
        refine r_iload hX d_Mo_index_48 (by first | rfl | assumption) ?_
        refine r_ialdm (c := 119) (x := _) hX d_Mo_index_50 hM rfl rfl (by omega) rfl ?_
        refine q_iload hX 1 d_Mo_index_51 rfl (by first | rfl | assumption) ?_
        refine r_icmp_ne hX 69 d_Mo_index_52 (by decide) (fun c52 => ?_) (fun c52 => ?_)
        · refine q_iload hX 2 d_Mo_index_69 rfl (by first | rfl | assumption) ?_
          refine q_istore hX 2 d_Mo_index_70 rfl (by decide) ?_
          have hr : ¬ cu_R S k 0 c := fun z => c52 (hms.mpr z.2.1)
          exact mid _ (by show some (Value.int _) = _; rw [cu_F, if_neg hr, Nat.add_zero]) l3 l4 l0 l1
        · refine q_iload hX 2 d_Mo_index_55 rfl (by first | rfl | assumption) ?_
          refine q_aload hX 0 d_Mo_index_56 rfl (by first | rfl | assumption) ?_
          refine r_iload hX d_Mo_index_57 (by first | rfl | assumption) ?_
          refine r_callV (as := [_]) hX d_Mo_index_59 lk_Mo_97 hM.1 rfl rfl (Nat.le_of_ble_eq_true rfl) (by decide) 0 0 (Nat.le_refl _) (Nat.le_refl _) (c_Mo_behind (G := G) hM hm.1 hn hmas hpo (mo := some c) (fun j hj => by cases hj; omega)) (fun v w1 hq => ?_)
          obtain ⟨rfl, hw⟩ := hq
          rw [hw, show mk_p (sE S) (sn S) (some c) = tr_end (el_lev (sE S)) (sn S) c from rfl]
          refine r_iload hX d_Mo_index_62 (by first | rfl | assumption) ?_
          refine r_isub hX d_Mo_index_64 ?_
          try rw [nI_sb (a := tr_end (el_lev (sE S)) (sn S) c) (b := c) (by omega), nI_sb (by omega)]
          refine r_isub hX d_Mo_index_65 ?_
          try rw [nI_sb (by omega)]
          refine r_goto hX 70 d_Mo_index_66 (by decide) ?_
          refine q_istore hX 2 d_Mo_index_70 rfl (by decide) ?_
          have hr : cu_R S k 0 c := ⟨htg.mp c41, hms.mp c52, Nat.zero_le _⟩
          have hF3 : cu_F S k (c + 1) = cu_F S k c + (tr_end (el_lev (sE S)) (sn S) c - c) := by rw [cu_F, if_pos hr]
          exact mid _ (by show some (Value.int _) = _; rw [hF3, nI_sb (by omega), Nat.sub_sub]) l3 l4 l0 l1
  refine q_aload hX 0 d_Mo_index_0 rfl (by first | rfl | assumption) ?_
  refine q_iload hX 1 d_Mo_index_1 rfl (by first | rfl | assumption) ?_
  refine r_ldc hX d_Mo_index_2 m_682 ?_
  refine r_callV (as := [_, _]) hX d_Mo_index_4 lk_Mo_208 hM.1 rfl rfl (Nat.le_of_ble_eq_true rfl) (by decide) 0 0 (Nat.le_refl _) (Nat.le_refl _) (c_Mo_is (G := G) hM hm.1 hn _ 408125543) (fun v w1 hq => ?_)
  obtain ⟨rfl, hw⟩ := hq
  rw [hw, seg_is hm, hsg]
  rw [show b_i (some k : Option Nat).isSome = 1 from rfl]
  refine r_if_ne hX 12 d_Mo_index_7 (by decide) (fun _ => ?_) (fun c7 => absurd c7 (by decide))
  refine q_aload hX 0 d_Mo_index_12 rfl (by first | rfl | assumption) ?_
  refine r_getm (J := 0) (x := nI (sn S)) hX d_Mo_index_13 fl_Mo_86 hM hm.1 rfl ?_
  refine q_istore hX 2 d_Mo_index_16 rfl (by decide) ?_
  refine r_iconst (v := 0) hX d_Mo_index_17 (by decide) ?_
  refine q_istore hX 3 d_Mo_index_18 rfl (by decide) ?_
  refine r_iconst (v := 0) hX d_Mo_index_19 (by decide) ?_
  refine r_istore hX d_Mo_index_20 (by decide) ?_
  exact loop1 (sn S) 0 _ (by omega) rfl rfl (by show some (Value.int _) = _; rw [cu_F, Nat.sub_zero]) rfl rfl
theorem c_Mo_indexX {G : Ev_G} {w : Ev_W} {I : Nat → Int32} {v0 : Int64} {A : Ev_A} (hM : is_M w I v0 A) {S : Ev_S} {D : Nat → Ev_D} {sf : Nat → Int32} {sd : Nat} (hm : mdl I A S D sf sd) (k : Int32) (hsg : ef_seg (sE S) (sn S) k = none) : ev_Met G M_Mo_index 3 0 0 [.ref 117, .int k] w (fun v w' => v = some (.int (-1)) ∧ w' = w) := by
  have hn := hm.2.1
  refine ev_Met.of md_Mo_index (Nat.le_of_ble_eq_true rfl) (fun X hX hR => ?_)
  refine q_aload hX 0 d_Mo_index_0 rfl (by first | rfl | assumption) ?_
  refine q_iload hX 1 d_Mo_index_1 rfl (by first | rfl | assumption) ?_
  refine r_ldc hX d_Mo_index_2 m_682 ?_
  refine r_callV (as := [_, _]) hX d_Mo_index_4 lk_Mo_208 hM.1 rfl rfl (Nat.le_of_ble_eq_true rfl) (by decide) 0 0 (Nat.le_refl _) (Nat.le_refl _) (c_Mo_is (G := G) hM hm.1 hn _ 408125543) (fun v w1 hq => ?_)
  obtain ⟨rfl, hw⟩ := hq
  rw [hw, seg_is hm, hsg]
  rw [show b_i (none : Option Nat).isSome = 0 from rfl]
  refine r_if_ne hX 12 d_Mo_index_7 (by decide) (fun c7 => absurd rfl c7) (fun _ => ?_)
  refine r_iconst (v := -1) hX d_Mo_index_10 (by decide) ?_
  refine r_iret hX hR d_Mo_index_11 rfl (by first | rfl | assumption) ?_
  exact ⟨rfl, rfl⟩
