/-! ===== the reference: putBlock ===== -/
theorem ps_snocL (la : Int32) (sz : Nat → Nat) : ∀ k i, ps_L la sz (k + 1) i = ps_L la sz k i ++ ps_1 la sz (i + k)
  | 0, i => by rw [ps_L, ps_L, ps_L, Nat.add_zero]; simp
  | k + 1, i => by
    rw [ps_L, ps_snocL la sz k (i + 1), ps_L, List.append_assoc, show i + 1 + k = i + (k + 1) by omega]
theorem st_snocL (sf : Nat → Int32) (sd : Nat) (fr : Int32) : ∀ k i, st_L sf sd fr (k + 1) i = st_L sf sd fr k i ++ [tr_sa sf sd (fr + nI (i + k))]
  | 0, i => by rw [st_L, st_L, st_L, Nat.add_zero]; simp
  | k + 1, i => by
    rw [st_L, st_snocL sf sd fr k (i + 1), st_L, show i + 1 + k = i + (k + 1) by omega]; simp
theorem fl_b : ∀ la, la < 4 → ((0 : Int32) + 2 * nI la) = ((0 : Int32) + 2 * nI la) &&& 255 ∧ ((128 : Int32) + 2 * nI la) = ((128 : Int32) + 2 * nI la) &&& 255 := by decide +kernel
theorem l_su (a b : Int64) : a + b - 1 = a + (b - 1) := by rw [Int64.sub_eq_add_neg, Int64.sub_eq_add_neg, Int64.add_assoc]
theorem ps_mono (la : Int32) (sz : Nat → Nat) : ∀ {a b : Nat}, a ≤ b → (ps_L la sz a 0).length ≤ (ps_L la sz b 0).length
  | a, 0, h => by rw [show a = 0 by omega]; exact Nat.le_refl _
  | a, b + 1, h => by
    by_cases z : a = b + 1
    · rw [z]; exact Nat.le_refl _
    · have := ps_mono la sz (show a ≤ b by omega); rw [ps_snoc]; omega
set_option maxHeartbeats 2000000 in
theorem c_Mo_putBlock {G : Ev_G} {w : Ev_W} {I : Nat → Int32} {v0 : Int64} {A : Ev_A} (hM : is_M w I v0 A) {S : Ev_S} {D : Nat → Ev_D} {sf : Nat → Int32} {sd : Nat} (hm : mdl I A S D sf sd) {k : Nat} (hk : k < sn S) (hf : so_fm (sE S k).1 = 3) {c : Nat} (hou : I 5 = nI c) (hc7 : c + (((bh_L (sE S k)) ++ ps_L ((sE S k).2.2.2 8) (D k).2.2.1 ((D k).1 - 1) 0) ++ st_L sf sd ((sE S k).2.2.2 3) (D k).2.1 0).length ≤ 700) (hby : ∀ j, j < sd → sf j &&& 255 = sf j) : ev_Met G M_Mo_putBlock 3 0 0 [.ref 117, .int (nI k)] w (fun v w' => v = none ∧ wo w I v0 A c (((bh_L (sE S k)) ++ ps_L ((sE S k).2.2.2 8) (D k).2.2.1 ((D k).1 - 1) 0) ++ st_L sf sd ((sE S k).2.2.2 3) (D k).2.1 0) w') := by
  refine ev_Met.of md_Mo_putBlock (Nat.le_of_ble_eq_true rfl) (fun X hX hR => ?_)
  obtain ⟨hc, hn, hu, hsd, hpo, hpl, hrow, hhp⟩ := id hm
  obtain ⟨hD, hQ, hMa⟩ := hrow k hk
  obtain ⟨d1, d2, d3, d4, d5, d6, d7, d8⟩ := hD
  obtain ⟨q1, q2, q3, q4, q5, q6⟩ := hQ
  obtain ⟨e1, e2, e3, e4, e5, e6, e7, e8, e9, e10, e11⟩ := d5 hf
  obtain ⟨p1, p2, p3, h26, p5⟩ := q5 hf
  have q3 := q3 (Or.inr (Or.inl hf))
  have ham := d3 (Or.inr (Or.inl hf))
  have h7 := d7 (Or.inl hf)
  have hsz : ∀ i, i < (D k).1 → A.1 127 (8 * k + i) = nI ((D k).2.2.1 i) ∧ (D k).2.2.1 i ≤ 640 := fun i hi => ⟨(p5 i hi).1, (e3 i hi).2⟩
  have hbl := bh_len2 e5 e6
  have hb45 : 4 ≤ (bh_L (sE S k)).length := by rw [hbl]; split <;> omega
  rw [List.length_append, List.length_append, st_len] at hc7
  have hTOT : ((bh_L (sE S k)) ++ ps_L ((sE S k).2.2.2 8) (D k).2.2.1 ((D k).1 - 1) 0).length = (bh_L (sE S k)).length + (ps_L ((sE S k).2.2.2 8) (D k).2.2.1 ((D k).1 - 1) 0).length := List.length_append
  have hfl : ((0 : Int32) + 2 * ((sE S k).2.2.2 8)) = ((0 : Int32) + 2 * ((sE S k).2.2.2 8)) &&& 255 ∧ ((128 : Int32) + 2 * ((sE S k).2.2.2 8)) = ((128 : Int32) + 2 * ((sE S k).2.2.2 8)) &&& 255 := by
    rcases la_c e10 e11 with z | z | z | z <;> rw [z] <;> decide
  have hsv : wr_sv ((sE S k).2.2.2 5).toInt64 7 1 = 1 := by
    obtain ⟨t, ht, e⟩ := vp_in_of (x := (sE S k).2.2.2 5) (n := 127) (vp_in_iff.mpr ⟨by omega, by omega⟩) (by decide)
    rw [e, nI_l (by omega), wr_sv, if_pos (by rw [pk_lT (by omega), show (ef_allOnes (nI 1)).toInt = 127 from by decide]; omega)]
  have hps0 : ps_L ((sE S k).2.2.2 8) (D k).2.2.1 0 0 = [] := rfl
  have hst0 : st_L sf sd ((sE S k).2.2.2 3) (sm_N (D k).2.2.1 0) 0 = [] := rfl
  obtain ⟨w0, hw0⟩ : ∃ w0, w0 = w := ⟨_, rfl⟩
  have hs : mo_sm w0 w := by rw [hw0]; exact mo_sm.rf
  clear hrow hpo hpl d1 d2 d4 d6 d7 d8 d5 d3 q1 q2 q4 q5 q6 e7 e8 e9 hc hu hMa hm
  have loop2 : ∀ (t i : Nat) (A1 : Ev_A) (w1 : Ev_W) (ls : Ev_L), i + t = (D k).1 → is_M w1 (upd I 5 (nI (c + (((bh_L (sE S k)) ++ ps_L ((sE S k).2.2.2 8) (D k).2.2.1 ((D k).1 - 1) 0) ++ st_L sf sd ((sE S k).2.2.2 3) (sm_N (D k).2.2.1 i) 0).length))) v0 A1 → mo_sm w0 w1 → ou A A1 c (((bh_L (sE S k)) ++ ps_L ((sE S k).2.2.2 8) (D k).2.2.1 ((D k).1 - 1) 0) ++ st_L sf sd ((sE S k).2.2.2 3) (sm_N (D k).2.2.1 i) 0) → ls.1 0 = some (.ref 117) → ls.1 1 = some (.int (nI k)) → ls.1 2 = some (.int (nI (D k).1)) → ls.1 3 = some (.int (nI i)) → ev_W G M_Mo_putBlock X 0 0 249 ls [] w1 := by
    intro t
    induction t with
    | zero =>
      intro i A1 w ls e0 hM hs g l0 l1 l2 l3
      have e0 : i = (D k).1 := e0
      subst e0
      refine q_iload hX 3 d_Mo_putBlock_249 rfl (by first | rfl | assumption) ?_
      refine q_iload hX 2 d_Mo_putBlock_250 rfl (by first | rfl | assumption) ?_
      refine r_icmp_ge hX 308 d_Mo_putBlock_251 (by decide) (fun _ => ?_) (fun c251 => absurd (nI_le (Nat.le_refl _) (by omega)) c251)
      refine r_vret hX hR d_Mo_putBlock_308 rfl ?_
      rw [← e4] at hM g
      exact ⟨rfl, A1, hM, hw0 ▸ hs, g⟩
    | succ t ih =>
      intro i A1 w ls e0 hM hs g l0 l1 l2 l3
      have hi : i < (D k).1 := by omega
      have hsi := (hsz i hi).2
      have loopb : ∀ (t y : Nat) (A1 : Ev_A) (w1 : Ev_W) (ls : Ev_L), y + t = (D k).2.2.1 i → is_M w1 (upd I 5 (nI (c + (((bh_L (sE S k)) ++ ps_L ((sE S k).2.2.2 8) (D k).2.2.1 ((D k).1 - 1) 0) ++ st_L sf sd ((sE S k).2.2.2 3) (sm_N (D k).2.2.1 i + y) 0).length))) v0 A1 → mo_sm w0 w1 → ou A A1 c (((bh_L (sE S k)) ++ ps_L ((sE S k).2.2.2 8) (D k).2.2.1 ((D k).1 - 1) 0) ++ st_L sf sd ((sE S k).2.2.2 3) (sm_N (D k).2.2.1 i + y) 0) → ls.1 0 = some (.ref 117) → ls.1 1 = some (.int (nI k)) → ls.1 2 = some (.int (nI (D k).1)) → ls.1 3 = some (.int (nI i)) → ls.1 4 = some (.int (nI y)) → ev_W G M_Mo_putBlock X 0 0 257 ls [] w1 := by
        intro t
        induction t with
        | zero =>
          intro y A1 w ls e0 hM hs g l0 l1 l2 l3 l4
          have e0 : y = (D k).2.2.1 i := e0
          subst e0
          refine r_iload hX d_Mo_putBlock_257 (by first | rfl | assumption) ?_
          refine q_aload hX 0 d_Mo_putBlock_259 rfl (by first | rfl | assumption) ?_
          refine r_getf hX d_Mo_putBlock_260 fl_Mo_39 hM.1 rfl ?_
          refine r_bipush (v := 8) hX d_Mo_putBlock_263 (by decide) ?_
          refine q_iload hX 1 d_Mo_putBlock_265 rfl (by first | rfl | assumption) ?_
          refine r_imul hX d_Mo_putBlock_266 ?_
          refine q_iload hX 3 d_Mo_putBlock_267 rfl (by first | rfl | assumption) ?_
          refine r_iadd hX d_Mo_putBlock_268 ?_
          refine r_ialdm (c := 127) (x := nI ((D k).2.2.1 i)) hX d_Mo_putBlock_269 hM rfl (j := 8 * k + i) (by rw [show (8 : Int32) = nI 8 from rfl, nI_ml, nI_add]) (by omega) (by rw [g.2.2.1 127 (by decide)]; exact (hsz i hi).1) ?_
          refine r_icmp_ge hX 302 d_Mo_putBlock_270 (by decide) (fun _ => ?_) (fun c270 => absurd (nI_le (Nat.le_refl _) (by omega)) c270)
          refine r_iinc hX d_Mo_putBlock_302 (by first | rfl | assumption) ?_
          refine r_goto hX 249 d_Mo_putBlock_305 (by decide) ?_
          exact ih (i + 1) A1 w _ (by omega) (by rw [sm_N]; exact hM) hs (by rw [sm_N]; exact g) l0 l1 l2 (by show some (Value.int (nI i + Int32.ofInt 1)) = _; rw [show Int32.ofInt 1 = 1 from rfl, nI_1])
        | succ t ihb =>
          intro y A1 w ls e0 hM hs g l0 l1 l2 l3 l4
          have hly := sm_N_le (sz := (D k).2.2.1) (show i + 1 ≤ (D k).1 by omega)
          rw [sm_N] at hly
          have hlen : (((bh_L (sE S k)) ++ ps_L ((sE S k).2.2.2 8) (D k).2.2.1 ((D k).1 - 1) 0) ++ st_L sf sd ((sE S k).2.2.2 3) (sm_N (D k).2.2.1 i + y) 0).length = ((bh_L (sE S k)) ++ ps_L ((sE S k).2.2.2 8) (D k).2.2.1 ((D k).1 - 1) 0).length + (sm_N (D k).2.2.1 i + y) := by rw [List.length_append, st_len]
          have hhv : A1.1 129 ((D k).2.2.2 + sm_N (D k).2.2.1 i + y) = sf ((D k).2.2.2 + (sm_N (D k).2.2.1 i + y)) := by rw [g.2.2.1 129 (by decide), Nat.add_assoc]; exact hhp _ (by omega)
          have hpv : A1.1 128 (8 * k + i) = nI ((D k).2.2.2 + sm_N (D k).2.2.1 i) := by rw [g.2.2.1 128 (by decide)]; exact (p5 i hi).2
          refine r_iload hX d_Mo_putBlock_257 (by first | rfl | assumption) ?_
          refine q_aload hX 0 d_Mo_putBlock_259 rfl (by first | rfl | assumption) ?_
          refine r_getf hX d_Mo_putBlock_260 fl_Mo_39 hM.1 rfl ?_
          refine r_bipush (v := 8) hX d_Mo_putBlock_263 (by decide) ?_
          refine q_iload hX 1 d_Mo_putBlock_265 rfl (by first | rfl | assumption) ?_
          refine r_imul hX d_Mo_putBlock_266 ?_
          refine q_iload hX 3 d_Mo_putBlock_267 rfl (by first | rfl | assumption) ?_
          refine r_iadd hX d_Mo_putBlock_268 ?_
          refine r_ialdm (c := 127) (x := nI ((D k).2.2.1 i)) hX d_Mo_putBlock_269 hM rfl (j := 8 * k + i) (by rw [show (8 : Int32) = nI 8 from rfl, nI_ml, nI_add]) (by omega) (by rw [g.2.2.1 127 (by decide)]; exact (hsz i hi).1) ?_
          refine r_icmp_ge hX 302 d_Mo_putBlock_270 (by decide) (fun c270 => absurd c270 (nI_ge (by omega) (by omega))) (fun _ => ?_)
          refine q_aload hX 0 d_Mo_putBlock_273 rfl (by first | rfl | assumption) ?_
          refine q_aload hX 0 d_Mo_putBlock_274 rfl (by first | rfl | assumption) ?_
          refine r_getf hX d_Mo_putBlock_275 fl_Mo_45 hM.1 rfl ?_
          refine q_aload hX 0 d_Mo_putBlock_278 rfl (by first | rfl | assumption) ?_
          refine r_getf hX d_Mo_putBlock_279 fl_Mo_42 hM.1 rfl ?_
          refine r_bipush (v := 8) hX d_Mo_putBlock_282 (by decide) ?_
          refine q_iload hX 1 d_Mo_putBlock_284 rfl (by first | rfl | assumption) ?_
          refine r_imul hX d_Mo_putBlock_285 ?_
          refine q_iload hX 3 d_Mo_putBlock_286 rfl (by first | rfl | assumption) ?_
          refine r_iadd hX d_Mo_putBlock_287 ?_
          refine r_ialdm (c := 128) (x := nI ((D k).2.2.2 + sm_N (D k).2.2.1 i)) hX d_Mo_putBlock_288 hM rfl (j := 8 * k + i) (by rw [show (8 : Int32) = nI 8 from rfl, nI_ml, nI_add]) (by omega) hpv ?_
          refine r_iload hX d_Mo_putBlock_289 (by first | rfl | assumption) ?_
          refine r_iadd hX d_Mo_putBlock_291 ?_
          refine r_ialdm (c := 129) (x := sf ((D k).2.2.2 + (sm_N (D k).2.2.1 i + y))) hX d_Mo_putBlock_292 hM rfl (j := (D k).2.2.2 + sm_N (D k).2.2.1 i + y) (by rw [nI_add]) (by omega) hhv ?_
          refine r_callV (as := [_]) hX d_Mo_putBlock_293 lk_Mo_243 hM.1 rfl rfl (Nat.le_of_ble_eq_true rfl) (by decide) 0 0 (Nat.le_refl _) (Nat.le_refl _) (c_Mo_putL (G := G) hM (c := c + (((bh_L (sE S k)) ++ ps_L ((sE S k).2.2.2 8) (D k).2.2.1 ((D k).1 - 1) 0) ++ st_L sf sd ((sE S k).2.2.2 3) (sm_N (D k).2.2.1 i + y) 0).length) rfl (by omega) (x := tr_sa sf sd (((sE S k).2.2.2 3) + nI (0 + (sm_N (D k).2.2.1 i + y)))) (by rw [h7.1, Nat.zero_add, nI_add, tr_sa_nI (by omega) hsd]; exact (hby _ (by omega)).symm)) (fun v w hq => ?_)
          obtain ⟨rfl, A1, hM, hs2, g2⟩ := hq
          have hs := hs.tr hs2
          rw [upd2, Nat.add_assoc, ← List.length_append] at hM
          have g := g.app g2
          refine r_iinc hX d_Mo_putBlock_296 (by first | rfl | assumption) ?_
          refine r_goto hX 257 d_Mo_putBlock_299 (by decide) ?_
          exact ihb (y + 1) _ w _ (by omega) (by rw [show sm_N (D k).2.2.1 i + (y + 1) = (sm_N (D k).2.2.1 i + y) + 1 from rfl, st_snocL, ← List.append_assoc]; exact hM) hs (by rw [show sm_N (D k).2.2.1 i + (y + 1) = (sm_N (D k).2.2.1 i + y) + 1 from rfl, st_snocL, ← List.append_assoc]; exact g) l0 l1 l2 l3 (by show some (Value.int (nI y + Int32.ofInt 1)) = _; rw [show Int32.ofInt 1 = 1 from rfl, nI_1])
      refine q_iload hX 3 d_Mo_putBlock_249 rfl (by first | rfl | assumption) ?_
      refine q_iload hX 2 d_Mo_putBlock_250 rfl (by first | rfl | assumption) ?_
      refine r_icmp_ge hX 308 d_Mo_putBlock_251 (by decide) (fun c251 => absurd c251 (nI_ge (by omega) (by omega))) (fun _ => ?_)
      refine r_iconst (v := 0) hX d_Mo_putBlock_254 (by decide) ?_
      refine r_istore hX d_Mo_putBlock_255 (by decide) ?_
      exact loopb ((D k).2.2.1 i) 0 A1 w _ (by omega) hM hs g l0 l1 l2 l3 rfl
  have loop1 : ∀ (t i : Nat) (A1 : Ev_A) (w1 : Ev_W) (ls : Ev_L), i + t + 1 = (D k).1 → is_M w1 (upd I 5 (nI (c + ((bh_L (sE S k)) ++ ps_L ((sE S k).2.2.2 8) (D k).2.2.1 i 0).length))) v0 A1 → mo_sm w0 w1 → ou A A1 c ((bh_L (sE S k)) ++ ps_L ((sE S k).2.2.2 8) (D k).2.2.1 i 0) → ls.1 0 = some (.ref 117) → ls.1 1 = some (.int (nI k)) → ls.1 2 = some (.int (nI (D k).1)) → ls.1 3 = some (.int (nI i)) → ev_W G M_Mo_putBlock X 0 0 78 ls [] w1 := by
    intro t
    induction t with
    | zero =>
      intro i A1 w ls e0 hM hs g l0 l1 l2 l3
      have e0 : i = (D k).1 - 1 := by omega
      subst e0
      refine q_iload hX 3 d_Mo_putBlock_78 rfl (by first | rfl | assumption) ?_
      refine r_iconst (v := 1) hX d_Mo_putBlock_79 (by decide) ?_
      refine r_iadd hX d_Mo_putBlock_80 ?_
      rw [nI_1]
      refine q_iload hX 2 d_Mo_putBlock_81 rfl (by first | rfl | assumption) ?_
      refine r_icmp_ge hX 247 d_Mo_putBlock_82 (by decide) (fun _ => ?_) (fun c82 => absurd (nI_le (b := (D k).1 - 1 + 1) (by omega) (by omega)) c82)
      refine r_iconst (v := 0) hX d_Mo_putBlock_247 (by decide) ?_
      refine q_istore hX 3 d_Mo_putBlock_248 rfl (by decide) ?_
      exact loop2 (D k).1 0 A1 w _ (by omega) (by rw [hst0, List.append_nil]; exact hM) hs (by rw [hst0, List.append_nil]; exact g) l0 l1 l2 rfl
    | succ t ih =>
      intro i A1 w ls e0 hM hs g l0 l1 l2 l3
      have hi : i < (D k).1 := by omega
      have hsi := (hsz i hi).2
      have hps := ps_mono ((sE S k).2.2.2 8) (D k).2.2.1 (show i + 1 ≤ (D k).1 - 1 by omega)
      rw [ps_snoc, Nat.zero_add] at hps
      have hlpi : ((bh_L (sE S k)) ++ ps_L ((sE S k).2.2.2 8) (D k).2.2.1 i 0).length = (bh_L (sE S k)).length + (ps_L ((sE S k).2.2.2 8) (D k).2.2.1 i 0).length := List.length_append
      by_cases hl1 : ((sE S k).2.2.2 8) = 1
      · skip
        have loop112 : ∀ (f q : Nat) (l : List Int32) (A1 : Ev_A) (w1 : Ev_W) (ls : Ev_L), q ≤ 640 → q < 255 * (f + 1) → q % 255 = (D k).2.2.1 i % 255 → l ++ sb_L f q = ((bh_L (sE S k)) ++ ps_L ((sE S k).2.2.2 8) (D k).2.2.1 i 0) ++ sb_L 3 ((D k).2.2.1 i) → is_M w1 (upd I 5 (nI (c + l.length))) v0 A1 → mo_sm w0 w1 → ou A A1 c l → ls.1 0 = some (.ref 117) → ls.1 1 = some (.int (nI k)) → ls.1 2 = some (.int (nI (D k).1)) → ls.1 3 = some (.int (nI i)) → ls.1 4 = some (.int (nI ((D k).2.2.1 i))) → ls.1 5 = some (.int (nI q)) → ev_W G M_Mo_putBlock X 0 0 112 ls [] w1 := by
          have hEND : ∀ (f q : Nat) (l : List Int32) (A1 : Ev_A) (w1 : Ev_W) (ls : Ev_L), q < 255 → q % 255 = (D k).2.2.1 i % 255 → l ++ sb_L f q = ((bh_L (sE S k)) ++ ps_L ((sE S k).2.2.2 8) (D k).2.2.1 i 0) ++ sb_L 3 ((D k).2.2.1 i) → is_M w1 (upd I 5 (nI (c + l.length))) v0 A1 → mo_sm w0 w1 → ou A A1 c l → ls.1 0 = some (.ref 117) → ls.1 1 = some (.int (nI k)) → ls.1 2 = some (.int (nI (D k).1)) → ls.1 3 = some (.int (nI i)) → ls.1 4 = some (.int (nI ((D k).2.2.1 i))) → ls.1 5 = some (.int (nI q)) → ev_W G M_Mo_putBlock X 0 0 112 ls [] w1 := by
            intro f q l A1 w ls hq hmod el hM hs g l0 l1 l2 l3 l4 l5
            have hsb : sb_L f q = [nI q] := by
              cases f with
              | zero => rfl
              | succ f => rw [sb_L, if_pos hq]
            have hle := congrArg List.length el
            rw [hsb, List.length_append, List.length_append, sb_3 hsi] at hle
            have hle : l.length + 1 = ((bh_L (sE S k)) ++ ps_L ((sE S k).2.2.2 8) (D k).2.2.1 i 0).length + ((D k).2.2.1 i / 255 + 1) := hle
            have hps1 : (ps_1 ((sE S k).2.2.2 8) (D k).2.2.1 i).length = (D k).2.2.1 i / 255 + 1 := by rw [ps_1, if_pos hl1, sb_3 hsi]
            refine r_iload hX d_Mo_putBlock_112 (by first | rfl | assumption) ?_
            refine r_sipush (v := 255) hX d_Mo_putBlock_114 (by decide) ?_
            refine r_icmp_lt hX 138 d_Mo_putBlock_117 (by decide) (fun _ => ?_) (fun c117 => absurd (nI_lt (b := 255) hq (by decide)) c117)
            refine q_aload hX 0 d_Mo_putBlock_138 rfl (by first | rfl | assumption) ?_
            refine r_iload hX d_Mo_putBlock_139 (by first | rfl | assumption) ?_
            refine r_sipush (v := 255) hX d_Mo_putBlock_141 (by decide) ?_
            refine r_irem hX d_Mo_putBlock_144 (by decide) ?_
            rw [show (255 : Int32) = nI 255 from rfl, nI_md (by omega) (by decide), ← hmod, Nat.mod_eq_of_lt hq]
            refine r_callV (as := [_]) hX d_Mo_putBlock_145 lk_Mo_243 hM.1 rfl rfl (Nat.le_of_ble_eq_true rfl) (by decide) 0 0 (Nat.le_refl _) (Nat.le_refl _) (c_Mo_putL (G := G) hM (c := c + l.length) rfl (by omega) (x := nI q) (nI_b (by omega)).symm) (fun v w hq => ?_)
            obtain ⟨rfl, A1, hM, hs2, g2⟩ := hq
            have hs := hs.tr hs2
            rw [upd2, Nat.add_assoc, ← List.length_append] at hM
            have g := g.app g2
            refine r_goto hX 241 d_Mo_putBlock_148 (by decide) ?_
            refine r_iinc hX d_Mo_putBlock_241 (by first | rfl | assumption) ?_
            refine r_goto hX 78 d_Mo_putBlock_244 (by decide) ?_
            rw [hsb] at el
            rw [el] at hM g
            exact ih (i + 1) A1 w _ (by omega) (by rw [ps_snocL, Nat.zero_add, ← List.append_assoc, ps_1, if_pos hl1]; exact hM) hs (by rw [ps_snocL, Nat.zero_add, ← List.append_assoc, ps_1, if_pos hl1]; exact g) l0 l1 l2 (by show some (Value.int (nI i + Int32.ofInt 1)) = _; rw [show Int32.ofInt 1 = 1 from rfl, nI_1])
          intro f
          induction f with
          | zero =>
            intro q l A1 w ls hq6 hq hmod el hM hs g l0 l1 l2 l3 l4 l5
            exact hEND 0 q l A1 w ls (by omega) hmod el hM hs g l0 l1 l2 l3 l4 l5
          | succ f ihf =>
            intro q l A1 w ls hq6 hq hmod el hM hs g l0 l1 l2 l3 l4 l5
            by_cases z : q < 255
            · exact hEND (f + 1) q l A1 w ls z hmod el hM hs g l0 l1 l2 l3 l4 l5
            · have hle := congrArg List.length el
              have hps1 : (ps_1 ((sE S k).2.2.2 8) (D k).2.2.1 i).length = (D k).2.2.1 i / 255 + 1 := by rw [ps_1, if_pos hl1, sb_3 hsi]
              rw [sb_L, if_neg z, List.length_append, List.length_append, sb_3 hsi, List.length_cons] at hle
              refine r_iload hX d_Mo_putBlock_112 (by first | rfl | assumption) ?_
              refine r_sipush (v := 255) hX d_Mo_putBlock_114 (by decide) ?_
              refine r_icmp_lt hX 138 d_Mo_putBlock_117 (by decide) (fun c117 => absurd c117 (nI_nlt (b := 255) (by omega) (by omega))) (fun _ => ?_)
              refine q_aload hX 0 d_Mo_putBlock_120 rfl (by first | rfl | assumption) ?_
              refine r_sipush (v := 255) hX d_Mo_putBlock_121 (by decide) ?_
              refine r_callV (as := [_]) hX d_Mo_putBlock_124 lk_Mo_243 hM.1 rfl rfl (Nat.le_of_ble_eq_true rfl) (by decide) 0 0 (Nat.le_refl _) (Nat.le_refl _) (c_Mo_putL (G := G) hM (c := c + l.length) rfl (by omega) (x := 255) (by decide)) (fun v w hq => ?_)
              obtain ⟨rfl, A1, hM, hs2, g2⟩ := hq
              have hs := hs.tr hs2
              rw [upd2, Nat.add_assoc, ← List.length_append] at hM
              have g := g.app g2
              refine r_iload hX d_Mo_putBlock_127 (by first | rfl | assumption) ?_
              refine r_sipush (v := 255) hX d_Mo_putBlock_129 (by decide) ?_
              refine r_isub hX d_Mo_putBlock_132 ?_
              rw [show (255 : Int32) = nI 255 from rfl, nI_sb (by omega)]
              refine r_istore hX d_Mo_putBlock_133 (by decide) ?_
              refine r_goto hX 112 d_Mo_putBlock_135 (by decide) ?_
              exact ihf (q - 255) (l ++ [255]) A1 w _ (by omega) (by omega) (by omega) (by rw [List.append_assoc, ← el, sb_L, if_neg z]; rfl) hM hs g l0 l1 l2 l3 l4 rfl
        refine q_iload hX 3 d_Mo_putBlock_78 rfl (by first | rfl | assumption) ?_
        refine r_iconst (v := 1) hX d_Mo_putBlock_79 (by decide) ?_
        refine r_iadd hX d_Mo_putBlock_80 ?_
        rw [nI_1]
        refine q_iload hX 2 d_Mo_putBlock_81 rfl (by first | rfl | assumption) ?_
        refine r_icmp_ge hX 247 d_Mo_putBlock_82 (by decide) (fun c82 => absurd c82 (nI_ge (a := i + 1) (by omega) (by omega))) (fun _ => ?_)
        refine q_aload hX 0 d_Mo_putBlock_85 rfl (by first | rfl | assumption) ?_
        refine r_getf hX d_Mo_putBlock_86 fl_Mo_39 hM.1 rfl ?_
        refine r_bipush (v := 8) hX d_Mo_putBlock_89 (by decide) ?_
        refine q_iload hX 1 d_Mo_putBlock_91 rfl (by first | rfl | assumption) ?_
        refine r_imul hX d_Mo_putBlock_92 ?_
        refine q_iload hX 3 d_Mo_putBlock_93 rfl (by first | rfl | assumption) ?_
        refine r_iadd hX d_Mo_putBlock_94 ?_
        refine r_ialdm (c := 127) (x := nI ((D k).2.2.1 i)) hX d_Mo_putBlock_95 hM rfl (j := 8 * k + i) (by rw [show (8 : Int32) = nI 8 from rfl, nI_ml, nI_add]) (by omega) (by rw [g.2.2.1 127 (by decide)]; exact (hsz i hi).1) ?_
        refine r_istore hX d_Mo_putBlock_96 (by decide) ?_
        refine q_aload hX 0 d_Mo_putBlock_98 rfl (by first | rfl | assumption) ?_
        refine r_getf hX d_Mo_putBlock_99 fl_Mo_36 hM.1 rfl ?_
        refine q_iload hX 1 d_Mo_putBlock_102 rfl (by first | rfl | assumption) ?_
        refine r_ialdm (c := 126) (x := ((sE S k).2.2.2 8)) hX d_Mo_putBlock_103 hM rfl rfl (by omega) (by rw [g.2.2.1 126 (by decide)]; exact h26) ?_
        refine r_iconst (v := 1) hX d_Mo_putBlock_104 (by decide) ?_
        refine r_icmp_ne hX 151 d_Mo_putBlock_105 (by decide) (fun c105 => absurd hl1 c105) (fun _ => ?_)
        refine r_iload hX d_Mo_putBlock_108 (by first | rfl | assumption) ?_
        refine r_istore hX d_Mo_putBlock_110 (by decide) ?_
        exact loop112 3 ((D k).2.2.1 i) ((bh_L (sE S k)) ++ ps_L ((sE S k).2.2.2 8) (D k).2.2.1 i 0) A1 w _ hsi (by omega) rfl rfl hM hs g l0 l1 l2 l3 rfl rfl
      · by_cases hl3 : ((sE S k).2.2.2 8) = 3
        · by_cases hi0 : i = 0
          · refine q_iload hX 3 d_Mo_putBlock_78 rfl (by first | rfl | assumption) ?_
            refine r_iconst (v := 1) hX d_Mo_putBlock_79 (by decide) ?_
            refine r_iadd hX d_Mo_putBlock_80 ?_
            rw [nI_1]
            refine q_iload hX 2 d_Mo_putBlock_81 rfl (by first | rfl | assumption) ?_
            refine r_icmp_ge hX 247 d_Mo_putBlock_82 (by decide) (fun c82 => absurd c82 (nI_ge (a := i + 1) (by omega) (by omega))) (fun _ => ?_)
            refine q_aload hX 0 d_Mo_putBlock_85 rfl (by first | rfl | assumption) ?_
            refine r_getf hX d_Mo_putBlock_86 fl_Mo_39 hM.1 rfl ?_
            refine r_bipush (v := 8) hX d_Mo_putBlock_89 (by decide) ?_
            refine q_iload hX 1 d_Mo_putBlock_91 rfl (by first | rfl | assumption) ?_
            refine r_imul hX d_Mo_putBlock_92 ?_
            refine q_iload hX 3 d_Mo_putBlock_93 rfl (by first | rfl | assumption) ?_
            refine r_iadd hX d_Mo_putBlock_94 ?_
            refine r_ialdm (c := 127) (x := nI ((D k).2.2.1 i)) hX d_Mo_putBlock_95 hM rfl (j := 8 * k + i) (by rw [show (8 : Int32) = nI 8 from rfl, nI_ml, nI_add]) (by omega) (by rw [g.2.2.1 127 (by decide)]; exact (hsz i hi).1) ?_
            refine r_istore hX d_Mo_putBlock_96 (by decide) ?_
            refine q_aload hX 0 d_Mo_putBlock_98 rfl (by first | rfl | assumption) ?_
            refine r_getf hX d_Mo_putBlock_99 fl_Mo_36 hM.1 rfl ?_
            refine q_iload hX 1 d_Mo_putBlock_102 rfl (by first | rfl | assumption) ?_
            refine r_ialdm (c := 126) (x := ((sE S k).2.2.2 8)) hX d_Mo_putBlock_103 hM rfl rfl (by omega) (by rw [g.2.2.1 126 (by decide)]; exact h26) ?_
            refine r_iconst (v := 1) hX d_Mo_putBlock_104 (by decide) ?_
            refine r_icmp_ne hX 151 d_Mo_putBlock_105 (by decide) (fun _ => ?_) (fun c105 => absurd c105 hl1)
            refine q_aload hX 0 d_Mo_putBlock_151 rfl (by first | rfl | assumption) ?_
            refine r_getf hX d_Mo_putBlock_152 fl_Mo_36 hM.1 rfl ?_
            refine q_iload hX 1 d_Mo_putBlock_155 rfl (by first | rfl | assumption) ?_
            refine r_ialdm (c := 126) (x := ((sE S k).2.2.2 8)) hX d_Mo_putBlock_156 hM rfl rfl (by omega) (by rw [g.2.2.1 126 (by decide)]; exact h26) ?_
            refine r_iconst (v := 3) hX d_Mo_putBlock_157 (by decide) ?_
            refine r_icmp_ne hX 185 d_Mo_putBlock_158 (by decide) (fun c158 => absurd hl3 c158) (fun _ => ?_)
            refine q_iload hX 3 d_Mo_putBlock_161 rfl (by first | rfl | assumption) ?_
            refine r_if_ne hX 185 d_Mo_putBlock_162 (by decide) (fun c162 => absurd (by rw [hi0]; rfl) c162) (fun _ => ?_)
            refine r_iload hX d_Mo_putBlock_165 (by first | rfl | assumption) ?_
            refine r_i2l hX d_Mo_putBlock_167 ?_
            rw [nI_l (by omega)]
            refine r_callS (as := [_]) hX d_Mo_putBlock_168 lk_Mo_223 rfl (Nat.le_of_ble_eq_true rfl) (by decide) 0 0 (Nat.le_refl _) (Nat.le_refl _) (c_Mo_widthFor (G := G) ((D k).2.2.1 i) (by omega)) (fun v w1 hq => ?_)
            obtain ⟨rfl, hw⟩ := hq
            rw [hw]
            refine r_istore hX d_Mo_putBlock_171 (by decide) ?_
            refine q_aload hX 0 d_Mo_putBlock_173 rfl (by first | rfl | assumption) ?_
            refine r_iload hX d_Mo_putBlock_174 (by first | rfl | assumption) ?_
            refine r_i2l hX d_Mo_putBlock_176 ?_
            rw [nI_l (by omega)]
            refine r_iload hX d_Mo_putBlock_177 (by first | rfl | assumption) ?_
            refine r_callV (as := [_, _]) hX d_Mo_putBlock_179 lk_Mo_250 hM.1 rfl rfl (Nat.le_of_ble_eq_true rfl) (by decide) 0 0 (Nat.le_refl _) (Nat.le_refl _) (c_Mo_putVint (G := G) hM (c := c + ((bh_L (sE S k)) ++ ps_L ((sE S k).2.2.2 8) (D k).2.2.1 i 0).length) rfl (lN ((D k).2.2.1 i)) (wr_sv (lN ((D k).2.2.1 i)) 7 1) (wr_sv_le _ 7 1) (by rw [ps_1, if_neg hl1, if_pos hl3, if_pos hi0, vn_len] at hps; omega)) (fun v w hq => ?_)
            obtain ⟨rfl, A1, hM, hs2, g2⟩ := hq
            have hs := hs.tr hs2
            rw [upd2, Nat.add_assoc, ← List.length_append] at hM
            have g := g.app g2
            refine r_goto hX 241 d_Mo_putBlock_182 (by decide) ?_
            refine r_iinc hX d_Mo_putBlock_241 (by first | rfl | assumption) ?_
            refine r_goto hX 78 d_Mo_putBlock_244 (by decide) ?_
            exact ih (i + 1) A1 w _ (by omega) (by rw [ps_snocL, Nat.zero_add, ← List.append_assoc, ps_1, if_neg hl1, if_pos hl3, if_pos hi0]; exact hM) hs (by rw [ps_snocL, Nat.zero_add, ← List.append_assoc, ps_1, if_neg hl1, if_pos hl3, if_pos hi0]; exact g) l0 l1 l2 (by show some (Value.int (nI i + Int32.ofInt 1)) = _; rw [show Int32.ofInt 1 = 1 from rfl, nI_1])
          · refine q_iload hX 3 d_Mo_putBlock_78 rfl (by first | rfl | assumption) ?_
            refine r_iconst (v := 1) hX d_Mo_putBlock_79 (by decide) ?_
            refine r_iadd hX d_Mo_putBlock_80 ?_
            rw [nI_1]
            refine q_iload hX 2 d_Mo_putBlock_81 rfl (by first | rfl | assumption) ?_
            refine r_icmp_ge hX 247 d_Mo_putBlock_82 (by decide) (fun c82 => absurd c82 (nI_ge (a := i + 1) (by omega) (by omega))) (fun _ => ?_)
            refine q_aload hX 0 d_Mo_putBlock_85 rfl (by first | rfl | assumption) ?_
            refine r_getf hX d_Mo_putBlock_86 fl_Mo_39 hM.1 rfl ?_
            refine r_bipush (v := 8) hX d_Mo_putBlock_89 (by decide) ?_
            refine q_iload hX 1 d_Mo_putBlock_91 rfl (by first | rfl | assumption) ?_
            refine r_imul hX d_Mo_putBlock_92 ?_
            refine q_iload hX 3 d_Mo_putBlock_93 rfl (by first | rfl | assumption) ?_
            refine r_iadd hX d_Mo_putBlock_94 ?_
            refine r_ialdm (c := 127) (x := nI ((D k).2.2.1 i)) hX d_Mo_putBlock_95 hM rfl (j := 8 * k + i) (by rw [show (8 : Int32) = nI 8 from rfl, nI_ml, nI_add]) (by omega) (by rw [g.2.2.1 127 (by decide)]; exact (hsz i hi).1) ?_
            refine r_istore hX d_Mo_putBlock_96 (by decide) ?_
            refine q_aload hX 0 d_Mo_putBlock_98 rfl (by first | rfl | assumption) ?_
            refine r_getf hX d_Mo_putBlock_99 fl_Mo_36 hM.1 rfl ?_
            refine q_iload hX 1 d_Mo_putBlock_102 rfl (by first | rfl | assumption) ?_
            refine r_ialdm (c := 126) (x := ((sE S k).2.2.2 8)) hX d_Mo_putBlock_103 hM rfl rfl (by omega) (by rw [g.2.2.1 126 (by decide)]; exact h26) ?_
            refine r_iconst (v := 1) hX d_Mo_putBlock_104 (by decide) ?_
            refine r_icmp_ne hX 151 d_Mo_putBlock_105 (by decide) (fun _ => ?_) (fun c105 => absurd c105 hl1)
            refine q_aload hX 0 d_Mo_putBlock_151 rfl (by first | rfl | assumption) ?_
            refine r_getf hX d_Mo_putBlock_152 fl_Mo_36 hM.1 rfl ?_
            refine q_iload hX 1 d_Mo_putBlock_155 rfl (by first | rfl | assumption) ?_
            refine r_ialdm (c := 126) (x := ((sE S k).2.2.2 8)) hX d_Mo_putBlock_156 hM rfl rfl (by omega) (by rw [g.2.2.1 126 (by decide)]; exact h26) ?_
            refine r_iconst (v := 3) hX d_Mo_putBlock_157 (by decide) ?_
            refine r_icmp_ne hX 185 d_Mo_putBlock_158 (by decide) (fun c158 => absurd hl3 c158) (fun _ => ?_)
            refine q_iload hX 3 d_Mo_putBlock_161 rfl (by first | rfl | assumption) ?_
            refine r_if_ne hX 185 d_Mo_putBlock_162 (by decide) (fun _ => ?_) (fun c162 => absurd ((nI_eq (b := 0) (by omega) (by decide)).mp c162) hi0)
            refine q_aload hX 0 d_Mo_putBlock_185 rfl (by first | rfl | assumption) ?_
            refine r_getf hX d_Mo_putBlock_186 fl_Mo_36 hM.1 rfl ?_
            refine q_iload hX 1 d_Mo_putBlock_189 rfl (by first | rfl | assumption) ?_
            refine r_ialdm (c := 126) (x := ((sE S k).2.2.2 8)) hX d_Mo_putBlock_190 hM rfl rfl (by omega) (by rw [g.2.2.1 126 (by decide)]; exact h26) ?_
            refine r_iconst (v := 3) hX d_Mo_putBlock_191 (by decide) ?_
            refine r_icmp_ne hX 241 d_Mo_putBlock_192 (by decide) (fun c192 => absurd hl3 c192) (fun _ => ?_)
            refine r_iload hX d_Mo_putBlock_195 (by first | rfl | assumption) ?_
            refine q_aload hX 0 d_Mo_putBlock_197 rfl (by first | rfl | assumption) ?_
            refine r_getf hX d_Mo_putBlock_198 fl_Mo_39 hM.1 rfl ?_
            refine r_bipush (v := 8) hX d_Mo_putBlock_201 (by decide) ?_
            refine q_iload hX 1 d_Mo_putBlock_203 rfl (by first | rfl | assumption) ?_
            refine r_imul hX d_Mo_putBlock_204 ?_
            refine q_iload hX 3 d_Mo_putBlock_205 rfl (by first | rfl | assumption) ?_
            refine r_iadd hX d_Mo_putBlock_206 ?_
            refine r_iconst (v := 1) hX d_Mo_putBlock_207 (by decide) ?_
            refine r_isub hX d_Mo_putBlock_208 ?_
            refine r_ialdm (c := 127) (x := nI ((D k).2.2.1 (i - 1))) hX d_Mo_putBlock_209 hM rfl (j := 8 * k + (i - 1)) (by rw [show (8 : Int32) = nI 8 from rfl, nI_ml, nI_add, show 8 * k + i = (8 * k + (i - 1)) + 1 by omega, nI_pred]) (by omega) (by rw [g.2.2.1 127 (by decide)]; exact (hsz (i - 1) (by omega)).1) ?_
            refine r_isub hX d_Mo_putBlock_210 ?_
            refine r_istore hX d_Mo_putBlock_211 (by decide) ?_
            refine r_iload hX d_Mo_putBlock_213 (by first | rfl | assumption) ?_
            refine r_callS (as := [_]) hX d_Mo_putBlock_215 lk_Mo_227 rfl (Nat.le_of_ble_eq_true rfl) (by decide) 0 0 (Nat.le_refl _) (Nat.le_refl _) (c_Mo_widthForStep (G := G) (d := (nI ((D k).2.2.1 i) - nI ((D k).2.2.1 (i - 1)))) (nI_d (by omega) (by have := (hsz (i - 1) (by omega)).2; omega)) (by have := (hsz (i - 1) (by omega)).2; omega) (by have := (hsz (i - 1) (by omega)).2; omega)) (fun v w1 hq => ?_)
            obtain ⟨rfl, hw⟩ := hq
            rw [hw]
            refine r_istore hX d_Mo_putBlock_218 (by decide) ?_
            refine q_aload hX 0 d_Mo_putBlock_220 rfl (by first | rfl | assumption) ?_
            refine r_iload hX d_Mo_putBlock_221 (by first | rfl | assumption) ?_
            refine r_i2l hX d_Mo_putBlock_223 ?_
            refine r_lconst (v := 1) hX d_Mo_putBlock_224 (by decide) ?_
            refine r_bipush (v := 7) hX d_Mo_putBlock_225 (by decide) ?_
            refine r_iload hX d_Mo_putBlock_227 (by first | rfl | assumption) ?_
            refine r_imul hX d_Mo_putBlock_229 ?_
            refine r_iconst (v := 1) hX d_Mo_putBlock_230 (by decide) ?_
            refine r_isub hX d_Mo_putBlock_231 ?_
            refine r_lshl hX d_Mo_putBlock_232 ?_
            refine r_ladd hX d_Mo_putBlock_233 ?_
            refine r_lconst (v := 1) hX d_Mo_putBlock_234 (by decide) ?_
            refine r_lsub hX d_Mo_putBlock_235 ?_
            rw [l_su, show ((1 : Int64) <<< ((7 * nI (wr_sd (nI ((D k).2.2.1 i) - nI ((D k).2.2.1 (i - 1))) 7 1) - 1).toInt64 &&& 63)) - 1 = ef_surplus (nI (wr_sd (nI ((D k).2.2.1 i) - nI ((D k).2.2.1 (i - 1))) 7 1)) from rfl]
            refine r_iload hX d_Mo_putBlock_236 (by first | rfl | assumption) ?_
            refine r_callV (as := [_, _]) hX d_Mo_putBlock_238 lk_Mo_250 hM.1 rfl rfl (Nat.le_of_ble_eq_true rfl) (by decide) 0 0 (Nat.le_refl _) (Nat.le_refl _) (c_Mo_putVint (G := G) hM (c := c + ((bh_L (sE S k)) ++ ps_L ((sE S k).2.2.2 8) (D k).2.2.1 i 0).length) rfl _ (wr_sd (nI ((D k).2.2.1 i) - nI ((D k).2.2.1 (i - 1))) 7 1) (wr_sd_le _ 7 1) (by rw [ps_1, if_neg hl1, if_pos hl3, if_neg hi0, vn_len] at hps; omega)) (fun v w hq => ?_)
            obtain ⟨rfl, A1, hM, hs2, g2⟩ := hq
            have hs := hs.tr hs2
            rw [upd2, Nat.add_assoc, ← List.length_append] at hM
            have g := g.app g2
            refine r_iinc hX d_Mo_putBlock_241 (by first | rfl | assumption) ?_
            refine r_goto hX 78 d_Mo_putBlock_244 (by decide) ?_
            exact ih (i + 1) A1 w _ (by omega) (by rw [ps_snocL, Nat.zero_add, ← List.append_assoc, ps_1, if_neg hl1, if_pos hl3, if_neg hi0]; exact hM) hs (by rw [ps_snocL, Nat.zero_add, ← List.append_assoc, ps_1, if_neg hl1, if_pos hl3, if_neg hi0]; exact g) l0 l1 l2 (by show some (Value.int (nI i + Int32.ofInt 1)) = _; rw [show Int32.ofInt 1 = 1 from rfl, nI_1])
        · refine q_iload hX 3 d_Mo_putBlock_78 rfl (by first | rfl | assumption) ?_
          refine r_iconst (v := 1) hX d_Mo_putBlock_79 (by decide) ?_
          refine r_iadd hX d_Mo_putBlock_80 ?_
          rw [nI_1]
          refine q_iload hX 2 d_Mo_putBlock_81 rfl (by first | rfl | assumption) ?_
          refine r_icmp_ge hX 247 d_Mo_putBlock_82 (by decide) (fun c82 => absurd c82 (nI_ge (a := i + 1) (by omega) (by omega))) (fun _ => ?_)
          refine q_aload hX 0 d_Mo_putBlock_85 rfl (by first | rfl | assumption) ?_
          refine r_getf hX d_Mo_putBlock_86 fl_Mo_39 hM.1 rfl ?_
          refine r_bipush (v := 8) hX d_Mo_putBlock_89 (by decide) ?_
          refine q_iload hX 1 d_Mo_putBlock_91 rfl (by first | rfl | assumption) ?_
          refine r_imul hX d_Mo_putBlock_92 ?_
          refine q_iload hX 3 d_Mo_putBlock_93 rfl (by first | rfl | assumption) ?_
          refine r_iadd hX d_Mo_putBlock_94 ?_
          refine r_ialdm (c := 127) (x := nI ((D k).2.2.1 i)) hX d_Mo_putBlock_95 hM rfl (j := 8 * k + i) (by rw [show (8 : Int32) = nI 8 from rfl, nI_ml, nI_add]) (by omega) (by rw [g.2.2.1 127 (by decide)]; exact (hsz i hi).1) ?_
          refine r_istore hX d_Mo_putBlock_96 (by decide) ?_
          refine q_aload hX 0 d_Mo_putBlock_98 rfl (by first | rfl | assumption) ?_
          refine r_getf hX d_Mo_putBlock_99 fl_Mo_36 hM.1 rfl ?_
          refine q_iload hX 1 d_Mo_putBlock_102 rfl (by first | rfl | assumption) ?_
          refine r_ialdm (c := 126) (x := ((sE S k).2.2.2 8)) hX d_Mo_putBlock_103 hM rfl rfl (by omega) (by rw [g.2.2.1 126 (by decide)]; exact h26) ?_
          refine r_iconst (v := 1) hX d_Mo_putBlock_104 (by decide) ?_
          refine r_icmp_ne hX 151 d_Mo_putBlock_105 (by decide) (fun _ => ?_) (fun c105 => absurd c105 hl1)
          refine q_aload hX 0 d_Mo_putBlock_151 rfl (by first | rfl | assumption) ?_
          refine r_getf hX d_Mo_putBlock_152 fl_Mo_36 hM.1 rfl ?_
          refine q_iload hX 1 d_Mo_putBlock_155 rfl (by first | rfl | assumption) ?_
          refine r_ialdm (c := 126) (x := ((sE S k).2.2.2 8)) hX d_Mo_putBlock_156 hM rfl rfl (by omega) (by rw [g.2.2.1 126 (by decide)]; exact h26) ?_
          refine r_iconst (v := 3) hX d_Mo_putBlock_157 (by decide) ?_
          refine r_icmp_ne hX 185 d_Mo_putBlock_158 (by decide) (fun _ => ?_) (fun c158 => absurd c158 hl3)
          refine q_aload hX 0 d_Mo_putBlock_185 rfl (by first | rfl | assumption) ?_
          refine r_getf hX d_Mo_putBlock_186 fl_Mo_36 hM.1 rfl ?_
          refine q_iload hX 1 d_Mo_putBlock_189 rfl (by first | rfl | assumption) ?_
          refine r_ialdm (c := 126) (x := ((sE S k).2.2.2 8)) hX d_Mo_putBlock_190 hM rfl rfl (by omega) (by rw [g.2.2.1 126 (by decide)]; exact h26) ?_
          refine r_iconst (v := 3) hX d_Mo_putBlock_191 (by decide) ?_
          refine r_icmp_ne hX 241 d_Mo_putBlock_192 (by decide) (fun _ => ?_) (fun c192 => absurd c192 hl3)
          refine r_iinc hX d_Mo_putBlock_241 (by first | rfl | assumption) ?_
          refine r_goto hX 78 d_Mo_putBlock_244 (by decide) ?_
          exact ih (i + 1) A1 w _ (by omega) (by rw [ps_snocL, Nat.zero_add, ← List.append_assoc, ps_1, if_neg hl1, if_neg hl3, List.append_nil]; exact hM) hs (by rw [ps_snocL, Nat.zero_add, ← List.append_assoc, ps_1, if_neg hl1, if_neg hl3, List.append_nil]; exact g) l0 l1 l2 (by show some (Value.int (nI i + Int32.ofInt 1)) = _; rw [show Int32.ofInt 1 = 1 from rfl, nI_1])
  have go60 : ∀ (A1 : Ev_A) (w1 : Ev_W) (ls : Ev_L), is_M w1 (upd I 5 (nI (c + (((vn_L ((sE S k).2.2.2 5).toInt64 1) ++ nm_L ((sE S k).2.2.2 6).toInt64 2) ++ [((if (sE S k).2.2.2 7 = 0 then 0 else 128) + 2 * (sE S k).2.2.2 8)]).length))) v0 A1 → mo_sm w0 w1 → ou A A1 c (((vn_L ((sE S k).2.2.2 5).toInt64 1) ++ nm_L ((sE S k).2.2.2 6).toInt64 2) ++ [((if (sE S k).2.2.2 7 = 0 then 0 else 128) + 2 * (sE S k).2.2.2 8)]) → ls.1 0 = some (.ref 117) → ls.1 1 = some (.int (nI k)) → ls.1 2 = some (.int (nI (D k).1)) → ev_W G M_Mo_putBlock X 0 0 60 ls [] w1 := by
    intro A1 w ls hM hs g l0 l1 l2
    have hl3 : (((vn_L ((sE S k).2.2.2 5).toInt64 1) ++ nm_L ((sE S k).2.2.2 6).toInt64 2) ++ [((if (sE S k).2.2.2 7 = 0 then 0 else 128) + 2 * (sE S k).2.2.2 8)]).length = 4 := by rw [List.length_append, List.length_append, vn_len, nm_len]; rfl
    refine q_aload hX 0 d_Mo_putBlock_60 rfl (by first | rfl | assumption) ?_
    refine r_getf hX d_Mo_putBlock_61 fl_Mo_36 hM.1 rfl ?_
    refine q_iload hX 1 d_Mo_putBlock_64 rfl (by first | rfl | assumption) ?_
    refine r_ialdm (c := 126) (x := ((sE S k).2.2.2 8)) hX d_Mo_putBlock_65 hM rfl rfl (by omega) (by rw [g.2.2.1 126 (by decide)]; exact h26) ?_
    refine r_if_le hX 76 d_Mo_putBlock_66 (by decide) (fun c66 => ?_) (fun c66 => ?_)
    · refine r_iconst (v := 0) hX d_Mo_putBlock_76 (by decide) ?_
      refine q_istore hX 3 d_Mo_putBlock_77 rfl (by decide) ?_
      have hl0 : ((sE S k).2.2.2 8) = 0 := by
        rcases la_c e10 e11 with z | z | z | z
        · exact z
        all_goals (rw [z] at c66; exact absurd c66 (by decide))
      have hbe : (bh_L (sE S k)) = (((vn_L ((sE S k).2.2.2 5).toInt64 1) ++ nm_L ((sE S k).2.2.2 6).toInt64 2) ++ [((if (sE S k).2.2.2 7 = 0 then 0 else 128) + 2 * (sE S k).2.2.2 8)]) := by rw [bh_L, hsv, if_pos hl0]
      exact loop1 ((D k).1 - 1) 0 A1 w _ (by omega) (by rw [hps0, List.append_nil, hbe]; exact hM) hs (by rw [hps0, List.append_nil, hbe]; exact g) l0 l1 l2 rfl
    · have hl0 : ¬ ((sE S k).2.2.2 8) = 0 := fun z => c66 (by rw [z]; decide)
      have hb5 : (bh_L (sE S k)).length = 5 := by rw [hbl, if_neg hl0]
      refine q_aload hX 0 d_Mo_putBlock_69 rfl (by first | rfl | assumption) ?_
      refine q_iload hX 2 d_Mo_putBlock_70 rfl (by first | rfl | assumption) ?_
      refine r_iconst (v := 1) hX d_Mo_putBlock_71 (by decide) ?_
      refine r_isub hX d_Mo_putBlock_72 ?_
      rw [nI_1m (by omega)]
      refine r_callV (as := [_]) hX d_Mo_putBlock_73 lk_Mo_243 hM.1 rfl rfl (Nat.le_of_ble_eq_true rfl) (by decide) 0 0 (Nat.le_refl _) (Nat.le_refl _) (c_Mo_putL (G := G) hM (c := c + (((vn_L ((sE S k).2.2.2 5).toInt64 1) ++ nm_L ((sE S k).2.2.2 6).toInt64 2) ++ [((if (sE S k).2.2.2 7 = 0 then 0 else 128) + 2 * (sE S k).2.2.2 8)]).length) rfl (by omega) (x := (sE S k).2.2.1.toInt32 - 1) (by rw [ham.1, lN_i, nI_1m (by omega)]; exact (nI_b (by omega)).symm)) (fun v w hq => ?_)
      obtain ⟨rfl, A1, hM, hs2, g2⟩ := hq
      have hs := hs.tr hs2
      rw [upd2, Nat.add_assoc, ← List.length_append] at hM
      have g := g.app g2
      refine r_iconst (v := 0) hX d_Mo_putBlock_76 (by decide) ?_
      refine q_istore hX 3 d_Mo_putBlock_77 rfl (by decide) ?_
      have hbe : (bh_L (sE S k)) = (((vn_L ((sE S k).2.2.2 5).toInt64 1) ++ nm_L ((sE S k).2.2.2 6).toInt64 2) ++ [((if (sE S k).2.2.2 7 = 0 then 0 else 128) + 2 * (sE S k).2.2.2 8)]) ++ [(sE S k).2.2.1.toInt32 - 1] := by rw [bh_L, hsv, if_neg hl0, List.append_assoc]; rfl
      exact loop1 ((D k).1 - 1) 0 A1 w _ (by omega) (by rw [hps0, List.append_nil, hbe]; exact hM) hs (by rw [hps0, List.append_nil, hbe]; exact g) l0 l1 l2 rfl
  have hM : is_M w (upd I 5 (nI (c + ([] : List Int32).length))) v0 A := by rw [show c + ([] : List Int32).length = c from rfl, upd_id hou]; exact hM
  have g : ou A A c [] := ou.rf
  refine q_aload hX 0 d_Mo_putBlock_0 rfl (by first | rfl | assumption) ?_
  refine r_getf hX d_Mo_putBlock_1 fl_Mo_20 hM.1 rfl ?_
  refine q_iload hX 1 d_Mo_putBlock_4 rfl (by first | rfl | assumption) ?_
  refine r_ialdm (c := 121) (x := nI (D k).1) hX d_Mo_putBlock_5 hM rfl rfl (by omega) q3 ?_
  refine q_istore hX 2 d_Mo_putBlock_6 rfl (by decide) ?_
  refine q_aload hX 0 d_Mo_putBlock_7 rfl (by first | rfl | assumption) ?_
  refine q_aload hX 0 d_Mo_putBlock_8 rfl (by first | rfl | assumption) ?_
  refine r_getf hX d_Mo_putBlock_9 fl_Mo_26 hM.1 rfl ?_
  refine q_iload hX 1 d_Mo_putBlock_12 rfl (by first | rfl | assumption) ?_
  refine r_ialdm (c := 123) (x := (sE S k).2.2.2 5) hX d_Mo_putBlock_13 hM rfl rfl (by omega) p1 ?_
  refine r_i2l hX d_Mo_putBlock_14 ?_
  refine r_iconst (v := 1) hX d_Mo_putBlock_15 (by decide) ?_
  refine r_callV (as := [_, _]) hX d_Mo_putBlock_16 lk_Mo_250 hM.1 rfl rfl (Nat.le_of_ble_eq_true rfl) (by decide) 0 0 (Nat.le_refl _) (Nat.le_refl _) (c_Mo_putVint (G := G) hM (c := c + ([] : List Int32).length) rfl _ 1 (by decide) (by show c + 0 + 1 ≤ 700; omega)) (fun v w hq => ?_)
  obtain ⟨rfl, A1, hM, hs2, g2⟩ := hq
  have hs := hs.tr hs2
  rw [upd2, Nat.add_assoc, ← List.length_append] at hM
  have g := g.app g2
  refine q_aload hX 0 d_Mo_putBlock_19 rfl (by first | rfl | assumption) ?_
  refine q_aload hX 0 d_Mo_putBlock_20 rfl (by first | rfl | assumption) ?_
  refine r_getf hX d_Mo_putBlock_21 fl_Mo_29 hM.1 rfl ?_
  refine q_iload hX 1 d_Mo_putBlock_24 rfl (by first | rfl | assumption) ?_
  refine r_ialdm (c := 124) (x := (sE S k).2.2.2 6) hX d_Mo_putBlock_25 hM rfl rfl (by omega) (by rw [g.2.2.1 124 (by decide)]; exact p2) ?_
  refine r_i2l hX d_Mo_putBlock_26 ?_
  refine r_iconst (v := 2) hX d_Mo_putBlock_27 (by decide) ?_
  refine r_callV (as := [_, _]) hX d_Mo_putBlock_28 lk_Mo_246 hM.1 rfl rfl (Nat.le_of_ble_eq_true rfl) (by decide) 0 0 (Nat.le_refl _) (Nat.le_refl _) (c_Mo_putBytes (G := G) hM (c := c + ([] ++ (vn_L ((sE S k).2.2.2 5).toInt64 1)).length) rfl _ 2 (by decide) (by rw [List.nil_append, vn_len]; omega)) (fun v w hq => ?_)
  obtain ⟨rfl, A1, hM, hs2, g2⟩ := hq
  have hs := hs.tr hs2
  rw [upd2, Nat.add_assoc, ← List.length_append] at hM
  have g := g.app g2
  refine q_aload hX 0 d_Mo_putBlock_31 rfl (by first | rfl | assumption) ?_
  refine q_aload hX 0 d_Mo_putBlock_32 rfl (by first | rfl | assumption) ?_
  refine r_getf hX d_Mo_putBlock_33 fl_Mo_32 hM.1 rfl ?_
  refine q_iload hX 1 d_Mo_putBlock_36 rfl (by first | rfl | assumption) ?_
  refine r_zaldm (c := 125) (x := (sE S k).2.2.2 7) hX d_Mo_putBlock_37 hM rfl rfl (by omega) (by rw [g.2.2.1 125 (by decide)]; exact p3) ?_
  refine r_if_eq hX 47 d_Mo_putBlock_38 (by decide) (fun c38 => ?_) (fun c38 => ?_)
  · refine r_iconst (v := 0) hX d_Mo_putBlock_47 (by decide) ?_
    refine r_iconst (v := 2) hX d_Mo_putBlock_48 (by decide) ?_
    refine q_aload hX 0 d_Mo_putBlock_49 rfl (by first | rfl | assumption) ?_
    refine r_getf hX d_Mo_putBlock_50 fl_Mo_36 hM.1 rfl ?_
    refine q_iload hX 1 d_Mo_putBlock_53 rfl (by first | rfl | assumption) ?_
    refine r_ialdm (c := 126) (x := ((sE S k).2.2.2 8)) hX d_Mo_putBlock_54 hM rfl rfl (by omega) (by rw [g.2.2.1 126 (by decide)]; exact h26) ?_
    refine r_imul hX d_Mo_putBlock_55 ?_
    refine r_iadd hX d_Mo_putBlock_56 ?_
    refine r_callV (as := [_]) hX d_Mo_putBlock_57 lk_Mo_243 hM.1 rfl rfl (Nat.le_of_ble_eq_true rfl) (by decide) 0 0 (Nat.le_refl _) (Nat.le_refl _) (c_Mo_putL (G := G) hM (c := c + (([] ++ (vn_L ((sE S k).2.2.2 5).toInt64 1)) ++ nm_L ((sE S k).2.2.2 6).toInt64 2).length) rfl (by rw [List.nil_append, List.length_append, vn_len, nm_len]; omega) (x := ((if (sE S k).2.2.2 7 = 0 then 0 else 128) + 2 * (sE S k).2.2.2 8)) (by rw [if_pos c38]; exact hfl.1)) (fun v w hq => ?_)
    obtain ⟨rfl, A1, hM, hs2, g2⟩ := hq
    have hs := hs.tr hs2
    rw [upd2, Nat.add_assoc, ← List.length_append] at hM
    have g := g.app g2
    rw [List.nil_append] at hM g
    exact go60 A1 w _ hM hs g rfl rfl rfl
  · refine r_sipush (v := 128) hX d_Mo_putBlock_41 (by decide) ?_
    refine r_goto hX 48 d_Mo_putBlock_44 (by decide) ?_
    refine r_iconst (v := 2) hX d_Mo_putBlock_48 (by decide) ?_
    refine q_aload hX 0 d_Mo_putBlock_49 rfl (by first | rfl | assumption) ?_
    refine r_getf hX d_Mo_putBlock_50 fl_Mo_36 hM.1 rfl ?_
    refine q_iload hX 1 d_Mo_putBlock_53 rfl (by first | rfl | assumption) ?_
    refine r_ialdm (c := 126) (x := ((sE S k).2.2.2 8)) hX d_Mo_putBlock_54 hM rfl rfl (by omega) (by rw [g.2.2.1 126 (by decide)]; exact h26) ?_
    refine r_imul hX d_Mo_putBlock_55 ?_
    refine r_iadd hX d_Mo_putBlock_56 ?_
    refine r_callV (as := [_]) hX d_Mo_putBlock_57 lk_Mo_243 hM.1 rfl rfl (Nat.le_of_ble_eq_true rfl) (by decide) 0 0 (Nat.le_refl _) (Nat.le_refl _) (c_Mo_putL (G := G) hM (c := c + (([] ++ (vn_L ((sE S k).2.2.2 5).toInt64 1)) ++ nm_L ((sE S k).2.2.2 6).toInt64 2).length) rfl (by rw [List.nil_append, List.length_append, vn_len, nm_len]; omega) (x := ((if (sE S k).2.2.2 7 = 0 then 0 else 128) + 2 * (sE S k).2.2.2 8)) (by rw [if_neg c38]; exact hfl.2)) (fun v w hq => ?_)
    obtain ⟨rfl, A1, hM, hs2, g2⟩ := hq
    have hs := hs.tr hs2
    rw [upd2, Nat.add_assoc, ← List.length_append] at hM
    have g := g.app g2
    rw [List.nil_append] at hM g
    exact go60 A1 w _ hM hs g rfl rfl rfl
