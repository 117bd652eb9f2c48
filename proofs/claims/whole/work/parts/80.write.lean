/-! ===== the reference: write ===== -/
theorem mdl.cg {I I' : Nat → Int32} {A A' : Ev_A} {S : Ev_S} {D : Nat → Ev_D} {sf : Nat → Int32} {sd : Nat} (hm : mdl I A S D sf sd) (i0 : I' 0 = I 0) (i1 : I' 1 = I 1) (h1 : ∀ q, q ∈ rw_l → A'.1 q = A.1 q) (h2 : A'.2 = A.2) : mdl I' A' S D sf sd := by
  obtain ⟨hc, hn, hu, hsd, hpo, hpl, hrow, hhp⟩ := hm
  refine ⟨i0.trans hc, hn, i1.trans hu, hsd, hpo, hpl, fun k hk => ?_, fun j hj => by rw [h1 129 (by decide)]; exact hhp j hj⟩
  obtain ⟨r1, r2, r3⟩ := hrow k hk
  refine ⟨r1, ?_, by rw [h1 119 (by decide)]; exact r3⟩
  unfold mq at r2 ⊢
  rw [h1 118 (by decide), h1 121 (by decide), h1 122 (by decide), h1 123 (by decide), h1 124 (by decide), h1 125 (by decide), h1 126 (by decide), h1 127 (by decide), h1 128 (by decide), h2]
  exact r2
/-- OUT has these bytes, the first k places where data begin are kept, all else is as it was -/
def wst (A1 A2 : Ev_A) (L : List Int32) (k : Nat) (pl : Nat → Nat) : Prop := (∀ q, q ≠ 133 → q ≠ 138 → A2.1 q = A1.1 q) ∧ A2.2 = A1.2 ∧ (∀ i, i < L.length → A2.1 133 i = L.getD i 0 &&& 255) ∧ ∀ c, c < k → A2.1 138 c = nI (pl c)
theorem wst.app {A1 A2 A3 : Ev_A} {L M : List Int32} {k : Nat} {pl : Nat → Nat} (h : wst A1 A2 L k pl) (g : ou A2 A3 L.length M) : wst A1 A3 (L ++ M) k pl := by
  obtain ⟨h1, h2, h3, h4⟩ := h
  obtain ⟨g1, g2, g3, g4⟩ := g
  refine ⟨fun q z1 z2 => (g3 q z1).trans (h1 q z1 z2), g4.trans h2, fun i hi => ?_, fun c hc => by rw [g3 138 (by decide)]; exact h4 c hc⟩
  rw [List.length_append] at hi
  by_cases z : i < L.length
  · rw [g1 i z, h3 i z, gdI_l z]
  · have := g2 (i - L.length) (by omega)
    rw [show L.length + (i - L.length) = i by omega] at this
    rw [this, gdI_r (by omega)]
theorem wst.bg {A1 A2 : Ev_A} {L : List Int32} {k : Nat} {pl : Nat → Nat} {x : Int32} (h : wst A1 A2 L k pl) (hx : x = nI (pl k)) : wst A1 (aset A2 138 k x) L (k + 1) pl := by
  obtain ⟨h1, h2, h3, h4⟩ := h
  refine ⟨fun q z1 z2 => by rw [aset_ne _ _ _ z2]; exact h1 q z1 z2, h2, fun i hi => by rw [aset_ne _ _ _ (by decide)]; exact h3 i hi, fun c hc => ?_⟩
  by_cases z : c = k
  · rw [z, aset_self, hx]
  · rw [aset_off _ _ _ _ _ _ (Or.inr z)]; exact h4 c (by omega)
theorem rw_nin {q : Nat} (h : q ∈ rw_l) : q ≠ 133 ∧ q ≠ 138 ∧ q ≠ 137 := by
  unfold rw_l at h; simp at h; omega
theorem fc_b {c : Nat} {p : Nat} {s : Int32} {f : Nat → Int32} (hc : c ≤ 640) (hf : ∀ x, x < c → f x &&& 255 = f x) : ∀ k, p + k ≤ c → ∀ x, x < c → fc_f 640 c (nI p) s k f x &&& 255 = fc_f 640 c (nI p) s k f x
  | 0, _, x, hx => hf x hx
  | k + 1, h, x, hx => by
    rw [fc_f, nI_add, ro_ch_get (by omega) hc]
    split
    · exact b255 _
    · exact fc_b hc hf k (by omega) x hx
theorem so_f10 : ∀ t, t < 17 → so_fits 14 (so_in t) = true → ¬ t = 1 ∧ so_fm t = 0 := by decide +kernel
set_option maxHeartbeats 4000000 in
theorem c_Mo_write {G : Ev_G} {w : Ev_W} {I : Nat → Int32} {v0 : Int64} {A : Ev_A} (hM : is_M w I v0 A) {S : Ev_S} {D : Nat → Ev_D} {sf : Nat → Int32} {sd : Nat} (hm : mdl I A S D sf sd) (live : Int32) (hby : ∀ j, j < sd → sf j &&& 255 = sf j) (hlt : ∀ k, k < sn S → so_fm (sE S k).1 = 2 → ∀ i, i < (D k).1 → sP S k i &&& 255 = sP S k i) (f0 : Nat → Int32) : ev_Met G M_Mo_write 5 0 0 [.ref 117, .int live] w (fun v w' => (640 < (wDS S D sf sd live).2 ∧ v = some (.int (-8)) ∧ ∃ A', is_M w' I v0 A' ∧ mo_sm w w' ∧ (∀ q, q ≠ 137 → A'.1 q = A.1 q) ∧ A'.2 = A.2) ∨ ((wDS S D sf sd live).2 ≤ 640 ∧ v = some (.int (nI (wL S D sf sd live (sn S)).length)) ∧ ∃ A', is_M w' (upd I 5 (nI (wL S D sf sd live (sn S)).length)) v0 A' ∧ mo_sm w w' ∧ (∀ q, q ≠ 133 → q ≠ 137 → q ≠ 138 → A'.1 q = A.1 q) ∧ A'.2 = A.2 ∧ ∀ x, x < (wL S D sf sd live (sn S)).length → A'.1 133 x = ck_go (wE S D sf sd live) (si S) (wL S D sf sd live (sn S)).length (wP S D sf sd live) (wDS S D sf sd live).1 (sn S) 0 (ro_bs 640 (wL S D sf sd live (sn S)) f0 0) x)) := by
  refine ev_Met.of md_Mo_write (Nat.le_of_ble_eq_true rfl) (fun X hX hR => ?_)
  obtain ⟨hc, hn, hu, hsd, hpo, hpl, hrow, hhp⟩ := id hm
  obtain ⟨w0, hw0⟩ : ∃ w0, w0 = w := ⟨_, rfl⟩
  refine q_aload hX 0 d_Mo_write_0 rfl (by first | rfl | assumption) ?_
  refine q_iload hX 1 d_Mo_write_1 rfl (by first | rfl | assumption) ?_
  refine r_callV (as := [_]) hX d_Mo_write_2 lk_Mo_256 hM.1 rfl rfl (Nat.le_of_ble_eq_true rfl) (by decide) 0 0 (Nat.le_refl _) (Nat.le_refl _) (c_Mo_measure (G := G) hM hm live) (fun v w hq => ?_)
  obtain ⟨rfl, A1, hM, hs, hA1, hA2, hda⟩ := hq
  rw [← hw0] at hs
  have hm1 : mdl I A1 S D sf sd := hm.but hA1 hA2
  have htt : suf (fun c => decide (si S c = none)) (chv S D sf sd live) (sn S) 0 = (wDS S D sf sd live).2 := by
    have h := (me_fix (sE S) (si S) live (sn S) (fun i => (lfS S D sf sd i).length) 0 hm.mlt).2
    rw [Nat.zero_add] at h
    exact h.symm
  have go93 : (wDS S D sf sd live).2 ≤ 640 → ∀ (ls : Ev_L), ls.1 0 = some (.ref 117) → ls.1 1 = some (.int live) → ev_W G M_Mo_write X 0 0 93 ls [] w := by
    intro htot ls0 m0 m1
    have hcl : (wDS S D sf sd live).2 = (wL S D sf sd live (sn S)).length := wr_D_t hn hm.lf hm.mlt
    have hmon := fun k (h : k ≤ sn S) => wL_mono (S := S) (D := D) (sf := sf) (sd := sd) live h
    have loop3 : ∀ (t k : Nat) (F : Nat → Int32) (A2 : Ev_A) (w1 : Ev_W) (ls : Ev_L), k + t = sn S → ck_go (wE S D sf sd live) (si S) (wL S D sf sd live (sn S)).length (wP S D sf sd live) (wDS S D sf sd live).1 t k F = ck_go (wE S D sf sd live) (si S) (wL S D sf sd live (sn S)).length (wP S D sf sd live) (wDS S D sf sd live).1 (sn S) 0 (ro_bs 640 (wL S D sf sd live (sn S)) f0 0) → is_M w1 (upd I 5 (nI (wL S D sf sd live (sn S)).length)) v0 A2 → mo_sm w0 w1 → (∀ q, q ≠ 133 → q ≠ 138 → A2.1 q = A1.1 q) → A2.2 = A1.2 → (∀ c, c < sn S → A2.1 138 c = nI (wP S D sf sd live c)) → (∀ x, x < (wL S D sf sd live (sn S)).length → A2.1 133 x = F x) → (∀ x, x < (wL S D sf sd live (sn S)).length → F x &&& 255 = F x) → ls.1 0 = some (.ref 117) → ls.1 3 = some (.int (nI k)) → ev_W G M_Mo_write X 0 0 191 ls [] w1 := by
      intro t
      induction t with
      | zero =>
        intro k F A2 w ls e1 e2 hM hs g1 g2 g3 g4 g5 l0 l3
        refine q_iload hX 3 d_Mo_write_191 rfl (by first | rfl | assumption) ?_
        refine q_aload hX 0 d_Mo_write_192 rfl (by first | rfl | assumption) ?_
        refine r_getm (J := 0) (x := nI (sn S)) hX d_Mo_write_193 fl_Mo_86 hM hc rfl ?_
        refine r_icmp_ge hX 222 d_Mo_write_196 (by decide) (fun _ => ?_) (fun c196 => absurd (nI_le (by omega) (by omega)) c196)
        refine q_aload hX 0 d_Mo_write_222 rfl (by first | rfl | assumption) ?_
        refine r_getm (J := 5) (x := nI (wL S D sf sd live (sn S)).length) hX d_Mo_write_223 fl_Mo_112 hM rfl rfl ?_
        refine r_iret hX hR d_Mo_write_226 rfl (by first | rfl | assumption) ?_
        exact Or.inr ⟨htot, rfl, A2, hM, hw0 ▸ hs, fun q z1 z2 z3 => (g1 q z1 z3).trans (hA1 q z2), g2.trans hA2, fun x hx => by rw [← e2]; exact g4 x hx⟩
      | succ t ih =>
        intro k F A2 w ls e1 e2 hM hs g1 g2 g3 g4 g5 l0 l3
        have hk : k < sn S := by omega
        refine q_iload hX 3 d_Mo_write_191 rfl (by first | rfl | assumption) ?_
        refine q_aload hX 0 d_Mo_write_192 rfl (by first | rfl | assumption) ?_
        refine r_getm (J := 0) (x := nI (sn S)) hX d_Mo_write_193 fl_Mo_86 hM hc rfl ?_
        refine r_icmp_ge hX 222 d_Mo_write_196 (by decide) (fun c196 => absurd c196 (nI_ge (by omega) (by omega))) (fun _ => ?_)
        refine q_aload hX 0 d_Mo_write_199 rfl (by first | rfl | assumption) ?_
        refine r_getf hX d_Mo_write_200 fl_Mo_7 hM.1 rfl ?_
        refine q_iload hX 3 d_Mo_write_203 rfl (by first | rfl | assumption) ?_
        refine r_ialdm (c := 118) (x := (sE S k).2.2.2 0) hX d_Mo_write_204 hM rfl rfl (by omega) (by rw [g1 118 (by decide) (by decide), hA1 118 (by decide)]; exact (hrow k hk).2.1.1) ?_
        refine r_sipush (v := 191) hX d_Mo_write_205 (by decide) ?_
        refine r_icmp_ne hX 216 d_Mo_write_208 (by decide) (fun c208 => ?_) (fun c208 => ?_)
        · refine r_iinc hX d_Mo_write_216 (by first | rfl | assumption) ?_
          refine r_goto hX 191 d_Mo_write_219 (by decide) ?_
          have h14 : ¬ (sE S k).1 = 14 := fun z => c208 ((tg_iff (s := 14) (by decide)).mpr (by rw [← (hrow k hk).1.1]; exact z))
          exact ih (k + 1) F A2 w _ (by omega) (by rw [← e2, ck_go, if_neg (by rw [(show (wE S D sf sd live k).1 = (sE S k).1 from by rw [wE, ds_E, if_pos hk]; rfl)]; exact h14)]) hM hs g1 g2 g3 g4 g5 l0 (by show some (Value.int (nI k + Int32.ofInt 1)) = _; rw [show Int32.ofInt 1 = 1 from rfl, nI_1])
        · refine q_aload hX 0 d_Mo_write_211 rfl (by first | rfl | assumption) ?_
          refine q_iload hX 3 d_Mo_write_212 rfl (by first | rfl | assumption) ?_
          have h14 : (sE S k).1 = 14 := by rw [(hrow k hk).1.1]; exact ((tg_iff (s := 14) (by decide)).mp c208)
          have hfs : (hpl k hk).1 = (hpl k hk).1 := rfl
          obtain ⟨j, hmi⟩ : ∃ j, si S k = some j := by
            cases hz : si S k with
            | none => have := (hpl k hk).2.1 hz; rw [h14] at this; exact absurd this (by decide)
            | some j => exact ⟨j, rfl⟩
          have hjk := hm.mlt k j hk hmi
          have hfit := (hpl k hk).2.2 j hmi
          rw [h14] at hfit
          have hj10 := so_f10 _ (hpl j (by omega)).1 hfit
          have hend := wL_end hm live (show j < sn S by omega) hj10.1 hj10.2
          have hin := mi_in1 hn hpo hk hmi
          have hte := (tr_end_spec hn hpo (show j < sn S by omega)).2.1
          have hm1' := hmon (tr_end (el_lev (sE S)) (sn S) j) hte
          have hm2' := wL_mono (S := S) (D := D) (sf := sf) (sd := sd) live (show k + 1 ≤ tr_end (el_lev (sE S)) (sn S) j by omega)
          have hlk := wL_len hm live hk
          have hl4 : (lfS S D sf sd k).length = 4 := by
            have hf4 : so_fm (sE S k).1 = 4 := by rw [h14]; rfl
            rw [lfS, lf_L, if_neg (by rw [hf4]; decide), if_neg (by rw [hf4]; decide), if_neg (by rw [hf4]; decide), if_pos hf4]; rfl
          refine r_callV (as := [_]) hX d_Mo_write_213 lk_Mo_263 hM.1 rfl rfl (Nat.le_of_ble_eq_true rfl) (by decide) 0 0 (Nat.le_refl _) (Nat.le_refl _) (c_Mo_fillSum (G := G) hM (k := k) (j := j) (pk := wP S D sf sd live k) (pj := wP S D sf sd live j) (dj := (wDS S D sf sd live).1 j) (c := (wL S D sf sd live (sn S)).length) (f := F) (by omega) (by omega) (by rw [g1 119 (by decide) (by decide), hA1 119 (by decide), (hrow k hk).2.2, hmi]; rfl) (g3 k hk) (g3 j (by omega)) (by rw [g1 137 (by decide) (by decide)]; exact hda j (by omega)) (by omega) (by omega) (by omega) (by omega) g4 g5) (fun v w hq => ?_)
          obtain ⟨rfl, A3, hM, hs2, k1, k2, k3⟩ := hq
          have hs := hs.tr hs2
          refine r_iinc hX d_Mo_write_216 (by first | rfl | assumption) ?_
          refine r_goto hX 191 d_Mo_write_219 (by decide) ?_
          exact ih (k + 1) (ck_1 (wL S D sf sd live (sn S)).length (wP S D sf sd live) (wDS S D sf sd live).1 j k F) A3 w _ (by omega) (by rw [← e2, ck_go, if_pos (by rw [(show (wE S D sf sd live k).1 = (sE S k).1 from by rw [wE, ds_E, if_pos hk]; rfl)]; exact h14), hmi]; rfl) hM hs (fun q z1 z2 => by rw [k1 q z1]; exact g1 q z1 z2) (by rw [k2]; exact g2) (fun c hc => by rw [k1 138 (by decide)]; exact g3 c hc) k3 (fun x hx => fc_b (by omega) g5 4 (by omega) x hx) l0 (by show some (Value.int (nI k + Int32.ofInt 1)) = _; rw [show Int32.ofInt 1 = 1 from rfl, nI_1])
    have loop2 : ∀ (t k : Nat) (A2 : Ev_A) (w1 : Ev_W) (ls : Ev_L), k + t = sn S → is_M w1 (upd I 5 (nI (wL S D sf sd live k).length)) v0 A2 → mo_sm w0 w1 → wst A1 A2 (wL S D sf sd live k) k (wP S D sf sd live) → ls.1 0 = some (.ref 117) → ls.1 1 = some (.int live) → ls.1 3 = some (.int (nI k)) → ev_W G M_Mo_write X 0 0 100 ls [] w1 := by
      intro t
      induction t with
      | zero =>
        intro k A2 w ls e1 hM hs g l0 l1 l3
        have e1 : k = sn S := e1
        subst e1
        refine q_iload hX 3 d_Mo_write_100 rfl (by first | rfl | assumption) ?_
        refine q_aload hX 0 d_Mo_write_101 rfl (by first | rfl | assumption) ?_
        refine r_getm (J := 0) (x := nI (sn S)) hX d_Mo_write_102 fl_Mo_86 hM hc rfl ?_
        refine r_icmp_ge hX 189 d_Mo_write_105 (by decide) (fun _ => ?_) (fun c105 => absurd (nI_le (Nat.le_refl _) (by omega)) c105)
        refine r_iconst (v := 0) hX d_Mo_write_189 (by decide) ?_
        refine q_istore hX 3 d_Mo_write_190 rfl (by decide) ?_
        exact loop3 (sn S) 0 (ro_bs 640 (wL S D sf sd live (sn S)) f0 0) A2 w _ (by omega) rfl hM hs g.1 g.2.1 (fun c hc => g.2.2.2 c hc) (fun x hx => by rw [g.2.2.1 x hx, ((bs_get 640 _ f0 0 x (by omega)).2 (Nat.zero_le _) (by omega)), Nat.sub_zero]) (fun x hx => by rw [((bs_get 640 _ f0 0 x (by omega)).2 (Nat.zero_le _) (by omega))]; exact b255 _) l0 rfl
      | succ t ih =>
        intro k A2 w ls e1 hM hs g l0 l1 l3
        have hk : k < sn S := by omega
        obtain ⟨x, hx, htx⟩ := tg_nI hm hk
        have hwb := hm.wb live k hk
        have hnl := wL_len hm live hk
        have hmk := hmon (k + 1) (by omega)
        have hfb := wr_fb_le (lN x) 7 1
        have hsv := wr_sv_le (lN ((wDS S D sf sd live).1 k)) 7 1
        have hwpl : wP S D sf sd live k = (wL S D sf sd live k).length + (hd_L (wE S D sf sd live k) live).length := rfl
        have hhd : hd_L (wE S D sf sd live k) live = (nm_L (lN x) (wr_fb (lN x) 7 1)) ++ (if wr_op (sE S k).1 live = true then [255] else vn_L (lN ((wDS S D sf sd live).1 k)) (wr_sv (lN ((wDS S D sf sd live).1 k)) 7 1)) := by
          rw [show wE S D sf sd live k = el_ds (sE S k) (nI ((wDS S D sf sd live).1 k)) from by rw [wE, ds_E, if_pos hk], hd_L]
          show nm_L ((sE S k).2.2.2 0).toInt64 (wr_fb ((sE S k).2.2.2 0).toInt64 7 1) ++ (if wr_op (sE S k).1 live = true then [255] else vn_L (nI ((wDS S D sf sd live).1 k)).toInt64 (wr_sv (nI ((wDS S D sf sd live).1 k)).toInt64 7 1)) = _
          rw [htx, nI_l hx, nI_l (show (wDS S D sf sd live).1 k < 2 ^ 31 by omega)]
        have hhl := congrArg List.length hhd
        rw [List.length_append, nm_len] at hhl
        cases hop : wr_op (sE S k).1 live with
        | true =>
          rw [if_pos hop] at hhl
          have hhl : (hd_L (wE S D sf sd live k) live).length = wr_fb (lN x) 7 1 + 1 := hhl
          refine q_iload hX 3 d_Mo_write_100 rfl (by first | rfl | assumption) ?_
          refine q_aload hX 0 d_Mo_write_101 rfl (by first | rfl | assumption) ?_
          refine r_getm (J := 0) (x := nI (sn S)) hX d_Mo_write_102 fl_Mo_86 hM hc rfl ?_
          refine r_icmp_ge hX 189 d_Mo_write_105 (by decide) (fun c105 => absurd c105 (nI_ge (by omega) (by omega))) (fun _ => ?_)
          refine q_aload hX 0 d_Mo_write_108 rfl (by first | rfl | assumption) ?_
          refine q_aload hX 0 d_Mo_write_109 rfl (by first | rfl | assumption) ?_
          refine r_getf hX d_Mo_write_110 fl_Mo_7 hM.1 rfl ?_
          refine q_iload hX 3 d_Mo_write_113 rfl (by first | rfl | assumption) ?_
          refine r_ialdm (c := 118) (x := nI x) hX d_Mo_write_114 hM rfl rfl (by omega) (by rw [g.1 118 (by decide) (by decide), hA1 118 (by decide), (hrow k hk).2.1.1, htx]) ?_
          refine r_i2l hX d_Mo_write_115 ?_
          rw [nI_l hx]
          refine q_aload hX 0 d_Mo_write_116 rfl (by first | rfl | assumption) ?_
          refine r_getf hX d_Mo_write_117 fl_Mo_7 hM.1 rfl ?_
          refine q_iload hX 3 d_Mo_write_120 rfl (by first | rfl | assumption) ?_
          refine r_ialdm (c := 118) (x := nI x) hX d_Mo_write_121 hM rfl rfl (by omega) (by rw [g.1 118 (by decide) (by decide), hA1 118 (by decide), (hrow k hk).2.1.1, htx]) ?_
          refine r_callS (as := [_]) hX d_Mo_write_122 lk_Mo_236 rfl (Nat.le_of_ble_eq_true rfl) (by decide) 0 0 (Nat.le_refl _) (Nat.le_refl _) (c_Mo_idWidth (G := G) x hx) (fun v w1 hq => ?_)
          obtain ⟨rfl, hw⟩ := hq
          rw [hw]
          refine r_callV (as := [_, _]) hX d_Mo_write_125 lk_Mo_246 hM.1 rfl rfl (Nat.le_of_ble_eq_true rfl) (by decide) 0 0 (Nat.le_refl _) (Nat.le_refl _) (c_Mo_putBytes (G := G) hM (c := (wL S D sf sd live k).length) rfl (lN x) (wr_fb (lN x) 7 1) (by omega) (by omega)) (fun v w hq => ?_)
          obtain ⟨rfl, A3, hM, hs2, g2⟩ := hq
          have hs := hs.tr hs2
          rw [upd2, ← List.length_append] at hM
          have g := g.app g2
          have hm3 : mdl (upd I 5 (nI ((wL S D sf sd live k) ++ (nm_L (lN x) (wr_fb (lN x) 7 1))).length)) A3 S D sf sd := hm.cg rfl rfl (fun q hq => by have h := rw_nin hq; rw [g.1 q h.1 h.2.1, hA1 q h.2.2]) (by rw [g.2.1, hA2])
          refine q_aload hX 0 d_Mo_write_128 rfl (by first | rfl | assumption) ?_
          refine q_iload hX 3 d_Mo_write_129 rfl (by first | rfl | assumption) ?_
          refine q_iload hX 1 d_Mo_write_130 rfl (by first | rfl | assumption) ?_
          refine r_callV (as := [_, _]) hX d_Mo_write_131 lk_Mo_239 hM.1 rfl rfl (Nat.le_of_ble_eq_true rfl) (by decide) 0 0 (Nat.le_refl _) (Nat.le_refl _) (c_Mo_isLive (G := G) hM hm3 (j := k) hk live) (fun v w1 hq => ?_)
          obtain ⟨rfl, hw⟩ := hq
          rw [hw, hop]
          refine r_if_eq hX 147 d_Mo_write_134 (by decide) (fun c134 => absurd c134 (by decide)) (fun _ => ?_)
          refine q_aload hX 0 d_Mo_write_137 rfl (by first | rfl | assumption) ?_
          refine r_sipush (v := 255) hX d_Mo_write_138 (by decide) ?_
          refine r_callV (as := [_]) hX d_Mo_write_141 lk_Mo_243 hM.1 rfl rfl (Nat.le_of_ble_eq_true rfl) (by decide) 0 0 (Nat.le_refl _) (Nat.le_refl _) (c_Mo_putL (G := G) hM (c := ((wL S D sf sd live k) ++ (nm_L (lN x) (wr_fb (lN x) 7 1))).length) rfl (by rw [List.length_append, nm_len]; omega) (x := 255) (by decide)) (fun v w hq => ?_)
          obtain ⟨rfl, A4, hM, hs2, g2⟩ := hq
          have hs := hs.tr hs2
          rw [upd2, ← List.length_append] at hM
          have g := g.app g2
          refine r_goto hX 168 d_Mo_write_144 (by decide) ?_
          refine q_aload hX 0 d_Mo_write_168 rfl (by first | rfl | assumption) ?_
          refine r_getf hX d_Mo_write_169 fl_Mo_76 hM.1 rfl ?_
          refine q_iload hX 3 d_Mo_write_172 rfl (by first | rfl | assumption) ?_
          refine q_aload hX 0 d_Mo_write_173 rfl (by first | rfl | assumption) ?_
          refine r_getm (J := 5) (x := nI (((wL S D sf sd live k) ++ (nm_L (lN x) (wr_fb (lN x) 7 1))) ++ [255]).length) hX d_Mo_write_174 fl_Mo_112 hM rfl rfl ?_
          refine r_iastm (c := 138) hX d_Mo_write_177 hM hs rfl rfl (by omega) (fun w hM hs => ?_)
          refine q_aload hX 0 d_Mo_write_178 rfl (by first | rfl | assumption) ?_
          refine q_iload hX 3 d_Mo_write_179 rfl (by first | rfl | assumption) ?_
          have hlk : (((wL S D sf sd live k) ++ (nm_L (lN x) (wr_fb (lN x) 7 1))) ++ [255]).length = wP S D sf sd live k := by
            show _ = _ + _
            rw [hhd, if_pos hop, List.length_append, List.length_append, List.length_append, Nat.add_assoc]
          have g := g.bg (x := nI (((wL S D sf sd live k) ++ (nm_L (lN x) (wr_fb (lN x) 7 1))) ++ [255]).length) (by rw [hlk])
          have hm4 : mdl (upd I 5 (nI (((wL S D sf sd live k) ++ (nm_L (lN x) (wr_fb (lN x) 7 1))) ++ [255]).length)) (aset A4 138 k (nI (((wL S D sf sd live k) ++ (nm_L (lN x) (wr_fb (lN x) 7 1))) ++ [255]).length)) S D sf sd := hm.cg rfl rfl (fun q hq => by have h := rw_nin hq; rw [g.1 q h.1 h.2.1, hA1 q h.2.2]) (by rw [g.2.1, hA2])
          have hda4 : (aset A4 138 k (nI (((wL S D sf sd live k) ++ (nm_L (lN x) (wr_fb (lN x) 7 1))) ++ [255]).length)).1 137 k = nI ((wDS S D sf sd live).1 k) := by rw [g.1 137 (by decide) (by decide)]; exact hda k hk
          refine r_callV (as := [_]) hX d_Mo_write_180 lk_Mo_260 hM.1 rfl rfl (Nat.le_of_ble_eq_true rfl) (by decide) 0 0 (Nat.le_refl _) (Nat.le_refl _) (c_Mo_putData (G := G) hM hm4 hk (c := (((wL S D sf sd live k) ++ (nm_L (lN x) (wr_fb (lN x) 7 1))) ++ [255]).length) rfl (by show _ + (lfS S D sf sd k).length ≤ 700; rw [hlk]; omega) hby (hlt k hk) (by by_cases hf : so_fm (sE S k).1 = 0; exact Or.inr hf; exact Or.inl (by rw [hda4, wD_leaf hm live hk hf]; rfl))) (fun v w hq => ?_)
          obtain ⟨rfl, A5, hM, hs2, g2⟩ := hq
          have hs := hs.tr hs2
          rw [upd2, ← List.length_append] at hM
          have g := g.app g2
          have hnx : (((wL S D sf sd live k) ++ (nm_L (lN x) (wr_fb (lN x) 7 1))) ++ [255]) ++ lfS S D sf sd k = wL S D sf sd live (k + 1) := by
            show _ = wt_L _ _ _ _ _ _ _ _ _ ++ wt_1 _ _ _ _ _ _ _ _ _
            rw [wt_1, wL_lf live hk, hhd, if_pos hop, List.append_assoc, List.append_assoc, List.append_assoc]
          refine r_iinc hX d_Mo_write_183 (by first | rfl | assumption) ?_
          refine r_goto hX 100 d_Mo_write_186 (by decide) ?_
          exact ih (k + 1) A5 w _ (by omega) (by rw [← hnx]; exact hM) hs (by rw [← hnx]; exact g) l0 l1 (by show some (Value.int (nI k + Int32.ofInt 1)) = _; rw [show Int32.ofInt 1 = 1 from rfl, nI_1])
        | false =>
          rw [if_neg (by rw [hop]; decide), vn_len] at hhl
          refine q_iload hX 3 d_Mo_write_100 rfl (by first | rfl | assumption) ?_
          refine q_aload hX 0 d_Mo_write_101 rfl (by first | rfl | assumption) ?_
          refine r_getm (J := 0) (x := nI (sn S)) hX d_Mo_write_102 fl_Mo_86 hM hc rfl ?_
          refine r_icmp_ge hX 189 d_Mo_write_105 (by decide) (fun c105 => absurd c105 (nI_ge (by omega) (by omega))) (fun _ => ?_)
          refine q_aload hX 0 d_Mo_write_108 rfl (by first | rfl | assumption) ?_
          refine q_aload hX 0 d_Mo_write_109 rfl (by first | rfl | assumption) ?_
          refine r_getf hX d_Mo_write_110 fl_Mo_7 hM.1 rfl ?_
          refine q_iload hX 3 d_Mo_write_113 rfl (by first | rfl | assumption) ?_
          refine r_ialdm (c := 118) (x := nI x) hX d_Mo_write_114 hM rfl rfl (by omega) (by rw [g.1 118 (by decide) (by decide), hA1 118 (by decide), (hrow k hk).2.1.1, htx]) ?_
          refine r_i2l hX d_Mo_write_115 ?_
          rw [nI_l hx]
          refine q_aload hX 0 d_Mo_write_116 rfl (by first | rfl | assumption) ?_
          refine r_getf hX d_Mo_write_117 fl_Mo_7 hM.1 rfl ?_
          refine q_iload hX 3 d_Mo_write_120 rfl (by first | rfl | assumption) ?_
          refine r_ialdm (c := 118) (x := nI x) hX d_Mo_write_121 hM rfl rfl (by omega) (by rw [g.1 118 (by decide) (by decide), hA1 118 (by decide), (hrow k hk).2.1.1, htx]) ?_
          refine r_callS (as := [_]) hX d_Mo_write_122 lk_Mo_236 rfl (Nat.le_of_ble_eq_true rfl) (by decide) 0 0 (Nat.le_refl _) (Nat.le_refl _) (c_Mo_idWidth (G := G) x hx) (fun v w1 hq => ?_)
          obtain ⟨rfl, hw⟩ := hq
          rw [hw]
          refine r_callV (as := [_, _]) hX d_Mo_write_125 lk_Mo_246 hM.1 rfl rfl (Nat.le_of_ble_eq_true rfl) (by decide) 0 0 (Nat.le_refl _) (Nat.le_refl _) (c_Mo_putBytes (G := G) hM (c := (wL S D sf sd live k).length) rfl (lN x) (wr_fb (lN x) 7 1) (by omega) (by omega)) (fun v w hq => ?_)
          obtain ⟨rfl, A3, hM, hs2, g2⟩ := hq
          have hs := hs.tr hs2
          rw [upd2, ← List.length_append] at hM
          have g := g.app g2
          have hm3 : mdl (upd I 5 (nI ((wL S D sf sd live k) ++ (nm_L (lN x) (wr_fb (lN x) 7 1))).length)) A3 S D sf sd := hm.cg rfl rfl (fun q hq => by have h := rw_nin hq; rw [g.1 q h.1 h.2.1, hA1 q h.2.2]) (by rw [g.2.1, hA2])
          refine q_aload hX 0 d_Mo_write_128 rfl (by first | rfl | assumption) ?_
          refine q_iload hX 3 d_Mo_write_129 rfl (by first | rfl | assumption) ?_
          refine q_iload hX 1 d_Mo_write_130 rfl (by first | rfl | assumption) ?_
          refine r_callV (as := [_, _]) hX d_Mo_write_131 lk_Mo_239 hM.1 rfl rfl (Nat.le_of_ble_eq_true rfl) (by decide) 0 0 (Nat.le_refl _) (Nat.le_refl _) (c_Mo_isLive (G := G) hM hm3 (j := k) hk live) (fun v w1 hq => ?_)
          obtain ⟨rfl, hw⟩ := hq
          rw [hw, hop]
          refine r_if_eq hX 147 d_Mo_write_134 (by decide) (fun _ => ?_) (fun c134 => absurd rfl c134)
          refine q_aload hX 0 d_Mo_write_147 rfl (by first | rfl | assumption) ?_
          refine q_aload hX 0 d_Mo_write_148 rfl (by first | rfl | assumption) ?_
          refine r_getf hX d_Mo_write_149 fl_Mo_73 hM.1 rfl ?_
          refine q_iload hX 3 d_Mo_write_152 rfl (by first | rfl | assumption) ?_
          refine r_ialdm (c := 137) (x := nI ((wDS S D sf sd live).1 k)) hX d_Mo_write_153 hM rfl rfl (by omega) (by rw [g.1 137 (by decide) (by decide)]; exact hda k hk) ?_
          refine r_i2l hX d_Mo_write_154 ?_
          rw [nI_l (by omega)]
          refine q_aload hX 0 d_Mo_write_155 rfl (by first | rfl | assumption) ?_
          refine r_getf hX d_Mo_write_156 fl_Mo_73 hM.1 rfl ?_
          refine q_iload hX 3 d_Mo_write_159 rfl (by first | rfl | assumption) ?_
          refine r_ialdm (c := 137) (x := nI ((wDS S D sf sd live).1 k)) hX d_Mo_write_160 hM rfl rfl (by omega) (by rw [g.1 137 (by decide) (by decide)]; exact hda k hk) ?_
          refine r_i2l hX d_Mo_write_161 ?_
          rw [nI_l (by omega)]
          refine r_callS (as := [_]) hX d_Mo_write_162 lk_Mo_223 rfl (Nat.le_of_ble_eq_true rfl) (by decide) 0 0 (Nat.le_refl _) (Nat.le_refl _) (c_Mo_widthFor (G := G) ((wDS S D sf sd live).1 k) (by omega)) (fun v w1 hq => ?_)
          obtain ⟨rfl, hw⟩ := hq
          rw [hw]
          refine r_callV (as := [_, _]) hX d_Mo_write_165 lk_Mo_250 hM.1 rfl rfl (Nat.le_of_ble_eq_true rfl) (by decide) 0 0 (Nat.le_refl _) (Nat.le_refl _) (c_Mo_putVint (G := G) hM (c := ((wL S D sf sd live k) ++ (nm_L (lN x) (wr_fb (lN x) 7 1))).length) rfl (lN ((wDS S D sf sd live).1 k)) (wr_sv (lN ((wDS S D sf sd live).1 k)) 7 1) (by omega) (by rw [List.length_append, nm_len]; omega)) (fun v w hq => ?_)
          obtain ⟨rfl, A4, hM, hs2, g2⟩ := hq
          have hs := hs.tr hs2
          rw [upd2, ← List.length_append] at hM
          have g := g.app g2
          refine q_aload hX 0 d_Mo_write_168 rfl (by first | rfl | assumption) ?_
          refine r_getf hX d_Mo_write_169 fl_Mo_76 hM.1 rfl ?_
          refine q_iload hX 3 d_Mo_write_172 rfl (by first | rfl | assumption) ?_
          refine q_aload hX 0 d_Mo_write_173 rfl (by first | rfl | assumption) ?_
          refine r_getm (J := 5) (x := nI (((wL S D sf sd live k) ++ (nm_L (lN x) (wr_fb (lN x) 7 1))) ++ (vn_L (lN ((wDS S D sf sd live).1 k)) (wr_sv (lN ((wDS S D sf sd live).1 k)) 7 1))).length) hX d_Mo_write_174 fl_Mo_112 hM rfl rfl ?_
          refine r_iastm (c := 138) hX d_Mo_write_177 hM hs rfl rfl (by omega) (fun w hM hs => ?_)
          refine q_aload hX 0 d_Mo_write_178 rfl (by first | rfl | assumption) ?_
          refine q_iload hX 3 d_Mo_write_179 rfl (by first | rfl | assumption) ?_
          have hlk : (((wL S D sf sd live k) ++ (nm_L (lN x) (wr_fb (lN x) 7 1))) ++ (vn_L (lN ((wDS S D sf sd live).1 k)) (wr_sv (lN ((wDS S D sf sd live).1 k)) 7 1))).length = wP S D sf sd live k := by
            show _ = _ + _
            rw [hhd, if_neg (by rw [hop]; decide), List.length_append, List.length_append, List.length_append, Nat.add_assoc]
          have g := g.bg (x := nI (((wL S D sf sd live k) ++ (nm_L (lN x) (wr_fb (lN x) 7 1))) ++ (vn_L (lN ((wDS S D sf sd live).1 k)) (wr_sv (lN ((wDS S D sf sd live).1 k)) 7 1))).length) (by rw [hlk])
          have hm4 : mdl (upd I 5 (nI (((wL S D sf sd live k) ++ (nm_L (lN x) (wr_fb (lN x) 7 1))) ++ (vn_L (lN ((wDS S D sf sd live).1 k)) (wr_sv (lN ((wDS S D sf sd live).1 k)) 7 1))).length)) (aset A4 138 k (nI (((wL S D sf sd live k) ++ (nm_L (lN x) (wr_fb (lN x) 7 1))) ++ (vn_L (lN ((wDS S D sf sd live).1 k)) (wr_sv (lN ((wDS S D sf sd live).1 k)) 7 1))).length)) S D sf sd := hm.cg rfl rfl (fun q hq => by have h := rw_nin hq; rw [g.1 q h.1 h.2.1, hA1 q h.2.2]) (by rw [g.2.1, hA2])
          have hda4 : (aset A4 138 k (nI (((wL S D sf sd live k) ++ (nm_L (lN x) (wr_fb (lN x) 7 1))) ++ (vn_L (lN ((wDS S D sf sd live).1 k)) (wr_sv (lN ((wDS S D sf sd live).1 k)) 7 1))).length)).1 137 k = nI ((wDS S D sf sd live).1 k) := by rw [g.1 137 (by decide) (by decide)]; exact hda k hk
          refine r_callV (as := [_]) hX d_Mo_write_180 lk_Mo_260 hM.1 rfl rfl (Nat.le_of_ble_eq_true rfl) (by decide) 0 0 (Nat.le_refl _) (Nat.le_refl _) (c_Mo_putData (G := G) hM hm4 hk (c := (((wL S D sf sd live k) ++ (nm_L (lN x) (wr_fb (lN x) 7 1))) ++ (vn_L (lN ((wDS S D sf sd live).1 k)) (wr_sv (lN ((wDS S D sf sd live).1 k)) 7 1))).length) rfl (by show _ + (lfS S D sf sd k).length ≤ 700; rw [hlk]; omega) hby (hlt k hk) (by by_cases hf : so_fm (sE S k).1 = 0; exact Or.inr hf; exact Or.inl (by rw [hda4, wD_leaf hm live hk hf]; rfl))) (fun v w hq => ?_)
          obtain ⟨rfl, A5, hM, hs2, g2⟩ := hq
          have hs := hs.tr hs2
          rw [upd2, ← List.length_append] at hM
          have g := g.app g2
          have hnx : (((wL S D sf sd live k) ++ (nm_L (lN x) (wr_fb (lN x) 7 1))) ++ (vn_L (lN ((wDS S D sf sd live).1 k)) (wr_sv (lN ((wDS S D sf sd live).1 k)) 7 1))) ++ lfS S D sf sd k = wL S D sf sd live (k + 1) := by
            show _ = wt_L _ _ _ _ _ _ _ _ _ ++ wt_1 _ _ _ _ _ _ _ _ _
            rw [wt_1, wL_lf live hk, hhd, if_neg (by rw [hop]; decide), List.append_assoc, List.append_assoc, List.append_assoc]
          refine r_iinc hX d_Mo_write_183 (by first | rfl | assumption) ?_
          refine r_goto hX 100 d_Mo_write_186 (by decide) ?_
          exact ih (k + 1) A5 w _ (by omega) (by rw [← hnx]; exact hM) hs (by rw [← hnx]; exact g) l0 l1 (by show some (Value.int (nI k + Int32.ofInt 1)) = _; rw [show Int32.ofInt 1 = 1 from rfl, nI_1])
    refine q_aload hX 0 d_Mo_write_93 rfl (by first | assumption | rfl) ?_
    refine r_iconst (v := 0) hX d_Mo_write_94 (by decide) ?_
    refine r_putm (J := 5) hX d_Mo_write_95 fp_Mo_112 hM hs rfl rfl (Nat.le_of_ble_eq_true rfl) rfl (fun w hM hs => ?_)
    refine r_iconst (v := 0) hX d_Mo_write_98 (by decide) ?_
    refine q_istore hX 3 d_Mo_write_99 rfl (by decide) ?_
    exact loop2 (sn S) 0 A1 w _ (by omega) hM hs ⟨fun _ _ _ => rfl, rfl, fun i hi => absurd hi (Nat.not_lt_zero _), fun c hc => absurd hc (Nat.not_lt_zero _)⟩ m0 m1 rfl
  have loop1 : ∀ (t i acc : Nat) (ls : Ev_L), i + t = sn S → acc ≤ i * 85000 → acc + suf (fun c => decide (si S c = none)) (chv S D sf sd live) t i = (wDS S D sf sd live).2 → ls.1 0 = some (.ref 117) → ls.1 1 = some (.int live) → ls.1 2 = some (.int (nI acc)) → ls.1 3 = some (.int (nI i)) → ev_W G M_Mo_write X 0 0 9 ls [] w := by
    intro t
    induction t with
    | zero =>
      intro i acc ls e1 hac e2 l0 l1 l2 l3
      have e2 : acc = (wDS S D sf sd live).2 := e2
      have hac : acc < 2 ^ 31 := by omega
      refine q_iload hX 3 d_Mo_write_9 rfl (by first | rfl | assumption) ?_
      refine q_aload hX 0 d_Mo_write_10 rfl (by first | rfl | assumption) ?_
      refine r_getm (J := 0) (x := nI (sn S)) hX d_Mo_write_11 fl_Mo_86 hM hc rfl ?_
      refine r_icmp_ge hX 83 d_Mo_write_14 (by decide) (fun _ => ?_) (fun c14 => absurd (nI_le (by omega) (by omega)) c14)
      refine q_iload hX 2 d_Mo_write_83 rfl (by first | rfl | assumption) ?_
      refine r_sipush (v := 640) hX d_Mo_write_84 (by decide) ?_
      refine r_icmp_le hX 93 d_Mo_write_87 (by decide) (fun c87 => ?_) (fun c87 => ?_)
      · exact go93 (by rw [← e2]; exact (nI_leI (b := 640) hac (by decide)).mp c87) _ l0 l1
      · refine r_bipush (v := -8) hX d_Mo_write_90 (by decide) ?_
        refine r_iret hX hR d_Mo_write_92 rfl (by first | rfl | assumption) ?_
        exact Or.inl ⟨by rw [← e2]; exact Nat.lt_of_not_le (fun z => c87 (nI_le (b := 640) z (by decide))), rfl, A1, hM, hw0 ▸ hs, hA1, hA2⟩
    | succ t ih =>
      intro i acc ls e1 hac e2 l0 l1 l2 l3
      obtain ⟨x, hx, htx⟩ := tg_nI hm (show i < sn S by omega)
      have hwb := hm.wb live i (by omega)
      have hch : chv S D sf sd live i = hdl (sE S i) live ((wDS S D sf sd live).1 i) + (wDS S D sf sd live).1 i := rfl
      have hdl0 := hdl_le (sE S i) live ((wDS S D sf sd live).1 i)
      cases hop : wr_op (sE S i).1 live with
      | true =>
        cases hmi : si S i with
        | none =>
          refine q_iload hX 3 d_Mo_write_9 rfl (by first | rfl | assumption) ?_
          refine q_aload hX 0 d_Mo_write_10 rfl (by first | rfl | assumption) ?_
          refine r_getm (J := 0) (x := nI (sn S)) hX d_Mo_write_11 fl_Mo_86 hM hc rfl ?_
          refine r_icmp_ge hX 83 d_Mo_write_14 (by decide) (fun c14 => absurd c14 (nI_ge (by omega) (by omega))) (fun _ => ?_)
          refine q_aload hX 0 d_Mo_write_17 rfl (by first | rfl | assumption) ?_
          refine r_getf hX d_Mo_write_18 fl_Mo_7 hM.1 rfl ?_
          refine q_iload hX 3 d_Mo_write_21 rfl (by first | rfl | assumption) ?_
          refine r_ialdm (c := 118) (x := nI x) hX d_Mo_write_22 hM rfl rfl (by omega) (by rw [hA1 118 (by decide), (hrow i (by omega)).2.1.1, htx]) ?_
          refine r_callS (as := [_]) hX d_Mo_write_23 lk_Mo_236 rfl (Nat.le_of_ble_eq_true rfl) (by decide) 0 0 (Nat.le_refl _) (Nat.le_refl _) (c_Mo_idWidth (G := G) x hx) (fun v w1 hq => ?_)
          obtain ⟨rfl, hw⟩ := hq
          rw [hw]
          refine q_aload hX 0 d_Mo_write_26 rfl (by first | rfl | assumption) ?_
          refine q_iload hX 3 d_Mo_write_27 rfl (by first | rfl | assumption) ?_
          refine q_iload hX 1 d_Mo_write_28 rfl (by first | rfl | assumption) ?_
          refine r_callV (as := [_, _]) hX d_Mo_write_29 lk_Mo_239 hM.1 rfl rfl (Nat.le_of_ble_eq_true rfl) (by decide) 0 0 (Nat.le_refl _) (Nat.le_refl _) (c_Mo_isLive (G := G) hM hm1 (j := i) (by omega) live) (fun v w1 hq => ?_)
          obtain ⟨rfl, hw⟩ := hq
          rw [hw, hop]
          refine r_if_eq hX 39 d_Mo_write_32 (by decide) (fun c32 => absurd c32 (by decide)) (fun _ => ?_)
          refine r_iconst (v := 1) hX d_Mo_write_35 (by decide) ?_
          refine r_goto hX 49 d_Mo_write_36 (by decide) ?_
          try rw [nI_1]
          refine r_iadd hX d_Mo_write_49 ?_
          try rw [nI_1]
          refine r_istore hX d_Mo_write_50 (by decide) ?_
          refine q_aload hX 0 d_Mo_write_52 rfl (by first | rfl | assumption) ?_
          refine r_getf hX d_Mo_write_53 fl_Mo_13 hM.1 rfl ?_
          refine q_iload hX 3 d_Mo_write_56 rfl (by first | rfl | assumption) ?_
          refine r_ialdm (c := 119) (x := -1) hX d_Mo_write_57 hM rfl rfl (by omega) (by rw [hA1 119 (by decide), (hrow i (by omega)).2.2, hmi]; rfl) ?_
          refine r_if_ge hX 75 d_Mo_write_58 (by decide) (fun c58 => absurd c58 (by decide)) (fun _ => ?_)
          refine q_iload hX 2 d_Mo_write_61 rfl (by first | rfl | assumption) ?_
          refine r_iload hX d_Mo_write_62 (by first | rfl | assumption) ?_
          refine r_iadd hX d_Mo_write_64 ?_
          rw [nI_add]
          refine q_aload hX 0 d_Mo_write_65 rfl (by first | rfl | assumption) ?_
          refine r_getf hX d_Mo_write_66 fl_Mo_73 hM.1 rfl ?_
          refine q_iload hX 3 d_Mo_write_69 rfl (by first | rfl | assumption) ?_
          refine r_ialdm (c := 137) (x := nI ((wDS S D sf sd live).1 i)) hX d_Mo_write_70 hM rfl rfl (by omega) (hda i (by omega)) ?_
          refine r_iadd hX d_Mo_write_71 ?_
          rw [nI_add]
          refine r_goto hX 76 d_Mo_write_72 (by decide) ?_
          refine q_istore hX 2 d_Mo_write_76 rfl (by decide) ?_
          refine r_iinc hX d_Mo_write_77 (by first | rfl | assumption) ?_
          refine r_goto hX 9 d_Mo_write_80 (by decide) ?_
          exact ih (i + 1) (acc + chv S D sf sd live i) _ (by omega) (by omega) (by rw [← e2, suf, if_pos (decide_eq_true hmi)]; omega) l0 l1 (by
            show some (Value.int (nI _)) = _
            rw [hch, hdl, htx, nI_l hx, if_pos hop]
            refine congrArg (fun q => some (Value.int (nI q))) ?_
            omega) (by show some (Value.int (nI i + Int32.ofInt 1)) = _; rw [show Int32.ofInt 1 = 1 from rfl, nI_1])
        | some q =>
          refine q_iload hX 3 d_Mo_write_9 rfl (by first | rfl | assumption) ?_
          refine q_aload hX 0 d_Mo_write_10 rfl (by first | rfl | assumption) ?_
          refine r_getm (J := 0) (x := nI (sn S)) hX d_Mo_write_11 fl_Mo_86 hM hc rfl ?_
          refine r_icmp_ge hX 83 d_Mo_write_14 (by decide) (fun c14 => absurd c14 (nI_ge (by omega) (by omega))) (fun _ => ?_)
          refine q_aload hX 0 d_Mo_write_17 rfl (by first | rfl | assumption) ?_
          refine r_getf hX d_Mo_write_18 fl_Mo_7 hM.1 rfl ?_
          refine q_iload hX 3 d_Mo_write_21 rfl (by first | rfl | assumption) ?_
          refine r_ialdm (c := 118) (x := nI x) hX d_Mo_write_22 hM rfl rfl (by omega) (by rw [hA1 118 (by decide), (hrow i (by omega)).2.1.1, htx]) ?_
          refine r_callS (as := [_]) hX d_Mo_write_23 lk_Mo_236 rfl (Nat.le_of_ble_eq_true rfl) (by decide) 0 0 (Nat.le_refl _) (Nat.le_refl _) (c_Mo_idWidth (G := G) x hx) (fun v w1 hq => ?_)
          obtain ⟨rfl, hw⟩ := hq
          rw [hw]
          refine q_aload hX 0 d_Mo_write_26 rfl (by first | rfl | assumption) ?_
          refine q_iload hX 3 d_Mo_write_27 rfl (by first | rfl | assumption) ?_
          refine q_iload hX 1 d_Mo_write_28 rfl (by first | rfl | assumption) ?_
          refine r_callV (as := [_, _]) hX d_Mo_write_29 lk_Mo_239 hM.1 rfl rfl (Nat.le_of_ble_eq_true rfl) (by decide) 0 0 (Nat.le_refl _) (Nat.le_refl _) (c_Mo_isLive (G := G) hM hm1 (j := i) (by omega) live) (fun v w1 hq => ?_)
          obtain ⟨rfl, hw⟩ := hq
          rw [hw, hop]
          refine r_if_eq hX 39 d_Mo_write_32 (by decide) (fun c32 => absurd c32 (by decide)) (fun _ => ?_)
          refine r_iconst (v := 1) hX d_Mo_write_35 (by decide) ?_
          refine r_goto hX 49 d_Mo_write_36 (by decide) ?_
          try rw [nI_1]
          refine r_iadd hX d_Mo_write_49 ?_
          try rw [nI_1]
          refine r_istore hX d_Mo_write_50 (by decide) ?_
          refine q_aload hX 0 d_Mo_write_52 rfl (by first | rfl | assumption) ?_
          refine r_getf hX d_Mo_write_53 fl_Mo_13 hM.1 rfl ?_
          refine q_iload hX 3 d_Mo_write_56 rfl (by first | rfl | assumption) ?_
          refine r_ialdm (c := 119) (x := nI q) hX d_Mo_write_57 hM rfl rfl (by omega) (by rw [hA1 119 (by decide), (hrow i (by omega)).2.2, hmi]; rfl) ?_
          refine r_if_ge hX 75 d_Mo_write_58 (by decide) (fun _ => ?_) (fun c58 => absurd (nI_le (a := 0) (Nat.zero_le q) (by have := hm.mlt i q (by omega) hmi; omega)) c58)
          refine q_iload hX 2 d_Mo_write_75 rfl (by first | rfl | assumption) ?_
          refine q_istore hX 2 d_Mo_write_76 rfl (by decide) ?_
          refine r_iinc hX d_Mo_write_77 (by first | rfl | assumption) ?_
          refine r_goto hX 9 d_Mo_write_80 (by decide) ?_
          exact ih (i + 1) acc _ (by omega) (Nat.le_trans hac (Nat.mul_le_mul_right _ (by omega))) (by rw [← e2, suf, if_neg (by rw [decide_eq_true_eq, hmi]; simp), Nat.zero_add]) l0 l1 rfl (by show some (Value.int (nI i + Int32.ofInt 1)) = _; rw [show Int32.ofInt 1 = 1 from rfl, nI_1])
      | false =>
        cases hmi : si S i with
        | none =>
          refine q_iload hX 3 d_Mo_write_9 rfl (by first | rfl | assumption) ?_
          refine q_aload hX 0 d_Mo_write_10 rfl (by first | rfl | assumption) ?_
          refine r_getm (J := 0) (x := nI (sn S)) hX d_Mo_write_11 fl_Mo_86 hM hc rfl ?_
          refine r_icmp_ge hX 83 d_Mo_write_14 (by decide) (fun c14 => absurd c14 (nI_ge (by omega) (by omega))) (fun _ => ?_)
          refine q_aload hX 0 d_Mo_write_17 rfl (by first | rfl | assumption) ?_
          refine r_getf hX d_Mo_write_18 fl_Mo_7 hM.1 rfl ?_
          refine q_iload hX 3 d_Mo_write_21 rfl (by first | rfl | assumption) ?_
          refine r_ialdm (c := 118) (x := nI x) hX d_Mo_write_22 hM rfl rfl (by omega) (by rw [hA1 118 (by decide), (hrow i (by omega)).2.1.1, htx]) ?_
          refine r_callS (as := [_]) hX d_Mo_write_23 lk_Mo_236 rfl (Nat.le_of_ble_eq_true rfl) (by decide) 0 0 (Nat.le_refl _) (Nat.le_refl _) (c_Mo_idWidth (G := G) x hx) (fun v w1 hq => ?_)
          obtain ⟨rfl, hw⟩ := hq
          rw [hw]
          refine q_aload hX 0 d_Mo_write_26 rfl (by first | rfl | assumption) ?_
          refine q_iload hX 3 d_Mo_write_27 rfl (by first | rfl | assumption) ?_
          refine q_iload hX 1 d_Mo_write_28 rfl (by first | rfl | assumption) ?_
          refine r_callV (as := [_, _]) hX d_Mo_write_29 lk_Mo_239 hM.1 rfl rfl (Nat.le_of_ble_eq_true rfl) (by decide) 0 0 (Nat.le_refl _) (Nat.le_refl _) (c_Mo_isLive (G := G) hM hm1 (j := i) (by omega) live) (fun v w1 hq => ?_)
          obtain ⟨rfl, hw⟩ := hq
          rw [hw, hop]
          refine r_if_eq hX 39 d_Mo_write_32 (by decide) (fun _ => ?_) (fun c32 => absurd rfl c32)
          refine q_aload hX 0 d_Mo_write_39 rfl (by first | rfl | assumption) ?_
          refine r_getf hX d_Mo_write_40 fl_Mo_73 hM.1 rfl ?_
          refine q_iload hX 3 d_Mo_write_43 rfl (by first | rfl | assumption) ?_
          refine r_ialdm (c := 137) (x := nI ((wDS S D sf sd live).1 i)) hX d_Mo_write_44 hM rfl rfl (by omega) (hda i (by omega)) ?_
          refine r_i2l hX d_Mo_write_45 ?_
          rw [nI_l (by omega)]
          refine r_callS (as := [_]) hX d_Mo_write_46 lk_Mo_223 rfl (Nat.le_of_ble_eq_true rfl) (by decide) 0 0 (Nat.le_refl _) (Nat.le_refl _) (c_Mo_widthFor (G := G) ((wDS S D sf sd live).1 i) (by omega)) (fun v w1 hq => ?_)
          obtain ⟨rfl, hw⟩ := hq
          rw [hw]
          refine r_iadd hX d_Mo_write_49 ?_
          rw [nI_add]
          refine r_istore hX d_Mo_write_50 (by decide) ?_
          refine q_aload hX 0 d_Mo_write_52 rfl (by first | rfl | assumption) ?_
          refine r_getf hX d_Mo_write_53 fl_Mo_13 hM.1 rfl ?_
          refine q_iload hX 3 d_Mo_write_56 rfl (by first | rfl | assumption) ?_
          refine r_ialdm (c := 119) (x := -1) hX d_Mo_write_57 hM rfl rfl (by omega) (by rw [hA1 119 (by decide), (hrow i (by omega)).2.2, hmi]; rfl) ?_
          refine r_if_ge hX 75 d_Mo_write_58 (by decide) (fun c58 => absurd c58 (by decide)) (fun _ => ?_)
          refine q_iload hX 2 d_Mo_write_61 rfl (by first | rfl | assumption) ?_
          refine r_iload hX d_Mo_write_62 (by first | rfl | assumption) ?_
          refine r_iadd hX d_Mo_write_64 ?_
          rw [nI_add]
          refine q_aload hX 0 d_Mo_write_65 rfl (by first | rfl | assumption) ?_
          refine r_getf hX d_Mo_write_66 fl_Mo_73 hM.1 rfl ?_
          refine q_iload hX 3 d_Mo_write_69 rfl (by first | rfl | assumption) ?_
          refine r_ialdm (c := 137) (x := nI ((wDS S D sf sd live).1 i)) hX d_Mo_write_70 hM rfl rfl (by omega) (hda i (by omega)) ?_
          refine r_iadd hX d_Mo_write_71 ?_
          rw [nI_add]
          refine r_goto hX 76 d_Mo_write_72 (by decide) ?_
          refine q_istore hX 2 d_Mo_write_76 rfl (by decide) ?_
          refine r_iinc hX d_Mo_write_77 (by first | rfl | assumption) ?_
          refine r_goto hX 9 d_Mo_write_80 (by decide) ?_
          exact ih (i + 1) (acc + chv S D sf sd live i) _ (by omega) (by omega) (by rw [← e2, suf, if_pos (decide_eq_true hmi)]; omega) l0 l1 (by
            show some (Value.int (nI _)) = _
            rw [hch, hdl, htx, nI_l hx, if_neg (by rw [hop]; decide)]
            refine congrArg (fun q => some (Value.int (nI q))) ?_
            omega) (by show some (Value.int (nI i + Int32.ofInt 1)) = _; rw [show Int32.ofInt 1 = 1 from rfl, nI_1])
        | some q =>
          refine q_iload hX 3 d_Mo_write_9 rfl (by first | rfl | assumption) ?_
          refine q_aload hX 0 d_Mo_write_10 rfl (by first | rfl | assumption) ?_
          refine r_getm (J := 0) (x := nI (sn S)) hX d_Mo_write_11 fl_Mo_86 hM hc rfl ?_
          refine r_icmp_ge hX 83 d_Mo_write_14 (by decide) (fun c14 => absurd c14 (nI_ge (by omega) (by omega))) (fun _ => ?_)
          refine q_aload hX 0 d_Mo_write_17 rfl (by first | rfl | assumption) ?_
          refine r_getf hX d_Mo_write_18 fl_Mo_7 hM.1 rfl ?_
          refine q_iload hX 3 d_Mo_write_21 rfl (by first | rfl | assumption) ?_
          refine r_ialdm (c := 118) (x := nI x) hX d_Mo_write_22 hM rfl rfl (by omega) (by rw [hA1 118 (by decide), (hrow i (by omega)).2.1.1, htx]) ?_
          refine r_callS (as := [_]) hX d_Mo_write_23 lk_Mo_236 rfl (Nat.le_of_ble_eq_true rfl) (by decide) 0 0 (Nat.le_refl _) (Nat.le_refl _) (c_Mo_idWidth (G := G) x hx) (fun v w1 hq => ?_)
          obtain ⟨rfl, hw⟩ := hq
          rw [hw]
          refine q_aload hX 0 d_Mo_write_26 rfl (by first | rfl | assumption) ?_
          refine q_iload hX 3 d_Mo_write_27 rfl (by first | rfl | assumption) ?_
          refine q_iload hX 1 d_Mo_write_28 rfl (by first | rfl | assumption) ?_
          refine r_callV (as := [_, _]) hX d_Mo_write_29 lk_Mo_239 hM.1 rfl rfl (Nat.le_of_ble_eq_true rfl) (by decide) 0 0 (Nat.le_refl _) (Nat.le_refl _) (c_Mo_isLive (G := G) hM hm1 (j := i) (by omega) live) (fun v w1 hq => ?_)
          obtain ⟨rfl, hw⟩ := hq
          rw [hw, hop]
          refine r_if_eq hX 39 d_Mo_write_32 (by decide) (fun _ => ?_) (fun c32 => absurd rfl c32)
          refine q_aload hX 0 d_Mo_write_39 rfl (by first | rfl | assumption) ?_
          refine r_getf hX d_Mo_write_40 fl_Mo_73 hM.1 rfl ?_
          refine q_iload hX 3 d_Mo_write_43 rfl (by first | rfl | assumption) ?_
          refine r_ialdm (c := 137) (x := nI ((wDS S D sf sd live).1 i)) hX d_Mo_write_44 hM rfl rfl (by omega) (hda i (by omega)) ?_
          refine r_i2l hX d_Mo_write_45 ?_
          rw [nI_l (by omega)]
          refine r_callS (as := [_]) hX d_Mo_write_46 lk_Mo_223 rfl (Nat.le_of_ble_eq_true rfl) (by decide) 0 0 (Nat.le_refl _) (Nat.le_refl _) (c_Mo_widthFor (G := G) ((wDS S D sf sd live).1 i) (by omega)) (fun v w1 hq => ?_)
          obtain ⟨rfl, hw⟩ := hq
          rw [hw]
          refine r_iadd hX d_Mo_write_49 ?_
          rw [nI_add]
          refine r_istore hX d_Mo_write_50 (by decide) ?_
          refine q_aload hX 0 d_Mo_write_52 rfl (by first | rfl | assumption) ?_
          refine r_getf hX d_Mo_write_53 fl_Mo_13 hM.1 rfl ?_
          refine q_iload hX 3 d_Mo_write_56 rfl (by first | rfl | assumption) ?_
          refine r_ialdm (c := 119) (x := nI q) hX d_Mo_write_57 hM rfl rfl (by omega) (by rw [hA1 119 (by decide), (hrow i (by omega)).2.2, hmi]; rfl) ?_
          refine r_if_ge hX 75 d_Mo_write_58 (by decide) (fun _ => ?_) (fun c58 => absurd (nI_le (a := 0) (Nat.zero_le q) (by have := hm.mlt i q (by omega) hmi; omega)) c58)
          refine q_iload hX 2 d_Mo_write_75 rfl (by first | rfl | assumption) ?_
          refine q_istore hX 2 d_Mo_write_76 rfl (by decide) ?_
          refine r_iinc hX d_Mo_write_77 (by first | rfl | assumption) ?_
          refine r_goto hX 9 d_Mo_write_80 (by decide) ?_
          exact ih (i + 1) acc _ (by omega) (Nat.le_trans hac (Nat.mul_le_mul_right _ (by omega))) (by rw [← e2, suf, if_neg (by rw [decide_eq_true_eq, hmi]; simp), Nat.zero_add]) l0 l1 rfl (by show some (Value.int (nI i + Int32.ofInt 1)) = _; rw [show Int32.ofInt 1 = 1 from rfl, nI_1])
  refine r_iconst (v := 0) hX d_Mo_write_5 (by decide) ?_
  refine q_istore hX 2 d_Mo_write_6 rfl (by decide) ?_
  refine r_iconst (v := 0) hX d_Mo_write_7 (by decide) ?_
  refine q_istore hX 3 d_Mo_write_8 rfl (by decide) ?_
  exact loop1 (sn S) 0 0 _ (by omega) (by omega) (by omega) rfl rfl rfl rfl
