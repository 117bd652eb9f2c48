/-! ===== the class and the reference side by side ===== -/
/-- letters are bytes -/
def tx_ok (S : Ev_S) : Prop := ∀ k, k < sn S → so_fm (sE S k).1 = 2 → ∀ a, (sE S k).2.2.1 = lN a → a ≤ 16 → ∀ i, i < a → sP S k i &&& 255 = sP S k i
/-- the class's cells -/
def rc (w : Ev_W) (K : Option Ev_K) (S : Ev_S) (sf : Nat → Int32) (sd c : Nat) (f : Nat → Int32) (c2 : Nat) (f2 : Nat → Int32) (fp : Int32) (hc hf : Nat) (qs hb : Nat → Int32) : Prop :=
  is_EF w ∧ is_Ro w 101 102 640 c f ∧ is_Ro w 103 104 640 c2 f2 ∧ (∃ a b, is_Ro w 114 115 0 a b) ∧ is_Wr w ∧ is_Fi w ∧ (∃ ms pl en tg vf vl, is_Re w fp ms pl en tg vf vl) ∧ is_Fr w hc hf qs hb ∧ (∃ As, is_S w S As sf sd) ∧ w.2 18 = K
/-- what the reference holds of them -/
def rp (S : Ev_S) (D : Nat → Ev_D) (sf : Nat → Int32) (sd c : Nat) (f : Nat → Int32) (c2 : Nat) (f2 : Nat → Int32) (fp : Int32) (hc hf : Nat) (qs hb : Nat → Int32) (I : Nat → Int32) (A : Ev_A) : Prop :=
  mdl I A S D sf sd ∧ I 4 = nI c ∧ I 5 = nI c2 ∧ I 6 = fp ∧ I 2 = nI hc ∧ I 3 = nI hf ∧ (∃ sz, hd_ok hc hf qs hb A sz) ∧ (∃ g, rd_g c f g ∧ rd_g c (A.1 132) g) ∧ (∃ g, rd_g c2 f2 g ∧ rd_g c2 (A.1 133) g) ∧ (∀ j, j < sd → sf j &&& 255 = sf j) ∧ tx_ok S
def rl (w : Ev_W) (K : Option Ev_K) : Prop := ∃ S D sf sd c f c2 f2 fp hc hf qs hb I v0 A, rc w K S sf sd c f c2 f2 fp hc hf qs hb ∧ is_M w I v0 A ∧ rp S D sf sd c f c2 f2 fp hc hf qs hb I A
theorem is_S.mv {w w' : Ev_W} {S : Ev_S} {As : Nat → Option Nat} {sf : Nat → Int32} {sd : Nat} (h : is_S w S As sf sd) (h1 : w'.1 = w.1) (h2 : ∀ q, 108 ≤ q → q ≤ 111 → w'.2 q = w.2 q) (h3 : ∀ q, 139 ≤ q → w'.2 q = w.2 q) : is_S w' S As sf sd := by
  obtain ⟨⟨t1, t2, t3, t4⟩, ⟨e1, e2⟩, a3, a4, a5, a6, a7, a8⟩ := h
  refine ⟨⟨(h2 108 (by decide) (by decide)).trans t1, (h2 109 (by decide) (by decide)).trans t2, (h2 110 (by decide) (by decide)).trans t3, (h2 111 (by decide) (by decide)).trans t4⟩, ⟨fun i hi => ?_, e2⟩, a3, a4, a5, a6, h1.trans a7, a8⟩
  obtain ⟨q1, q2, q3, q4⟩ := e1 i hi
  exact ⟨q1, q2, (h3 _ (by omega)).trans q3, (h3 _ (by omega)).trans q4⟩
theorem rc.mo {w w' : Ev_W} {K : Option Ev_K} {S : Ev_S} {sf : Nat → Int32} {sd c : Nat} {f : Nat → Int32} {c2 : Nat} {f2 : Nat → Int32} {fp : Int32} {hc hf : Nat} {qs hb : Nat → Int32} (h : rc w K S sf sd c f c2 f2 fp hc hf qs hb) (hm : mo_sm w w') : rc w' K S sf sd c f c2 f2 fp hc hf qs hb := by
  obtain ⟨r1, r2, r3, ⟨a, b, r4⟩, r5, r6, ⟨x1, x2, x3, x4, x5, x6, r7⟩, r8, ⟨As, r9⟩, r10⟩ := h
  obtain ⟨m1, m2⟩ := hm
  have m3 : ∀ q, q < 117 → w'.2 q = w.2 q := fun q hq => m2 q (Or.inl hq)
  exact ⟨(m3 100 (by decide)).trans r1, ⟨(m3 101 (by decide)).trans r2.1, (m3 102 (by decide)).trans r2.2⟩, ⟨(m3 103 (by decide)).trans r3.1, (m3 104 (by decide)).trans r3.2⟩, ⟨a, b, (m3 114 (by decide)).trans r4.1, (m3 115 (by decide)).trans r4.2⟩, (m3 113 (by decide)).trans r5, (m3 116 (by decide)).trans r6, ⟨x1, x2, x3, x4, x5, x6, (m3 112 (by decide)).trans r7⟩, ⟨(m3 105 (by decide)).trans r8.1, (m3 106 (by decide)).trans r8.2.1, (m3 107 (by decide)).trans r8.2.2⟩, ⟨As, r9.mv m1 (fun q h1 h2 => m3 q (by omega)) (fun q h1 => m2 q (Or.inr (by omega)))⟩, (m3 18 (by decide)).trans r10⟩
theorem is_M.kp {w w' : Ev_W} {I : Nat → Int32} {v : Int64} {A : Ev_A} (h : is_M w I v A) (hk : ∀ q, 117 ≤ q → q ≤ 138 → w'.2 q = w.2 q) : is_M w' I v A :=
  ⟨(hk 117 (by decide) (by decide)).trans h.1, fun c k n hc => (hk c (by have := mo_ty_c hc; omega) (by have := mo_ty_c hc; omega)).trans (h.2.1 c k n hc), (hk 120 (by decide) (by decide)).trans h.2.2⟩
/-- the class's answer is an int, and the reference then gives the same and both stay side by side -/
def bo (G : Ev_G) (M1 M2 : Ev_M) (d1 mc ms d2 : Nat) (as : List Value) (w : Ev_W) (K : Option Ev_K) : Prop := ev_Met G M1 d1 mc ms (.ref 100 :: as) w (fun v w1 => ∃ x, v = some (.int x) ∧ (w1.2 18 = K ∧ ∃ fs, w1.2 117 = some (.inr (8, fs))) ∧ ev_Met G M2 d2 0 0 (.ref 117 :: as) w1 (fun v2 w2 => v2 = some (.int x) ∧ rl w2 K))
theorem rl.st {w : Ev_W} {K : Option Ev_K} (h : rl w K) : w.2 18 = K ∧ ∃ fs, w.2 117 = some (.inr (8, fs)) := by
  obtain ⟨S, D, sf, sd, c, f, c2, f2, fp, hc, hf, qs, hb, I, v0, A, hrc, hM, hrp⟩ := h
  exact ⟨hrc.2.2.2.2.2.2.2.2.2, _, hM.1⟩
theorem rl.ef {w : Ev_W} {K : Option Ev_K} (h : rl w K) : w.2 100 = some (.inr (0, [.ref 101, .ref 103, .ref 105, .ref 108, .ref 112, .ref 113, .ref 116])) := by
  obtain ⟨S, D, sf, sd, c, f, c2, f2, fp, hc, hf, qs, hb, I, v0, A, hrc, hM, hrp⟩ := h
  exact hrc.1
theorem bo.q {G : Ev_G} {M1 M2 : Ev_M} {d1 mc ms d2 : Nat} {as : List Value} {w : Ev_W} {K : Option Ev_K} {x y : Int32} (hR : rl w K) (h1 : ev_Met G M1 d1 mc ms (.ref 100 :: as) w (fun v w' => v = some (.int x) ∧ w' = w)) (h2 : ev_Met G M2 d2 0 0 (.ref 117 :: as) w (fun v w' => v = some (.int y) ∧ w' = w)) (e : y = x) : bo G M1 M2 d1 mc ms d2 as w K :=
  h1.mono (fun v w1 hq => ⟨x, hq.1, by rw [hq.2]; exact rl.st hR, by rw [hq.2]; exact h2.mono (fun v2 w2 hq2 => ⟨by rw [hq2.1, e], by rw [hq2.2]; exact hR⟩)⟩)
/-- all that the class's calls ask -/
theorem rc.ab {w : Ev_W} {K : Option Ev_K} {S : Ev_S} {sf : Nat → Int32} {sd c : Nat} {f : Nat → Int32} {c2 : Nat} {f2 : Nat → Int32} {fp : Int32} {hc hf : Nat} {qs hb : Nat → Int32} (h : rc w K S sf sd c f c2 f2 fp hc hf qs hb) : ∃ As, is_Tr w (sn S) (sL S) As sf sd ∧ is_Es w (sm S) (sL S) (sa S) (sE S) (sP S) ∧ el_ok (sn S) (sa S) (sE S) (si S) ∧ sn S ≤ sm S ∧ sm S ≤ 60 ∧ (∀ i, sm S ≤ i → i < 60 → sL S i = none) ∧ 139 ≤ w.1 ∧ is_S w S As sf sd ∧ ∀ i j, i < sn S → j < sn S → sa S i = sa S j → i = j := by
  obtain ⟨r1, r2, r3, r4, r5, r6, r7, r8, ⟨As, r9⟩, r10⟩ := h
  obtain ⟨a1, a2, a3, a4, a5, a6, a7, a8⟩ := id r9
  exact ⟨As, a1, a2, a3, a4, a5, a6, by rw [a7]; exact a8, r9, fun i j hi hj => a2.2 i j (by omega) (by omega)⟩
theorem mdl.amok {I : Nat → Int32} {A : Ev_A} {S : Ev_S} {D : Nat → Ev_D} {sf : Nat → Int32} {sd : Nat} (hm : mdl I A S D sf sd) : el_amok (sn S) (sE S) (fun q => (D q).1) := fun j hj hf => by
  obtain ⟨d1, d2, d3, d4, d5, d6⟩ := (hm.2.2.2.2.2.2.1 j hj).1
  rcases hf with z | z
  · exact ⟨(d3 (Or.inl z)).1, d4 z⟩
  · exact ⟨(d3 (Or.inr (Or.inl z))).1, by have := (d5 z).2.1; show (D j).1 ≤ 16; omega⟩
theorem k_id {G : Ev_G} {w : Ev_W} {K : Option Ev_K} (hR : rl w K) (k : Int32) : bo G M_EF_id M_Mo_id 1 0 0 1 [.int k] w K := by
  obtain ⟨S, D, sf, sd, c, f, c2, f2, fp, hc, hf, qs, hb, I, v0, A, hrc, hM, hrp⟩ := id hR
  obtain ⟨hm, i4, i5, i6, i2, i3, ⟨sz, hd⟩, ⟨g, g1, g2⟩, ⟨g', g3, g4⟩, hby, htx⟩ := hrp
  obtain ⟨As, htr, hes, hok, hnm, hm60, hfree, h139, hS, hinj⟩ := hrc.ab
  obtain ⟨_, hn, _, hsd, hpo, hpl, hrow, _⟩ := id hm
  obtain ⟨he, hr1, hr2, hr3, hwr, hfi, ⟨ms_, pl_, en_, tg_, vf_, vl_, hre⟩, hfr, _, hK⟩ := id hrc
  exact bo.q hR (c_EF_id (G := G) he htr hn hsd hes hnm hok k) (c_Mo_id (G := G) hM hm k) rfl
theorem k_parent {G : Ev_G} {w : Ev_W} {K : Option Ev_K} (hR : rl w K) (k : Int32) : bo G M_EF_parent M_Mo_parent 1 0 0 1 [.int k] w K := by
  obtain ⟨S, D, sf, sd, c, f, c2, f2, fp, hc, hf, qs, hb, I, v0, A, hrc, hM, hrp⟩ := id hR
  obtain ⟨hm, i4, i5, i6, i2, i3, ⟨sz, hd⟩, ⟨g, g1, g2⟩, ⟨g', g3, g4⟩, hby, htx⟩ := hrp
  obtain ⟨As, htr, hes, hok, hnm, hm60, hfree, h139, hS, hinj⟩ := hrc.ab
  obtain ⟨_, hn, _, hsd, hpo, hpl, hrow, _⟩ := id hm
  obtain ⟨he, hr1, hr2, hr3, hwr, hfi, ⟨ms_, pl_, en_, tg_, vf_, vl_, hre⟩, hfr, _, hK⟩ := id hrc
  exact bo.q hR (c_EF_parent (G := G) he htr hn hsd hes hnm hok k) (c_Mo_parent (G := G) hM hm k) rfl
theorem k_part {G : Ev_G} {w : Ev_W} {K : Option Ev_K} (hR : rl w K) (k i : Int32) : bo G M_EF_part M_Mo_part 2 0 0 1 [.int k, .int i] w K := by
  obtain ⟨S, D, sf, sd, c, f, c2, f2, fp, hc, hf, qs, hb, I, v0, A, hrc, hM, hrp⟩ := id hR
  obtain ⟨hm, i4, i5, i6, i2, i3, ⟨sz, hd⟩, ⟨g, g1, g2⟩, ⟨g', g3, g4⟩, hby, htx⟩ := hrp
  obtain ⟨As, htr, hes, hok, hnm, hm60, hfree, h139, hS, hinj⟩ := hrc.ab
  obtain ⟨_, hn, _, hsd, hpo, hpl, hrow, _⟩ := id hm
  obtain ⟨he, hr1, hr2, hr3, hwr, hfi, ⟨ms_, pl_, en_, tg_, vf_, vl_, hre⟩, hfr, _, hK⟩ := id hrc
  refine bo.q hR (c_EF_part (G := G) he htr hn hsd hes hnm hok hm.amok k i) (c_Mo_part (G := G) hM hm k i) ?_
  rcases ix_cases (n := sn S) (by omega) k with ⟨j, hj, rfl, hix⟩ | ⟨hix, hno⟩
  · rw [hix]
    show mo_part S D sf sd j i = ef_part (sE S) (sP S) (sa S) (fun q => (D q).1) sf sd (sn S) j i
    unfold mo_part ef_part
    rw [ch_mp hn hpo hok hinj hj]
  · rw [hix]
theorem k_sample {G : Ev_G} {w : Ev_W} {K : Option Ev_K} (hR : rl w K) (k y i : Int32) : bo G M_EF_sample M_Mo_sample 1 0 0 2 [.int k, .int y, .int i] w K := by
  obtain ⟨S, D, sf, sd, c, f, c2, f2, fp, hc, hf, qs, hb, I, v0, A, hrc, hM, hrp⟩ := id hR
  obtain ⟨hm, i4, i5, i6, i2, i3, ⟨sz, hd⟩, ⟨g, g1, g2⟩, ⟨g', g3, g4⟩, hby, htx⟩ := hrp
  obtain ⟨As, htr, hes, hok, hnm, hm60, hfree, h139, hS, hinj⟩ := hrc.ab
  obtain ⟨_, hn, _, hsd, hpo, hpl, hrow, _⟩ := id hm
  obtain ⟨he, hr1, hr2, hr3, hwr, hfi, ⟨ms_, pl_, en_, tg_, vf_, vl_, hre⟩, hfr, _, hK⟩ := id hrc
  exact bo.q hR (c_EF_sample (G := G) he htr hn hsd hes hnm hok hm.amok k y i) (c_Mo_sample (G := G) hM hm k y i) rfl
theorem k_detail {G : Ev_G} {w : Ev_W} {K : Option Ev_K} (hR : rl w K) (k x : Int32) : bo G M_EF_detail M_Mo_detail 1 0 0 2 [.int k, .int x] w K := by
  obtain ⟨S, D, sf, sd, c, f, c2, f2, fp, hc, hf, qs, hb, I, v0, A, hrc, hM, hrp⟩ := id hR
  obtain ⟨hm, i4, i5, i6, i2, i3, ⟨sz, hd⟩, ⟨g, g1, g2⟩, ⟨g', g3, g4⟩, hby, htx⟩ := hrp
  obtain ⟨As, htr, hes, hok, hnm, hm60, hfree, h139, hS, hinj⟩ := hrc.ab
  obtain ⟨_, hn, _, hsd, hpo, hpl, hrow, _⟩ := id hm
  obtain ⟨he, hr1, hr2, hr3, hwr, hfi, ⟨ms_, pl_, en_, tg_, vf_, vl_, hre⟩, hfr, _, hK⟩ := id hrc
  exact bo.q hR (c_EF_detail (G := G) he htr hn hsd hes hnm hok k x) (c_Mo_detail (G := G) hM hm k x) rfl
theorem k_seek {G : Ev_G} {w : Ev_W} {K : Option Ev_K} (hR : rl w K) (k tr : Int32) (mo : Int64) : bo G M_EF_seek M_Mo_seek 4 0 0 3 [.int k, .int tr, .long mo] w K := by
  obtain ⟨S, D, sf, sd, c, f, c2, f2, fp, hc, hf, qs, hb, I, v0, A, hrc, hM, hrp⟩ := id hR
  obtain ⟨hm, i4, i5, i6, i2, i3, ⟨sz, hd⟩, ⟨g, g1, g2⟩, ⟨g', g3, g4⟩, hby, htx⟩ := hrp
  obtain ⟨As, htr, hes, hok, hnm, hm60, hfree, h139, hS, hinj⟩ := hrc.ab
  obtain ⟨_, hn, _, hsd, hpo, hpl, hrow, _⟩ := id hm
  obtain ⟨he, hr1, hr2, hr3, hwr, hfi, ⟨ms_, pl_, en_, tg_, vf_, vl_, hre⟩, hfr, _, hK⟩ := id hrc
  exact bo.q hR (c_EF_seek (G := G) he htr hn hsd hes hnm hok hfi k tr mo) (c_Mo_seek (G := G) hM hm k tr mo) rfl
theorem k_jump {G : Ev_G} {w : Ev_W} {K : Option Ev_K} (hR : rl w K) (k tr : Int32) (mo : Int64) : bo G M_EF_jump M_Mo_jump 3 0 0 3 [.int k, .int tr, .long mo] w K := by
  obtain ⟨S, D, sf, sd, c, f, c2, f2, fp, hc, hf, qs, hb, I, v0, A, hrc, hM, hrp⟩ := id hR
  obtain ⟨hm, i4, i5, i6, i2, i3, ⟨sz, hd⟩, ⟨g, g1, g2⟩, ⟨g', g3, g4⟩, hby, htx⟩ := hrp
  obtain ⟨As, htr, hes, hok, hnm, hm60, hfree, h139, hS, hinj⟩ := hrc.ab
  obtain ⟨_, hn, _, hsd, hpo, hpl, hrow, _⟩ := id hm
  obtain ⟨he, hr1, hr2, hr3, hwr, hfi, ⟨ms_, pl_, en_, tg_, vf_, vl_, hre⟩, hfr, _, hK⟩ := id hrc
  exact bo.q hR (c_EF_jump (G := G) he htr hn hsd hes hnm hok hfi k tr mo) (c_Mo_jump (G := G) hM hm k tr mo) rfl
theorem k_where {G : Ev_G} {w : Ev_W} {K : Option Ev_K} (hR : rl w K) : bo G M_EF_where M_Mo_where 0 0 0 0 [] w K := by
  obtain ⟨S, D, sf, sd, c, f, c2, f2, fp, hc, hf, qs, hb, I, v0, A, hrc, hM, hrp⟩ := id hR
  obtain ⟨hm, i4, i5, i6, i2, i3, ⟨sz, hd⟩, ⟨g, g1, g2⟩, ⟨g', g3, g4⟩, hby, htx⟩ := hrp
  obtain ⟨As, htr, hes, hok, hnm, hm60, hfree, h139, hS, hinj⟩ := hrc.ab
  obtain ⟨_, hn, _, hsd, hpo, hpl, hrow, _⟩ := id hm
  obtain ⟨he, hr1, hr2, hr3, hwr, hfi, ⟨ms_, pl_, en_, tg_, vf_, vl_, hre⟩, hfr, _, hK⟩ := id hrc
  exact bo.q hR (c_EF_where (G := G) he hre) (c_Mo_where (G := G) hM) i6
theorem k_out {G : Ev_G} {w : Ev_W} {K : Option Ev_K} (hR : rl w K) (i : Int32) : bo G M_EF_out M_Mo_out 1 0 0 0 [.int i] w K := by
  obtain ⟨S, D, sf, sd, c, f, c2, f2, fp, hc, hf, qs, hb, I, v0, A, hrc, hM, hrp⟩ := id hR
  obtain ⟨hm, i4, i5, i6, i2, i3, ⟨sz, hd⟩, ⟨g, g1, g2⟩, ⟨g', g3, g4⟩, hby, htx⟩ := hrp
  obtain ⟨As, htr, hes, hok, hnm, hm60, hfree, h139, hS, hinj⟩ := hrc.ab
  obtain ⟨_, hn, _, hsd, hpo, hpl, hrow, _⟩ := id hm
  obtain ⟨he, hr1, hr2, hr3, hwr, hfi, ⟨ms_, pl_, en_, tg_, vf_, vl_, hre⟩, hfr, _, hK⟩ := id hrc
  refine bo.q hR (c_EF_out (G := G) he hr2 g3.1 i) (c_Mo_out (G := G) hM i5 g3.1 i) ?_
  have hc2 := g3.1
  rcases ix_cases (n := c2) (by omega) i with ⟨j, hj, rfl, hix⟩ | ⟨hix, hno⟩
  · rw [hix]
    show A.1 133 j = ro_at 640 f2 c2 (nI j)
    rw [ro_at, nI_toInt (by omega), if_pos ⟨by omega, by omega, by omega⟩, nI_clamp (by omega), (g4.2 j hj).1, (g3.2 j hj).1]
  · rw [hix]
    show -1 = ro_at 640 f2 c2 i
    rw [ro_at, if_neg (fun z => hno ⟨z.1, z.2.1⟩)]
theorem k_value {G : Ev_G} {w : Ev_W} {K : Option Ev_K} (hR : rl w K) (k : Int32) : ev_Met G M_EF_value 2 0 0 [.ref 100, .int k] w (fun v w1 => ∃ x, v = some (.long x) ∧ (w1.2 18 = K ∧ ∃ fs, w1.2 117 = some (.inr (8, fs))) ∧ ev_Met G M_Mo_value 1 0 0 [.ref 117, .int k] w1 (fun v2 w2 => v2 = some (.long x) ∧ rl w2 K)) := by
  obtain ⟨S, D, sf, sd, c, f, c2, f2, fp, hc, hf, qs, hb, I, v0, A, hrc, hM, hrp⟩ := id hR
  obtain ⟨hm, i4, i5, i6, i2, i3, ⟨sz, hd⟩, ⟨g, g1, g2⟩, ⟨g', g3, g4⟩, hby, htx⟩ := hrp
  obtain ⟨As, htr, hes, hok, hnm, hm60, hfree, h139, hS, hinj⟩ := hrc.ab
  obtain ⟨_, hn, _, hsd, hpo, hpl, hrow, _⟩ := id hm
  obtain ⟨he, hr1, hr2, hr3, hwr, hfi, ⟨ms_, pl_, en_, tg_, vf_, vl_, hre⟩, hfr, _, hK⟩ := id hrc
  refine (c_EF_value (G := G) he htr hn hsd hes hnm hok k).mono (fun v w1 hq => ⟨_, hq.1, by rw [hq.2]; exact hR.st, ?_⟩)
  rw [hq.2]
  refine (c_Mo_value (G := G) hM hm k).mono (fun v2 w2 hq2 => ⟨?_, by rw [hq2.2]; exact hR⟩)
  rw [hq2.1]
  congr 2
  rcases ix_cases (n := sn S) (by omega) k with ⟨j, hj, rfl, hix⟩ | ⟨hix, hno⟩
  · rw [hix]
    show mo_val S j = ef_val (sE S) (sa S) (sn S) j
    unfold mo_val ef_val
    rw [cnt_mp hn hpo hok hinj hj]
  · rw [hix]
