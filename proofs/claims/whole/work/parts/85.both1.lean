/-! ===== side by side: feed, take, clear, letter, frame ===== -/
theorem by_nI {y : Int32} (h : y &&& 255 = y) : ∃ b, b < 256 ∧ y = nI b := by
  refine ⟨(y &&& 255).toBitVec.toNat, ?_, ?_⟩
  · rw [Int32.toBitVec_and, BitVec.toNat_and]
    exact Nat.lt_of_le_of_lt Nat.and_le_right (by decide)
  · rw [h]
    apply Int32.toBitVec_inj.mp
    show y.toBitVec = BitVec.ofNat 32 y.toBitVec.toNat
    rw [BitVec.ofNat_toNat, BitVec.setWidth_eq]
theorem rd_g.of {c : Nat} {f f' : Nat → Int32} (hc : c ≤ 640) (h1 : ∀ i, i < c → f i &&& 255 = f i) (h2 : ∀ i, i < c → f' i = f i) : ∃ g, rd_g c f g ∧ rd_g c f' g := by
  have key : ∀ i, i < c → f i = nI (f i).toNatClampNeg ∧ (f i).toNatClampNeg < 256 := fun i hi => by
    obtain ⟨b, hb, e⟩ := by_nI (h1 i hi)
    rw [e, nI_clamp (by omega)]
    exact ⟨rfl, hb⟩
  exact ⟨fun i => (f i).toNatClampNeg, ⟨hc, key⟩, hc, fun i hi => by rw [h2 i hi]; exact key i hi⟩
theorem rd_g.by {c : Nat} {f : Nat → Int32} {g : Nat → Nat} (h : rd_g c f g) : ∀ i, i < c → f i &&& 255 = f i := fun i hi => by
  obtain ⟨e, hb⟩ := h.2 i hi
  rw [e, nI_b hb]
theorem ro_num_cg (x : Int64) : ∀ (k : Nat) (f f' : Nat → Int32) (c : Nat), (∀ i, i < c → f i &&& 255 = f i) → (∀ i, i < c → f' i = f i) → c + k ≤ 640 → (∀ i, i < c + k → ro_num 640 x k f c i &&& 255 = ro_num 640 x k f c i) ∧ ∀ i, i < c + k → ro_num 640 x k f' c i = ro_num 640 x k f c i
  | 0, f, f', c, h1, h2, _ => ⟨h1, h2⟩
  | k + 1, f, f', c, h1, h2, h3 => by
    have e : ∀ f : Nat → Int32, ro_p1 640 f c (ro_bt x k) = upd f c (ro_bt x k &&& 255) := fun f => by rw [ro_p1, if_pos (by omega)]
    have ih := ro_num_cg x k (upd f c (ro_bt x k &&& 255)) (upd f' c (ro_bt x k &&& 255)) (c + 1) (fun i hi => by
      by_cases z : i = c
      · subst z; show (if i = i then _ else _) &&& 255 = (if i = i then _ else _); rw [if_pos rfl, b255]
      · show (if i = c then _ else _) &&& 255 = (if i = c then _ else _); rw [if_neg z]; exact h1 i (by omega)) (fun i hi => by
      by_cases z : i = c
      · subst z; show (if i = i then _ else _) = (if i = i then _ else _); rw [if_pos rfl, if_pos rfl]
      · show (if i = c then _ else _) = (if i = c then _ else _); rw [if_neg z, if_neg z]; exact h2 i (by omega)) (by omega)
    rw [ro_num, ro_num, e, e, show c + (k + 1) = c + 1 + k by omega]
    exact ih
theorem rp.agree {c : Nat} {f f' : Nat → Int32} {g : Nat → Nat} (h1 : rd_g c f g) (h2 : rd_g c f' g) : ∀ i, i < c → f' i = f i := fun i hi => by rw [(h1.2 i hi).1, (h2.2 i hi).1]
theorem mdl.up {I I' : Nat → Int32} {A A' : Ev_A} {S : Ev_S} {D : Nat → Ev_D} {sf : Nat → Int32} {sd : Nat} (hm : mdl I A S D sf sd) (i0 : I' 0 = I 0) (i1 : I' 1 = I 1) (l : List Nat) (hl : ∀ q, q ∈ rw_l → q ∉ l) (h : a_but A A' l) : mdl I' A' S D sf sd := hm.cg i0 i1 (fun q hq => h.1 q (hl q hq)) h.2
theorem hd_ok.cg {c f : Nat} {qs hb : Nat → Int32} {A A' : Ev_A} {sz : Nat → Nat} (h : hd_ok c f qs hb A sz) (h0 : A'.1 130 = A.1 130) (h1 : A'.1 131 = A.1 131) : hd_ok c f qs hb A' sz := by unfold hd_ok at h ⊢; rw [h0, h1]; exact h
theorem k_feed {G : Ev_G} {w : Ev_W} {K : Option Ev_K} (hR : rl w K) (x : Int64) (n : Int32) : bo G M_EF_feed M_Mo_feed 2 0 0 0 [.long x, .int n] w K := by
  obtain ⟨S, D, sf, sd, c, f, c2, f2, fp, hc, hf, qs, hb, I, v0, A, hrc, hM, hrp⟩ := id hR
  obtain ⟨hm, i4, i5, i6, i2, i3, ⟨sz, hd⟩, ⟨g, g1, g2⟩, ⟨g', g3, g4⟩, hby, htx⟩ := hrp
  obtain ⟨As, htr, hes, hok, hnm, hm60, hfree, h139, hS, hinj⟩ := hrc.ab
  obtain ⟨_, hn, _, hsd, hpo, hpl, hrow, _⟩ := id hm
  obtain ⟨he, hr1, hr2, hr3, hwr, hfi, ⟨ms_, pl_, en_, tg_, vf_, vl_, hre⟩, hfr, _, hK⟩ := id hrc
  refine (c_EF_feed (G := G) he hr1 g1.1 x n).mono (fun v w1 hq => ?_)
  rcases hq with ⟨hf1, rfl, hw⟩ | ⟨hf1, hf2, rfl, hw⟩ | ⟨hf1, hf2, rfl, hro, hs1⟩
  · refine ⟨_, rfl, by rw [hw]; exact hR.st, ?_⟩
    rw [hw]
    refine (c_Mo_feed (G := G) hM i4 g1.1 x n).mono (fun v2 w2 hq2 => ?_)
    rcases hq2 with ⟨_, rfl, rfl⟩ | ⟨z, _⟩ | ⟨z, _⟩
    · exact ⟨rfl, hR⟩
    · exact absurd z hf1
    · exact absurd z hf1
  · refine ⟨_, rfl, by rw [hw]; exact hR.st, ?_⟩
    rw [hw]
    refine (c_Mo_feed (G := G) hM i4 g1.1 x n).mono (fun v2 w2 hq2 => ?_)
    rcases hq2 with ⟨z, _⟩ | ⟨_, _, rfl, rfl⟩ | ⟨_, z, _⟩
    · exact absurd hf1 z
    · exact ⟨rfl, hR⟩
    · omega
  · have hx0 := hR
    obtain ⟨h1, hk⟩ := hs1
    have hM1 : is_M w1 I v0 A := hM.kp (fun q a b => hk q (by simp; omega))
    have hrc1 : rc w1 K S sf sd (c + n.toNatClampNeg) (ro_num 640 x n.toNatClampNeg f c) c2 f2 fp hc hf qs hb := ⟨(hk 100 (by decide)).trans he, hro, ⟨(hk 103 (by decide)).trans hr2.1, (hk 104 (by decide)).trans hr2.2⟩, (by obtain ⟨a, b, z⟩ := hr3; exact ⟨a, b, (hk 114 (by decide)).trans z.1, (hk 115 (by decide)).trans z.2⟩), (hk 113 (by decide)).trans hwr, (hk 116 (by decide)).trans hfi, ⟨_, _, _, _, _, _, (hk 112 (by decide)).trans hre⟩, ⟨(hk 105 (by decide)).trans hfr.1, (hk 106 (by decide)).trans hfr.2.1, (hk 107 (by decide)).trans hfr.2.2⟩, ⟨As, hS.mv h1 (fun q a b => hk q (by simp; omega)) (fun q a => hk q (by simp; omega))⟩, (hk 18 (by decide)).trans hK⟩
    refine ⟨_, rfl, ⟨hrc1.2.2.2.2.2.2.2.2.2, _, hM1.1⟩, (c_Mo_feed (G := G) hM1 i4 g1.1 x n).mono (fun v2 w2 hq2 => ?_)⟩
    rcases hq2 with ⟨z, _⟩ | ⟨_, z, _⟩ | ⟨_, _, rfl, A', hM2, hs2, hA1, hA2⟩
    · exact absurd hf1 z
    · omega
    · have hcl : c + n.toNatClampNeg ≤ 640 := by
        have h5 : n.toInt = (n.toNatClampNeg : Int) := by
          have := hf1.1
          show n.toInt = ((n.toInt.toNat : Nat) : Int)
          omega
        omega
      have hcg := ro_num_cg x n.toNatClampNeg f (A.1 132) c g1.by (rp.agree g1 g2) hcl
      refine ⟨rfl, S, D, sf, sd, _, _, c2, f2, fp, hc, hf, qs, hb, _, v0, A', hrc1.mo hs2, hM2, hm.up rfl rfl [132] (by decide) hA2, rfl, i5, i6, i2, i3, ⟨sz, hd.cg (hA2.1 130 (by decide)) (hA2.1 131 (by decide))⟩, ?_, ⟨g', g3, by rw [hA2.1 133 (by decide)]; exact g4⟩, hby, htx⟩
      rw [hA1]
      exact rd_g.of hcl hcg.1 hcg.2
theorem k_take {G : Ev_G} {w : Ev_W} {K : Option Ev_K} (hR : rl w K) (b : Int32) : bo G M_EF_take M_Mo_take 1 0 0 0 [.int b] w K := by
  obtain ⟨S, D, sf, sd, c, f, c2, f2, fp, hc, hf, qs, hb, I, v0, A, hrc, hM, hrp⟩ := id hR
  obtain ⟨hm, i4, i5, i6, i2, i3, ⟨sz, hd⟩, ⟨g, g1, g2⟩, ⟨g', g3, g4⟩, hby, htx⟩ := hrp
  obtain ⟨As, htr, hes, hok, hnm, hm60, hfree, h139, hS, hinj⟩ := hrc.ab
  obtain ⟨_, hn, _, hsd, hpo, hpl, hrow, _⟩ := id hm
  obtain ⟨he, hr1, hr2, hr3, hwr, hfi, ⟨ms_, pl_, en_, tg_, vf_, vl_, hre⟩, hfr, _, hK⟩ := id hrc
  have hc2 := g3.1
  refine (c_EF_take (G := G) he hr1 hr2 hc2 b).mono (fun v w1 hq => ?_)
  have hq : v = some (.int (nI (if b = 0 then 0 else c2))) ∧ ∃ f', is_Ro w1 101 102 640 (if b = 0 then 0 else c2) f' ∧ (∀ i, i < (if b = 0 then 0 else c2) → f' i = f2 i) ∧ ev_sm w w1 [101, 102] := by
    by_cases z : b = 0
    · rw [if_pos z] at hq ⊢
      exact ⟨hq.1, f, hq.2.1, fun i hi => absurd hi (Nat.not_lt_zero _), hq.2.2⟩
    · rw [if_neg z] at hq ⊢
      exact ⟨hq.1, _, hq.2.1, fun i hi => by show (if i < c2 then _ else _) = _; rw [if_pos hi]; exact g3.by i hi, hq.2.2⟩
  obtain ⟨rfl, f', hro, hff, h1, hk⟩ := hq
  have hcl : (if b = 0 then 0 else c2) ≤ c2 := by split <;> omega
  have hx0 := hR
  have hM1 : is_M w1 I v0 A := hM.kp (fun q a b => hk q (by simp; omega))
  have hrc1 : rc w1 K S sf sd (if b = 0 then 0 else c2) f' c2 f2 fp hc hf qs hb := ⟨(hk 100 (by decide)).trans he, hro, ⟨(hk 103 (by decide)).trans hr2.1, (hk 104 (by decide)).trans hr2.2⟩, (by obtain ⟨a, b, z⟩ := hr3; exact ⟨a, b, (hk 114 (by decide)).trans z.1, (hk 115 (by decide)).trans z.2⟩), (hk 113 (by decide)).trans hwr, (hk 116 (by decide)).trans hfi, ⟨_, _, _, _, _, _, (hk 112 (by decide)).trans hre⟩, ⟨(hk 105 (by decide)).trans hfr.1, (hk 106 (by decide)).trans hfr.2.1, (hk 107 (by decide)).trans hfr.2.2⟩, ⟨As, hS.mv h1 (fun q a b => hk q (by simp; omega)) (fun q a => hk q (by simp; omega))⟩, (hk 18 (by decide)).trans hK⟩
  refine ⟨_, rfl, ⟨hrc1.2.2.2.2.2.2.2.2.2, _, hM1.1⟩, (c_Mo_take (G := G) hM1 i5 hc2 b).mono (fun v2 w2 hq2 => ?_)⟩
  obtain ⟨rfl, A', hM2, hs2, hA1, hA2⟩ := hq2
  refine ⟨rfl, S, D, sf, sd, _, _, c2, f2, fp, hc, hf, qs, hb, _, v0, A', hrc1.mo hs2, hM2, hm.up rfl rfl [132] (by decide) hA2, rfl, i5, i6, i2, i3, ⟨sz, hd.cg (hA2.1 130 (by decide)) (hA2.1 131 (by decide))⟩, rd_g.of (by omega) (fun i hi => by rw [hff i hi]; exact g3.by i (by omega)) (fun i hi => by rw [hff i hi, hA1 i hi]; exact rp.agree g3 g4 i (by omega)), ⟨g', g3, by rw [hA2.1 133 (by decide)]; exact g4⟩, hby, htx⟩
theorem k_clear {G : Ev_G} {w : Ev_W} {K : Option Ev_K} (hR : rl w K) : ev_Met G M_EF_clear 1 0 0 [.ref 100] w (fun v w1 => v = none ∧ (w1.2 18 = K ∧ ∃ fs, w1.2 117 = some (.inr (8, fs))) ∧ ev_Met G M_Mo_clear 0 0 0 [.ref 117] w1 (fun v2 w2 => v2 = none ∧ rl w2 K)) := by
  obtain ⟨S, D, sf, sd, c, f, c2, f2, fp, hc, hf, qs, hb, I, v0, A, hrc, hM, hrp⟩ := id hR
  obtain ⟨hm, i4, i5, i6, i2, i3, ⟨sz, hd⟩, ⟨g, g1, g2⟩, ⟨g', g3, g4⟩, hby, htx⟩ := hrp
  obtain ⟨As, htr, hes, hok, hnm, hm60, hfree, h139, hS, hinj⟩ := hrc.ab
  obtain ⟨_, hn, _, hsd, hpo, hpl, hrow, _⟩ := id hm
  obtain ⟨he, hr1, hr2, hr3, hwr, hfi, ⟨ms_, pl_, en_, tg_, vf_, vl_, hre⟩, hfr, _, hK⟩ := id hrc
  refine (c_EF_clear (G := G) he htr hn hsd).mono (fun v w1 hq => ?_)
  obtain ⟨rfl, hT, h1, hk⟩ := hq
  obtain ⟨a1, a2, a3, a4, a5, a6, a7, a8⟩ := id hS
  have hM1 : is_M w1 I v0 A := hM.kp (fun q a b => hk q (by simp; omega))
  have hS1 : is_S w1 (0, S.2) As sf 0 := ⟨hT, ⟨fun i hi => by
    obtain ⟨q1, q2, q3, q4⟩ := a2.1 i hi
    have q2 : 139 ≤ sa S i := q2
    exact ⟨q1, q2, (hk (sa S i) (by simp; omega)).trans q3, (hk (sa S i + 1) (by simp; omega)).trans q4⟩, a2.2⟩, fun i hi => absurd hi (Nat.not_lt_zero _), Nat.zero_le _, a5, a6, h1.trans a7, a8⟩
  have hrc1 : rc w1 K (0, S.2) sf 0 c f c2 f2 fp hc hf qs hb := ⟨(hk 100 (by decide)).trans he, ⟨(hk 101 (by decide)).trans hr1.1, (hk 102 (by decide)).trans hr1.2⟩, ⟨(hk 103 (by decide)).trans hr2.1, (hk 104 (by decide)).trans hr2.2⟩, (by obtain ⟨a, b, z⟩ := hr3; exact ⟨a, b, (hk 114 (by decide)).trans z.1, (hk 115 (by decide)).trans z.2⟩), (hk 113 (by decide)).trans hwr, (hk 116 (by decide)).trans hfi, ⟨_, _, _, _, _, _, (hk 112 (by decide)).trans hre⟩, ⟨(hk 105 (by decide)).trans hfr.1, (hk 106 (by decide)).trans hfr.2.1, (hk 107 (by decide)).trans hfr.2.2⟩, ⟨As, hS1⟩, (hk 18 (by decide)).trans hK⟩
  refine ⟨rfl, ⟨hrc1.2.2.2.2.2.2.2.2.2, _, hM1.1⟩, (c_Mo_clear (G := G) hM1).mono (fun v2 w2 hq2 => ?_)⟩
  obtain ⟨rfl, hM2, hs2⟩ := hq2
  refine ⟨rfl, (0, S.2), D, sf, 0, c, f, c2, f2, fp, hc, hf, qs, hb, _, v0, A, hrc1.mo hs2, hM2, ⟨rfl, Nat.zero_le _, rfl, Nat.zero_le _, fun i hi => absurd hi (Nat.not_lt_zero _), fun i hi => absurd hi (Nat.not_lt_zero _), fun i hi => absurd hi (Nat.not_lt_zero _), fun i hi => absurd hi (Nat.not_lt_zero _)⟩, i4, i5, i6, i2, i3, ⟨sz, hd⟩, ⟨g, g1, g2⟩, ⟨g', g3, g4⟩, fun i hi => absurd hi (Nat.not_lt_zero _), fun i hi => absurd hi (Nat.not_lt_zero _)⟩
theorem sm_cg {d d' : Nat → Nat} : ∀ {n : Nat}, (∀ i, i < n → d' i = d i) → sm_N d' n = sm_N d n
  | 0, _ => rfl
  | n + 1, h => by rw [sm_N, sm_N, sm_cg (fun i hi => h i (by omega)), h n (by omega)]
theorem sm_le2 {d : Nat → Nat} {i : Nat} : ∀ {n : Nat}, i < n → sm_N d i + d i ≤ sm_N d n
  | 0, h => absurd h (Nat.not_lt_zero _)
  | n + 1, h => by
    rw [sm_N]
    by_cases z : i = n
    · rw [z]; exact Nat.le_refl _
    · have := sm_le2 (d := d) (i := i) (n := n) (by omega); omega
theorem k_frame {G : Ev_G} {w : Ev_W} {K : Option Ev_K} (hR : rl w K) (n x : Int32) : bo G M_EF_frame M_Mo_frame 1 0 0 0 [.int n, .int x] w K := by
  obtain ⟨S, D, sf, sd, c, f, c2, f2, fp, hc, hf, qs, hb, I, v0, A, hrc, hM, hrp⟩ := id hR
  obtain ⟨hm, i4, i5, i6, i2, i3, ⟨sz, hd⟩, ⟨g, g1, g2⟩, ⟨g', g3, g4⟩, hby, htx⟩ := hrp
  obtain ⟨As, htr, hes, hok, hnm, hm60, hfree, h139, hS, hinj⟩ := hrc.ab
  obtain ⟨_, hn, _, hsd, hpo, hpl, hrow, _⟩ := id hm
  obtain ⟨he, hr1, hr2, hr3, hwr, hfi, ⟨ms_, pl_, en_, tg_, vf_, vl_, hre⟩, hfr, _, hK⟩ := id hrc
  obtain ⟨hc8, hf4, hfs, hdd⟩ := id hd
  refine (c_EF_frame (G := G) he hfr hc8 hf4 n x).mono (fun v w1 hq => ?_)
  rcases hq with ⟨hf1, rfl, hw⟩ | ⟨hf1, hf2, rfl, hfr1, hs1⟩ | ⟨hf1, hf2, rfl, hw⟩
  · refine ⟨_, rfl, by rw [hw]; exact hR.st, ?_⟩
    rw [hw]
    refine (c_Mo_frame (G := G) hM i2 i3 hc8 hf4 n x).mono (fun v2 w2 hq2 => ?_)
    rcases hq2 with ⟨_, rfl, rfl⟩ | ⟨z, _⟩ | ⟨z, _⟩
    · exact ⟨rfl, hR⟩
    · exact absurd z hf1
    · exact absurd z hf1
  · have hx0 := hR
    obtain ⟨h1, hk⟩ := hs1
    have hM1 : is_M w1 I v0 A := hM.kp (fun q a b => hk q (by simp; omega))
    have hrc1 : rc w1 K S sf sd c f c2 f2 fp (hc + 1) (hf + n.toNatClampNeg) (upd qs hc (nI n.toNatClampNeg)) (fr_b hf n.toNatClampNeg x hb) := ⟨(hk 100 (by decide)).trans he, ⟨(hk 101 (by decide)).trans hr1.1, (hk 102 (by decide)).trans hr1.2⟩, ⟨(hk 103 (by decide)).trans hr2.1, (hk 104 (by decide)).trans hr2.2⟩, (by obtain ⟨a, b, z⟩ := hr3; exact ⟨a, b, (hk 114 (by decide)).trans z.1, (hk 115 (by decide)).trans z.2⟩), (hk 113 (by decide)).trans hwr, (hk 116 (by decide)).trans hfi, ⟨_, _, _, _, _, _, (hk 112 (by decide)).trans hre⟩, hfr1, ⟨As, hS.mv h1 (fun q a b => hk q (by simp; omega)) (fun q a => hk q (by simp; omega))⟩, (hk 18 (by decide)).trans hK⟩
    refine ⟨_, rfl, ⟨hrc1.2.2.2.2.2.2.2.2.2, _, hM1.1⟩, (c_Mo_frame (G := G) hM1 i2 i3 hc8 hf4 n x).mono (fun v2 w2 hq2 => ?_)⟩
    rcases hq2 with ⟨z, _⟩ | ⟨_, _, rfl, hM2, hs2⟩ | ⟨_, z, _⟩
    · exact absurd hf1 z
    · have hn3 : n.toNatClampNeg ≤ 300 := by
        have := hf1.1
        have := hf1.2.1
        show n.toInt.toNat ≤ 300
        omega
      generalize hnn : n.toNatClampNeg = m at *
      have hcg : ∀ i, i ≤ hc → sm_N (fun j => if j = hc then m else sz j) i = sm_N sz i := fun i hi => sm_cg (fun j hj => by show (if j = hc then m else sz j) = sz j; rw [if_neg (by omega)])
      refine ⟨rfl, S, D, sf, sd, c, f, c2, f2, fp, hc + 1, hf + m, _, _, _, v0, _, hrc1.mo hs2, hM2, hm.cg rfl rfl (fun q hq => ?_) rfl, i4, i5, i6, rfl, rfl, ⟨fun j => if j = hc then m else sz j, by omega, hf2.2, ?_, fun i hi => ?_⟩, ⟨g, g1, ?_⟩, ⟨g', g3, ?_⟩, hby, htx⟩
      · rw [aset_ne _ _ _ (fun z => by rw [z] at hq; revert hq; decide), aset_ne _ _ _ (fun z => by rw [z] at hq; revert hq; decide)]
      · rw [sm_N, hcg hc (Nat.le_refl _), if_pos rfl, ← hfs]
      · by_cases z : i = hc
        · subst z
          rw [hcg i (Nat.le_refl _)]
          dsimp only
          rw [if_pos rfl]
          refine ⟨by show (if i = i then _ else _) = _; rw [if_pos rfl], by rw [aset_off _ _ _ _ _ _ (Or.inl (by decide)), aset_self], hn3, fun b hb => ?_⟩
          rw [aset_self, ← hfs]
          show (if hf ≤ hf + b ∧ hf + b < hf + m then _ else _) = _
          rw [if_pos ⟨by omega, by omega⟩, Nat.add_sub_cancel_left]
        · obtain ⟨u1, u2, u3, u4⟩ := hdd i (by omega)
          rw [hcg i (by omega)]
          dsimp only
          rw [if_neg z]
          refine ⟨by show (if i = hc then _ else _) = _; rw [if_neg z]; exact u1, by rw [aset_off _ _ _ _ _ _ (Or.inl (by decide)), aset_off _ _ _ _ _ _ (Or.inr z)]; exact u2, u3, fun b hb => ?_⟩
          have h5 := sm_le2 (d := sz) (i := i) (n := hc) (by omega)
          rw [aset_off _ _ _ _ _ _ (Or.inr z), aset_off _ _ _ _ _ _ (Or.inl (by decide))]
          show (if hf ≤ sm_N sz i + b ∧ sm_N sz i + b < hf + m then _ else _) = _
          rw [if_neg (by omega)]; exact u4 b hb
      · rw [aset_ne _ _ _ (by decide), aset_ne _ _ _ (by decide)]; exact g2
      · rw [aset_ne _ _ _ (by decide), aset_ne _ _ _ (by decide)]; exact g4
    · exact absurd hf2 z
  · refine ⟨_, rfl, by rw [hw]; exact hR.st, ?_⟩
    rw [hw]
    refine (c_Mo_frame (G := G) hM i2 i3 hc8 hf4 n x).mono (fun v2 w2 hq2 => ?_)
    rcases hq2 with ⟨z, _⟩ | ⟨_, z, _⟩ | ⟨_, _, rfl, rfl⟩
    · exact absurd hf1 z
    · exact absurd z hf2
    · exact ⟨rfl, hR⟩
def lt_S (S : Ev_S) (j a : Nat) (c : Int32) : Ev_S := (sn S, sm S, sx S, sL S, sa S, (fun i => if i = j then el_a (sE S j) else sE S i), (fun i => if i = j then upd (sP S j) a c else sP S i), si S)
theorem lN_inj {a b : Nat} (ha : a ≤ 640) (hb : b ≤ 640) (h : lN a = lN b) : a = b := by
  have h1 : (lN a - lN b).toInt = (a : Int) - (b : Int) := lN_d (by omega) (by omega)
  rw [h] at h1
  have h2 : (lN b - lN b).toInt = (b : Int) - (b : Int) := lN_d (by omega) (by omega)
  omega
theorem k_letter {G : Ev_G} {w : Ev_W} {K : Option Ev_K} (hR : rl w K) (k x : Int32) : bo G M_EF_letter M_Mo_letter 1 0 0 2 [.int k, .int x] w K := by
  obtain ⟨S, D, sf, sd, c, f, c2, f2, fp, hc, hf, qs, hb, I, v0, A, hrc, hM, hrp⟩ := id hR
  obtain ⟨hm, i4, i5, i6, i2, i3, ⟨sz, hd⟩, ⟨g, g1, g2⟩, ⟨g', g3, g4⟩, hby, htx⟩ := hrp
  obtain ⟨As, htr, hes, hok, hnm, hm60, hfree, h139, hS, hinj⟩ := hrc.ab
  obtain ⟨_, hn, _, hsd, hpo, hpl, hrow, _⟩ := id hm
  obtain ⟨he, hr1, hr2, hr3, hwr, hfi, ⟨ms_, pl_, en_, tg_, vf_, vl_, hre⟩, hfr, _, hK⟩ := id hrc
  refine (c_EF_letter (G := G) he htr hn hsd hes hnm hok hm.amok k x).mono (fun v w1 hq => ?_)
  rcases hq with ⟨hf1, rfl, hw⟩ | ⟨j, hix, hf2, hil, ha, rfl, w1a, w1b, hs1⟩ | ⟨j, hix, hf2, hil, ha, rfl, hw⟩
  · refine ⟨_, rfl, by rw [hw]; exact hR.st, ?_⟩
    rw [hw]
    refine (c_Mo_letter (G := G) hM hm k x).mono (fun v2 w2 hq2 => ?_)
    rcases hq2 with ⟨_, rfl, rfl⟩ | ⟨j, z1, z2, z3, _⟩ | ⟨j, z1, z2, z3, _⟩
    · exact ⟨rfl, hR⟩
    · exact absurd ⟨z2, z3⟩ (hf1 j z1)
    · exact absurd ⟨z2, z3⟩ (hf1 j z1)
  · have hx0 := hR
    have ha : (D j).1 < 16 := ha
    have w1b : w1.2 (sa S j + 1) = some (.inl (0, 16, .inl (upd (sP S j) (D j).1 x))) := w1b
    obtain ⟨h1, hk⟩ := hs1
    have hjn : j < sn S := by
      rcases ix_cases (n := sn S) (by omega) k with ⟨j', hj', _, hix'⟩ | ⟨hix', _⟩
      · rw [hix] at hix'; cases hix'; exact hj'
      · rw [hix] at hix'; cases hix'
    obtain ⟨a1, a2, a3, a4, a5, a6, a7, a8⟩ := id hS
    obtain ⟨u1, u2, u3, u4⟩ := a2.1 j (by omega)
    have hk9 : ∀ q, q < 139 → w1.2 q = w.2 q := fun q hq => hk q (by simp; omega)
    have hM1 : is_M w1 I v0 A := hM.kp (fun q a b => hk9 q (by omega))
    have hne : ∀ i, i < sm S → sa S i ≠ sa S j + 1 ∧ sa S i + 1 ≠ sa S j := fun i hi => by
      obtain ⟨q1, q2, q3, q4⟩ := a2.1 i hi
      refine ⟨fun z => ?_, fun z => ?_⟩
      · rw [z, u4] at q3; cases q3
      · rw [z, u3] at q4; cases q4
    have hS1 : is_S w1 (lt_S S j (D j).1 x) As sf sd := by
      refine ⟨⟨(hk9 108 (by decide)).trans a1.1, (hk9 109 (by decide)).trans a1.2.1, (hk9 110 (by decide)).trans a1.2.2.1, (hk9 111 (by decide)).trans a1.2.2.2⟩, ⟨fun i hi => ?_, a2.2⟩, fun i hi => ?_, a4, a5, a6, h1.trans a7, a8⟩
      · have hi : i < sm S := hi
        obtain ⟨q1, q2, q3, q4⟩ := a2.1 i hi
        show sL S i = some (sa S i) ∧ 139 ≤ sa S i ∧ w1.2 (sa S i) = some (el_C (sa S i) (if i = j then el_a (sE S j) else sE S i)) ∧ w1.2 (sa S i + 1) = some (.inl (0, 16, .inl (if i = j then upd (sP S j) (D j).1 x else sP S i)))
        by_cases z : i = j
        · subst z
          rw [if_pos rfl, if_pos rfl]
          exact ⟨q1, q2, w1a, w1b⟩
        · have z2 : sa S i ≠ sa S j := fun y => z (a2.2 i j hi (by omega) y)
          obtain ⟨y1, y2⟩ := hne i hi
          rw [if_neg z, if_neg z]
          exact ⟨q1, q2, (hk _ (by simp; omega)).trans q3, (hk _ (by simp; omega)).trans q4⟩
      · have hi : i < sn S := hi
        obtain ⟨q1, q2, q3, q4⟩ := a3 i hi
        show (if i = j then el_a (sE S j) else sE S i).2.2.2 2 = nI i ∧ (if i = j then el_a (sE S j) else sE S i).1 < 17 ∧ (if i = j then el_a (sE S j) else sE S i).2.1 = (si S i).map (sa S) ∧ _
        by_cases z : i = j
        · subst z; rw [if_pos rfl]; exact ⟨q1, q2, q3, q4⟩
        · rw [if_neg z]; exact ⟨q1, q2, q3, q4⟩
    have hrc1 : rc w1 K (lt_S S j (D j).1 x) sf sd c f c2 f2 fp hc hf qs hb := ⟨(hk9 100 (by decide)).trans he, ⟨(hk9 101 (by decide)).trans hr1.1, (hk9 102 (by decide)).trans hr1.2⟩, ⟨(hk9 103 (by decide)).trans hr2.1, (hk9 104 (by decide)).trans hr2.2⟩, (by obtain ⟨a, b, z⟩ := hr3; exact ⟨a, b, (hk9 114 (by decide)).trans z.1, (hk9 115 (by decide)).trans z.2⟩), (hk9 113 (by decide)).trans hwr, (hk9 116 (by decide)).trans hfi, ⟨_, _, _, _, _, _, (hk9 112 (by decide)).trans hre⟩, ⟨(hk9 105 (by decide)).trans hfr.1, (hk9 106 (by decide)).trans hfr.2.1, (hk9 107 (by decide)).trans hfr.2.2⟩, ⟨As, hS1⟩, (hk9 18 (by decide)).trans hK⟩
    refine ⟨_, rfl, ⟨hrc1.2.2.2.2.2.2.2.2.2, _, hM1.1⟩, (c_Mo_letter (G := G) hM1 hm k x).mono (fun v2 w2 hq2 => ?_)⟩
    rcases hq2 with ⟨z, _⟩ | ⟨j', z1, z2, z3, z4, rfl, hM2, hs2⟩ | ⟨j', z1, z2, z3, z4, _⟩
    · exact absurd ⟨hf2, hil⟩ (z j hix)
    · rw [hix] at z1
      cases z1
      have hxb : x &&& 255 = x := by
        have h5 := of_decide_eq_true hil
        have h6 : x = nI x.toNatClampNeg := by
          apply Int32.toInt_inj.mp
          have h7 : (x.toNatClampNeg : Int) = x.toInt := by
            show ((x.toInt.toNat : Nat) : Int) = _
            omega
          rw [nI_toInt (by omega)]; omega
        have h7 : (x.toNatClampNeg : Int) = x.toInt := by
          show ((x.toInt.toNat : Nat) : Int) = _
          omega
        rw [h6, nI_b (by omega)]
      obtain ⟨d1, d2, d3, d4, d5, d6, d7, d8⟩ := (hrow j hjn).1
      have dl := d3 (Or.inl hf2)
      have hamt : (el_a (sE S j)).2.2.1 = lN ((D j).1 + 1) := by
        show (sE S j).2.2.1 + 1 = _
        rw [dl.1]
        exact lN_1 _
      have hno : ∀ q : Int32, q ≠ 2 → ¬ so_fm (sE S j).1 = q := fun q hq z => hq (by rw [← z, hf2])
      refine ⟨rfl, lt_S S j (D j).1 x, (fun i => if i = j then ((D j).1 + 1, (D j).2) else D i), sf, sd, c, f, c2, f2, fp, hc, hf, qs, hb, I, v0, _, hrc1.mo hs2, hM2, ⟨hm.1, hn, hm.2.2.1, hsd, ?_, ?_, fun i hi => ?_, fun y hy => ?_⟩, i4, i5, i6, i2, i3, ⟨sz, hd.cg ?_ ?_⟩, ⟨g, g1, ?_⟩, ⟨g', g3, ?_⟩, hby, fun i hi hfm a ea ha16 y hy => ?_⟩
      · exact po_cg hpo (fun t ht => by show (if t = j then el_a (sE S j) else sE S t).2.2.2 1 = _; by_cases z : t = j; (rw [if_pos z, z]; rfl); rw [if_neg z]) (fun t ht => rfl)
      · intro i hi
        have key : ∀ t, (sE (lt_S S j (D j).1 x) t).1 = (sE S t).1 := fun t => by show (if t = j then el_a (sE S j) else sE S t).1 = _; by_cases z : t = j; (rw [if_pos z, z]; rfl); rw [if_neg z]
        obtain ⟨p1, p2, p3⟩ := hpl i hi
        rw [key i]
        exact ⟨p1, p2, fun y hy => by rw [key y]; exact p3 y hy⟩
      · have hi : i < sn S := hi
        obtain ⟨r1, r2, r3⟩ := hrow i hi
        show el_D (if i = j then el_a (sE S j) else sE S i) (if i = j then upd (sP S j) (D j).1 x else sP S i) (if i = j then ((D j).1 + 1, (D j).2) else D i) sd ∧ mq (aset (aset A 122 (16 * j + (D j).1) x) 121 j (nI ((D j).1 + 1))) i (if i = j then el_a (sE S j) else sE S i) (if i = j then upd (sP S j) (D j).1 x else sP S i) (if i = j then ((D j).1 + 1, (D j).2) else D i) ∧ (aset (aset A 122 (16 * j + (D j).1) x) 121 j (nI ((D j).1 + 1))).1 119 i = o_i (si S i)
        have hA : ∀ q, q ≠ 121 → q ≠ 122 → (aset (aset A 122 (16 * j + (D j).1) x) 121 j (nI ((D j).1 + 1))).1 q = A.1 q := fun q y1 y2 => by rw [aset_ne _ _ _ y1, aset_ne _ _ _ y2]
        rw [hA 119 (by decide) (by decide)]
        by_cases z : i = j
        · subst z
          rw [if_pos rfl, if_pos rfl, if_pos rfl]
          obtain ⟨m1, m2, m3, m4, m5, m6⟩ := r2
          refine ⟨⟨d1, d2, fun _ => ⟨hamt, by show (D i).1 + 1 ≤ 640; omega⟩, fun _ => by show (D i).1 + 1 ≤ 16; omega, fun y => absurd y (hno 3 (by decide)), fun y => absurd y (hno 6 (by decide)), fun y => ?_, fun y => absurd y (hno 4 (by decide))⟩, ⟨by rw [hA 118 (by decide) (by decide)]; exact m1, fun y => absurd y (hno 1 (by decide)), fun _ => ?_, fun _ y hy => ?_, fun y => absurd y (hno 3 (by decide)), fun y => absurd y (hno 6 (by decide))⟩, r3⟩
          · rcases y with y | y
            · exact absurd y (hno 3 (by decide))
            · exact absurd y (hno 6 (by decide))
          · rw [aset_self]
          · have hy : y < (D i).1 + 1 := hy
            rw [aset_off _ _ _ _ _ _ (Or.inl (by decide))]
            show _ = (if y = (D i).1 then x else sP S i y)
            by_cases u : y = (D i).1
            · rw [if_pos u, u, aset_self]
            · rw [if_neg u, aset_off _ _ _ _ _ _ (Or.inr (by omega))]
              exact m4 hf2 y (by omega)
        · rw [if_neg z, if_neg z, if_neg z]
          obtain ⟨m1, m2, m3, m4, m5, m6⟩ := r2
          refine ⟨r1, ⟨by rw [hA 118 (by decide) (by decide)]; exact m1, m2, fun y => by rw [aset_off _ _ _ _ _ _ (Or.inr z), aset_ne _ _ _ (by decide)]; exact m3 y, fun y t ht => ?_, fun y => ?_, fun y => by rw [hA 128 (by decide) (by decide)]; exact m6 y⟩, r3⟩
          · have h16 := r1.2.2.2.1 y
            rw [aset_off _ _ _ _ _ _ (Or.inl (by decide)), aset_off _ _ _ _ _ _ (Or.inr (by omega))]
            exact m4 y t ht
          · rw [hA 123 (by decide) (by decide), hA 124 (by decide) (by decide), hA 125 (by decide) (by decide), hA 126 (by decide) (by decide), hA 127 (by decide) (by decide), hA 128 (by decide) (by decide)]
            exact m5 y
      · rw [aset_ne _ _ _ (by decide), aset_ne _ _ _ (by decide)]; exact hm.2.2.2.2.2.2.2 y hy
      · rw [aset_ne _ _ _ (by decide), aset_ne _ _ _ (by decide)]
      · rw [aset_ne _ _ _ (by decide), aset_ne _ _ _ (by decide)]
      · rw [aset_ne _ _ _ (by decide), aset_ne _ _ _ (by decide)]; exact g2
      · rw [aset_ne _ _ _ (by decide), aset_ne _ _ _ (by decide)]; exact g4
      · have hi : i < sn S := hi
        have hfm : so_fm (if i = j then el_a (sE S j) else sE S i).1 = 2 := hfm
        have ea : (if i = j then el_a (sE S j) else sE S i).2.2.1 = lN a := ea
        show (if i = j then upd (sP S j) (D j).1 x else sP S i) y &&& 255 = (if i = j then upd (sP S j) (D j).1 x else sP S i) y
        by_cases z : i = j
        · rw [if_pos z] at ea ⊢
          rw [hamt] at ea
          have h5 := lN_inj (by omega) (by omega) ea
          show (if y = (D j).1 then x else sP S j y) &&& 255 = (if y = (D j).1 then x else sP S j y)
          by_cases u : y = (D j).1
          · rw [if_pos u]; exact hxb
          · rw [if_neg u]; exact htx j hjn hf2 _ dl.1 (by omega) y (by omega)
        · rw [if_neg z] at ea hfm ⊢
          exact htx i hi hfm a ea ha16 y hy
    · rw [hix] at z1
      cases z1
      exact absurd ha z4
  · refine ⟨_, rfl, by rw [hw]; exact hR.st, ?_⟩
    rw [hw]
    have ha : ¬ (D j).1 < 16 := ha
    refine (c_Mo_letter (G := G) hM hm k x).mono (fun v2 w2 hq2 => ?_)
    rcases hq2 with ⟨z, _⟩ | ⟨j', z1, z2, z3, z4, _⟩ | ⟨j', z1, z2, z3, z4, rfl, rfl⟩
    · exact absurd ⟨hf2, hil⟩ (z j hix)
    · rw [hix] at z1
      cases z1
      exact absurd z4 ha
    · exact ⟨rfl, hR⟩
