/-! ===== side by side: write, index ===== -/
/-- elements that differ only where the writer keeps its sizes and places -/
def e_sm (E E' : Ev_E) : Prop := E'.1 = E.1 ∧ E'.2.1 = E.2.1 ∧ E'.2.2.1 = E.2.2.1 ∧ ∀ q, q ≤ 8 → E'.2.2.2 q = E.2.2.2 q
def we_S (S : Ev_S) (E' : Nat → Ev_E) : Ev_S := (sn S, sm S, sx S, sL S, sa S, E', sP S, si S)
theorem el_D.eq {E E' : Ev_E} {pf : Nat → Int32} {D : Ev_D} {sd : Nat} (h : e_sm E E') (k : el_D E pf D sd) : el_D E' pf D sd := by
  obtain ⟨h1, h2, h3, h4⟩ := h
  unfold el_D at k ⊢
  rw [h1, h3, h4 0 (by decide), h4 3 (by decide), h4 4 (by decide), h4 5 (by decide), h4 6 (by decide), h4 7 (by decide), h4 8 (by decide)]
  exact k
theorem mq.eq {A : Ev_A} {j : Nat} {E E' : Ev_E} {pf : Nat → Int32} {D : Ev_D} (h : e_sm E E') (k : mq A j E pf D) : mq A j E' pf D := by
  obtain ⟨h1, h2, h3, h4⟩ := h
  unfold mq at k ⊢
  rw [h1, h3, h4 0 (by decide), h4 5 (by decide), h4 6 (by decide), h4 7 (by decide), h4 8 (by decide)]
  exact k
theorem mdl.eq {I : Nat → Int32} {A : Ev_A} {S : Ev_S} {D : Nat → Ev_D} {sf : Nat → Int32} {sd : Nat} (hm : mdl I A S D sf sd) {E' : Nat → Ev_E} (h : ∀ i, i < sn S → e_sm (sE S i) (E' i)) : mdl I A (we_S S E') D sf sd := by
  obtain ⟨hc, hn, hu, hsd, hpo, hpl, hrow, hhp⟩ := hm
  refine ⟨hc, hn, hu, hsd, po_cg hpo (fun t ht => (h t ht).2.2.2 1 (by decide)) (fun _ _ => rfl), fun i hi => ?_, fun k hk => ?_, hhp⟩
  · have hi : i < sn S := hi
    obtain ⟨p1, p2, p3⟩ := hpl i hi
    show (E' i).1 < 17 ∧ (si S i = none → so_fits (E' i).1 1 = true) ∧ ∀ j, si S i = some j → so_fits (E' i).1 (so_in (E' j).1) = true
    rw [(h i hi).1]
    refine ⟨p1, p2, fun j hj => ?_⟩
    have := ((hpo i hi).2.2.2 j hj).1
    rw [(h j (by omega)).1]; exact p3 j hj
  · have hk : k < sn S := hk
    obtain ⟨r1, r2, r3⟩ := hrow k hk
    exact ⟨r1.eq (h k hk), r2.eq (h k hk), r3⟩
theorem tx_ok.eq {S : Ev_S} (ht : tx_ok S) {E' : Nat → Ev_E} (h : ∀ i, i < sn S → e_sm (sE S i) (E' i)) : tx_ok (we_S S E') := by
  intro k hk hf a ea ha i hi
  have hk : k < sn S := hk
  have hf : so_fm (E' k).1 = 2 := hf
  have ea : (E' k).2.2.1 = lN a := ea
  rw [(h k hk).1] at hf
  rw [(h k hk).2.2.1] at ea
  exact ht k hk hf a ea ha i hi
theorem S_eq {w w' : Ev_W} {S : Ev_S} {As : Nat → Option Nat} {sf : Nat → Int32} {sd : Nat} (hS : is_S w S As sf sd) {E' : Nat → Ev_E} (h : ∀ i, i < sn S → e_sm (sE S i) (E' i)) (hT : is_Tr w' (sn S) (sL S) As sf sd) (hE : is_Es w' (sm S) (sL S) (sa S) E' (sP S)) (h1 : w'.1 = w.1) : is_S w' (we_S S E') As sf sd := by
  obtain ⟨a1, a2, a3, a4, a5, a6, a7, a8⟩ := hS
  refine ⟨hT, hE, fun i hi => ?_, a4, a5, a6, h1.trans a7, a8⟩
  have hi : i < sn S := hi
  obtain ⟨q1, q2, q3, q4⟩ := a3 i hi
  show (E' i).2.2.2 2 = nI i ∧ (E' i).1 < 17 ∧ (E' i).2.1 = (si S i).map (sa S) ∧ ∀ j, si S i = some j → j < i
  rw [(h i hi).2.2.2 2 (by decide), (h i hi).1, (h i hi).2.1]
  exact ⟨q1, q2, q3, q4⟩
theorem ds_sm (S : Ev_S) (d : Nat → Nat) : ∀ i, i < sn S → e_sm (sE S i) (ds_E (sn S) (sE S) d i) := fun i hi => by
  rw [ds_E, if_pos hi]
  exact ⟨rfl, rfl, rfl, fun q hq => by show (if q = 11 then _ else _) = _; rw [if_neg (by omega)]⟩
theorem dp_sm (S : Ev_S) (d p : Nat → Nat) : ∀ i, i < sn S → e_sm (sE S i) (dp_E (sn S) (ds_E (sn S) (sE S) d) p i) := fun i hi => by
  rw [dp_E, if_pos hi]
  obtain ⟨h1, h2, h3, h4⟩ := ds_sm S d i hi
  exact ⟨h1, h2, h3, fun q hq => by show (if q = 12 then _ else _) = _; rw [if_neg (by omega)]; exact h4 q hq⟩
theorem ch_b {n c : Nat} {f : Nat → Int32} {i y : Int32} (hf : ∀ x, x < c → f x &&& 255 = f x) : ∀ x, x < c → ro_ch n f c i y x &&& 255 = ro_ch n f c i y x := fun x hx => by
  unfold ro_ch
  split
  · show (if x = _ then _ else f x) &&& 255 = (if x = _ then _ else f x)
    split
    · exact b255 _
    · exact hf x hx
  · exact hf x hx
theorem fc_b2 {c : Nat} {p s : Int32} {f : Nat → Int32} (hf : ∀ x, x < c → f x &&& 255 = f x) : ∀ k, ∀ x, x < c → fc_f 640 c p s k f x &&& 255 = fc_f 640 c p s k f x
  | 0 => hf
  | k + 1 => ch_b (fc_b2 hf k)
theorem ck_b {E : Nat → Ev_E} {mi : Nat → Option Nat} {c : Nat} {pl d : Nat → Nat} : ∀ (r k : Nat) (f : Nat → Int32), (∀ x, x < c → f x &&& 255 = f x) → ∀ x, x < c → ck_go E mi c pl d r k f x &&& 255 = ck_go E mi c pl d r k f x
  | 0, k, f, hf => hf
  | r + 1, k, f, hf => by
    rw [ck_go]
    refine ck_b r (k + 1) _ ?_
    split
    · exact fc_b2 hf 4
    · exact hf
theorem k_write {G : Ev_G} {w : Ev_W} {K : Option Ev_K} (hR : rl w K) (live : Int32) : bo G M_EF_write M_Mo_write 6 0 0 5 [.int live] w K := by
  obtain ⟨S, D, sf, sd, c, f, c2, f2, fp, hc, hf, qs, hb, I, v0, A, hrc, hM, hrp⟩ := id hR
  obtain ⟨hm, i4, i5, i6, i2, i3, ⟨sz, hd⟩, ⟨g, g1, g2⟩, ⟨g', g3, g4⟩, hby, htx⟩ := hrp
  obtain ⟨As, htr, hes, hok, hnm, hm60, hfree, h139, hS, hinj⟩ := hrc.ab
  obtain ⟨_, hn, _, hsd, hpo, hpl, hrow, _⟩ := id hm
  obtain ⟨he, hr1, hr2, hr3, hwr, hfi, ⟨ms_, pl_, en_, tg_, vf_, vl_, hre⟩, hfr, _, hK⟩ := id hrc
  have hck : ∀ i, i < sn S → (sE S i).1 = 14 → ∃ j, si S i = some j := fun i hi h14 => by
    cases hz : si S i with
    | none => have := (hpl i hi).2.1 hz; rw [h14] at this; exact absurd this (by decide)
    | some j => exact ⟨j, rfl⟩
  have hlt : ∀ k, k < sn S → so_fm (sE S k).1 = 2 → ∀ i, i < (D k).1 → sP S k i &&& 255 = sP S k i := fun k hk hf => by
    obtain ⟨d1, d2, d3, d4, d5, d6⟩ := (hrow k hk).1
    exact htx k hk hf _ (d3 (Or.inl hf)).1 (d4 hf)
  refine (c_EF_write (G := G) he hwr htr hn hsd hes hnm hok hm.lf hr3 hr2 live hck).mono (fun v w1 hq => ?_)
  rcases hq with ⟨ht, rfl, hinv⟩ | ⟨ht, rfl, w0, hinv, hpt⟩
  · have hx0 := hR
    obtain ⟨m1, m2, m3, m4, m5⟩ := hinv
    have hS1 := S_eq hS (ds_sm S (wDS S D sf sd live).1) m1 m2 m5
    have hk' : ∀ q, q ∉ [114, 115] ∧ q < 139 → w1.2 q = w.2 q := fun q hq => m4 q hq.2 hq.1
    have hM1 : is_M w1 I v0 A := hM.kp (fun q a b => hk' q (by simp; omega))
    have hrc1 : rc w1 K (we_S S (ds_E (sn S) (sE S) (wDS S D sf sd live).1)) sf sd c f c2 f2 fp hc hf qs hb := ⟨(hk' 100 (by decide)).trans he, ⟨(hk' 101 (by decide)).trans hr1.1, (hk' 102 (by decide)).trans hr1.2⟩, ⟨(hk' 103 (by decide)).trans hr2.1, (hk' 104 (by decide)).trans hr2.2⟩, m3, (hk' 113 (by decide)).trans hwr, (hk' 116 (by decide)).trans hfi, ⟨_, _, _, _, _, _, (hk' 112 (by decide)).trans hre⟩, ⟨(hk' 105 (by decide)).trans hfr.1, (hk' 106 (by decide)).trans hfr.2.1, (hk' 107 (by decide)).trans hfr.2.2⟩, ⟨As, hS1⟩, (hk' 18 (by decide)).trans hK⟩
    refine ⟨_, rfl, ⟨hrc1.2.2.2.2.2.2.2.2.2, _, hM1.1⟩, (c_Mo_write (G := G) hM1 hm live hby hlt f2).mono (fun v2 w2 hq2 => ?_)⟩
    rcases hq2 with ⟨_, rfl, A', hM2, hs2, hA1, hA2⟩ | ⟨z, _⟩
    · exact ⟨rfl, _, D, sf, sd, c, f, c2, f2, fp, hc, hf, qs, hb, I, v0, A', hrc1.mo hs2, hM2, (hm.but hA1 hA2).eq (ds_sm S (wDS S D sf sd live).1), i4, i5, i6, i2, i3, ⟨sz, hd.cg (hA1 130 (by decide)) (hA1 131 (by decide))⟩, ⟨g, g1, by rw [hA1 132 (by decide)]; exact g2⟩, ⟨g', g3, by rw [hA1 133 (by decide)]; exact g4⟩, hby, htx.eq (ds_sm S (wDS S D sf sd live).1)⟩
    · have z : (wDS S D sf sd live).2 ≤ 640 := z
      have ht : 640 < (wDS S D sf sd live).2 := ht
      omega
  · have hx0 := hR
    obtain ⟨m1, m2, m3, m4, m5⟩ := hinv
    obtain ⟨p1, p2, p3, p4, p5⟩ := hpt
    have ht : (wDS S D sf sd live).2 ≤ 640 := ht
    have hcl : (wDS S D sf sd live).2 = (wL S D sf sd live (sn S)).length := wr_D_t hn hm.lf hm.mlt
    have hS1 := S_eq hS (dp_sm S (wDS S D sf sd live).1 (wP S D sf sd live)) p1 p2 (p5.trans m5)
    have hk' : ∀ q, q ∉ [103, 104, 114, 115] ∧ q < 139 → w1.2 q = w.2 q := fun q hq => by
      have h6 := hq.1
      simp at h6
      exact (p4 q hq.2 (by simp; omega)).trans (m4 q hq.2 (by simp; omega))
    have hro3 : ∃ a b, is_Ro w1 114 115 0 a b := by
      obtain ⟨a, b, z⟩ := m3
      exact ⟨a, b, (p4 114 (by decide) (by decide)).trans z.1, (p4 115 (by decide) (by decide)).trans z.2⟩
    have hM1 : is_M w1 I v0 A := hM.kp (fun q a b => hk' q (by simp; omega))
    have hrc1 : rc w1 K (we_S S (dp_E (sn S) (ds_E (sn S) (sE S) (wDS S D sf sd live).1) (wP S D sf sd live))) sf sd c f (wL S D sf sd live (sn S)).length (ck_go (wE S D sf sd live) (si S) (wL S D sf sd live (sn S)).length (wP S D sf sd live) (wDS S D sf sd live).1 (sn S) 0 (ro_bs 640 (wL S D sf sd live (sn S)) f2 0)) fp hc hf qs hb := ⟨(hk' 100 (by decide)).trans he, ⟨(hk' 101 (by decide)).trans hr1.1, (hk' 102 (by decide)).trans hr1.2⟩, p3, hro3, (hk' 113 (by decide)).trans hwr, (hk' 116 (by decide)).trans hfi, ⟨_, _, _, _, _, _, (hk' 112 (by decide)).trans hre⟩, ⟨(hk' 105 (by decide)).trans hfr.1, (hk' 106 (by decide)).trans hfr.2.1, (hk' 107 (by decide)).trans hfr.2.2⟩, ⟨As, hS1⟩, (hk' 18 (by decide)).trans hK⟩
    refine ⟨_, rfl, ⟨hrc1.2.2.2.2.2.2.2.2.2, _, hM1.1⟩, (c_Mo_write (G := G) hM1 hm live hby hlt f2).mono (fun v2 w2 hq2 => ?_)⟩
    rcases hq2 with ⟨z, _⟩ | ⟨_, rfl, A', hM2, hs2, hA1, hA2, hA3⟩
    · omega
    · refine ⟨rfl, _, D, sf, sd, c, f, _, _, fp, hc, hf, qs, hb, _, v0, A', hrc1.mo hs2, hM2, (hm.cg rfl rfl (fun q hq => by have h := rw_nin hq; exact hA1 q h.1 h.2.2 h.2.1) hA2).eq (dp_sm S (wDS S D sf sd live).1 (wP S D sf sd live)), i4, rfl, i6, i2, i3, ⟨sz, hd.cg (hA1 130 (by decide) (by decide) (by decide)) (hA1 131 (by decide) (by decide) (by decide))⟩, ⟨g, g1, by rw [hA1 132 (by decide) (by decide) (by decide)]; exact g2⟩, rd_g.of (by omega) (ck_b _ _ _ (fun x hx => by rw [((bs_get 640 _ f2 0 x (by omega)).2 (Nat.zero_le _) (by omega))]; exact b255 _)) hA3, hby, htx.eq (dp_sm S (wDS S D sf sd live).1 (wP S D sf sd live))⟩
theorem tx_ok.nw {S : Ev_S} {k s : Nat} {x : Int64} (h : tx_ok S) (hk : k < sn S) (hs : ¬ so_fm s = 2) : tx_ok (nw S (some k) s x) := h.ins (mk_pn (fun j hj => by cases hj; exact hk)) (fun z => absurd z hs)
theorem tx_ok.tk {S : Ev_S} {k s : Nat} {L1 : Nat → Option Nat} (h : tx_ok S) (hk : k < sn S) : tx_ok (tk_S S k s L1) := by
  intro t ht hf a ea ha i hi
  have ht : t < (tk_K (sE S) (sa S k) s (sn S) k).length := ht
  have hf : so_fm ((if t < (tk_K (sE S) (sa S k) s (sn S) k).length then el_n (sE S (tk_pi (sE S) (sa S k) s (sn S) k t)) (nI t) else sE S (tk_pi (sE S) (sa S k) s (sn S) k t)) : Ev_E).1 = 2 := hf
  have ea : ((if t < (tk_K (sE S) (sa S k) s (sn S) k).length then el_n (sE S (tk_pi (sE S) (sa S k) s (sn S) k t)) (nI t) else sE S (tk_pi (sE S) (sa S k) s (sn S) k t)) : Ev_E).2.2.1 = lN a := ea
  rw [if_pos ht] at hf ea
  exact h _ (tk_at hk ht).1 hf a ea ha i hi
theorem tx_ok.go {k : Nat} : ∀ (f j bef : Nat) (S : Ev_S), tx_ok S → k < sn S → tx_ok (ix_go k f j bef S)
  | 0, _, _, S, h, _ => h
  | f + 1, j, bef, S, h, hk => by
    rw [ix_go]
    split
    · refine tx_ok.go f (j + 1) (bef + 1) _ ?_ ?_
      · split
        · have hc : cup S k ≤ sn S := mk_pn (fun j hj => by cases hj; exact hk)
          have h1 : tx_ok (cu1 S k) := h.nw hk (by decide)
          have h2 : tx_ok (cu2 S k j) := h1.nw (show cup S k < sn S + 1 by omega) (by decide)
          have h3 : tx_ok (cu3 S k j) := h2.nw (show cup S k < sn S + 2 by omega) (by decide)
          exact h3.nw (show cup S k < sn S + 3 by omega) (by decide)
        · exact h
      · split
        · show k < sn S + 4; omega
        · exact hk
    · exact tx_ok.go f (j + 1) bef S h hk
theorem k_index {G : Ev_G} {w : Ev_W} {K : Option Ev_K} (hR : rl w K) (k : Int32) : bo G M_EF_index M_Mo_index 6 120 1980 3 [.int k] w K := by
  obtain ⟨S, D, sf, sd, c, f, c2, f2, fp, hc, hf, qs, hb, I, v0, A, hrc, hM, hrp⟩ := id hR
  obtain ⟨hm, i4, i5, i6, i2, i3, ⟨sz, hd⟩, ⟨g, g1, g2⟩, ⟨g', g3, g4⟩, hby, htx⟩ := hrp
  obtain ⟨As, htr, hes, hok, hnm, hm60, hfree, h139, hS, hinj⟩ := hrc.ab
  obtain ⟨_, hn, _, hsd, hpo, hpl, hrow, _⟩ := id hm
  obtain ⟨he, hr1, hr2, hr3, hwr, hfi, ⟨ms_, pl_, en_, tg_, vf_, vl_, hre⟩, hfr, _, hK⟩ := id hrc
  refine (c_EF_index (G := G) he hS hsd hpo hfi k).mono (fun v w1 hq => ?_)
  rcases ef_seg_c (sE S) hn k with ⟨j, hj, hsg, h1, rfl⟩ | hsg
  · rw [hsg] at hq
    have hq : ix_post w w1 S sf sd j v := hq
    have hmk : ∀ x, x < sn S → ∀ k, k < sn S → ((sE S x).2.1 = some (sa S k) ↔ si S x = some k) := fun x hx k hk => by
      rw [(hok x hx).2.2.1]
      cases hz : si S x with
      | none => exact ⟨fun z => (by cases z), fun z => (by cases z)⟩
      | some y =>
        have hy := (hok x hx).2.2.2 y hz
        exact ⟨fun z => by rw [hinj y k (by omega) hk (Option.some.inj z)], fun z => by rw [Option.some.inj z]; rfl⟩
    rcases hq with ⟨h60, rfl, hw⟩ | ⟨h60, rfl, L1, As1, hS1, hpo1, hpo2, hk⟩
    · refine ⟨_, rfl, by rw [hw]; exact hR.st, ?_⟩
      rw [hw]
      refine (c_Mo_index (G := G) hM hm hmk hj h1 hsg (fun _ => none)).mono (fun v2 w2 hq2 => ?_)
      rcases hq2 with ⟨_, rfl, rfl⟩ | ⟨z, _⟩
      · exact ⟨rfl, hR⟩
      · omega
    · have hx0 := hR
      have hk' : ∀ q, q ∉ [108, 109, 110] ∧ q < 139 → w1.2 q = w.2 q := fun q hq => hk q hq.2 hq.1
      have hM1 : is_M w1 I v0 A := hM.kp (fun q a b => hk' q (by simp; omega))
      have hrc1 : rc w1 K (ix_S S j L1) sf sd c f c2 f2 fp hc hf qs hb := ⟨(hk' 100 (by decide)).trans he, ⟨(hk' 101 (by decide)).trans hr1.1, (hk' 102 (by decide)).trans hr1.2⟩, ⟨(hk' 103 (by decide)).trans hr2.1, (hk' 104 (by decide)).trans hr2.2⟩, (by obtain ⟨a, b, z⟩ := hr3; exact ⟨a, b, (hk' 114 (by decide)).trans z.1, (hk' 115 (by decide)).trans z.2⟩), (hk' 113 (by decide)).trans hwr, (hk' 116 (by decide)).trans hfi, ⟨_, _, _, _, _, _, (hk' 112 (by decide)).trans hre⟩, ⟨(hk' 105 (by decide)).trans hfr.1, (hk' 106 (by decide)).trans hfr.2.1, (hk' 107 (by decide)).trans hfr.2.2⟩, ⟨As1, hS1⟩, (hk' 18 (by decide)).trans hK⟩
      refine ⟨_, rfl, ⟨hrc1.2.2.2.2.2.2.2.2.2, _, hM1.1⟩, (c_Mo_index (G := G) hM1 hm hmk hj h1 hsg L1).mono (fun v2 w2 hq2 => ?_)⟩
      rcases hq2 with ⟨z, _⟩ | ⟨_, rfl, I', A', D', hM2, hs2, hm2, hI, hA⟩
      · omega
      · have hkk := tk_of (E := sE S) (a := sa S j) (s := 10) (i := j) hj hj (tk_Q_lo (Nat.le_refl j))
        rw [kc_k _ _ _ _ _ (by omega)] at hkk
        exact ⟨rfl, _, D', sf, sd, c, f, c2, f2, fp, hc, hf, qs, hb, I', v0, A', hrc1.mo hs2, hM2, hm2, (hI 4 (by decide)).trans i4, (hI 5 (by decide)).trans i5, (hI 6 (by decide)).trans i6, (hI 2 (by decide)).trans i2, (hI 3 (by decide)).trans i3, ⟨sz, hd.cg (hA 130 (by decide)) (hA 131 (by decide))⟩, ⟨g, g1, by rw [hA 132 (by decide)]; exact g2⟩, ⟨g', g3, by rw [hA 133 (by decide)]; exact g4⟩, hby, tx_ok.go _ _ _ _ (htx.tk hj) hkk.1⟩
  · rw [hsg] at hq
    obtain ⟨hv, hw⟩ : v = some (.int (-1)) ∧ w1 = w := hq
    exact ⟨_, hv, by rw [hw]; exact hR.st, by rw [hw]; exact (c_Mo_indexX (G := G) hM hm k hsg).mono (fun v2 w2 hq2 => ⟨hq2.1, by rw [hq2.2]; exact hR⟩)⟩
