/-! ===== side by side: read ===== -/
theorem pop1_l {E : Nat → Ev_E} {mi : Nat → Option Nat} {p n : Nat} (hmi : ∀ i j, i < n → mi i = some j → j < i) : ∀ (k : Nat) (o : Option Nat), (∀ j, o = some j → j < n) → ∀ j, pop1 E mi p k o = some j → j < n
  | 0, o, h => h
  | k + 1, none, h => fun j hj => by cases hj
  | k + 1, some q, h => by
    rw [pop1]
    have hq := h q rfl
    split
    · exact pop1_l hmi k (mi q) (fun j hj => by have := hmi q j hq hj; omega)
    · exact h
theorem pop2_l {E : Nat → Ev_E} {mi : Nat → Option Nat} {s n : Nat} (hmi : ∀ i j, i < n → mi i = some j → j < i) : ∀ (k : Nat) (o : Option Nat), (∀ j, o = some j → j < n) → ∀ j, pop2 E mi s k o = some j → j < n
  | 0, o, h => h
  | k + 1, none, h => fun j hj => by cases hj
  | k + 1, some q, h => by
    rw [pop2]
    have hq := h q rfl
    split
    · exact pop2_l hmi k (mi q) (fun j hj => by have := hmi q j hq hj; omega)
    · exact h
theorem mi_lt_ins {n p : Nat} {mi : Nat → Option Nat} {o : Option Nat} (h : ∀ i j, i < n → mi i = some j → j < i) (ho : ∀ j, o = some j → j < p) (hpn : p ≤ n) : ∀ i j, i < n + 1 → mi_ins p n o mi i = some j → j < i := fun i j hi hj => by
  by_cases z1 : i < p
  · rw [miI_lo z1] at hj
    exact h i j (by omega) hj
  · by_cases z2 : i = p
    · subst z2
      rw [miI_at] at hj
      exact ho j hj
    · rw [miI_hi (by omega) (by omega)] at hj
      cases hm : mi (i - 1) with
      | none => rw [hm] at hj; cases hj
      | some q =>
        rw [hm] at hj
        have hq := h (i - 1) q (by omega) hm
        have hj : (if q < p then q else q + 1) = j := Option.some.inj hj
        split at hj <;> omega
theorem tx_b {g : Nat → Nat} (hg : ∀ i, g i < 256) : ∀ (k p : Nat) (ov : Bool) (n : Nat) {l : List Nat}, tx g k p ov n = some l → n ≤ 16 → l.length + n ≤ 16 ∧ ∀ i, i < l.length → l.getD i 0 < 256
  | 0, p, ov, n, l, h, hn => by
    rw [tx] at h
    cases h
    exact ⟨by show 0 + n ≤ 16; omega, fun i hi => absurd hi (Nat.not_lt_zero _)⟩
  | k + 1, p, ov, n, l, h, hn => by
    rw [tx] at h
    by_cases z : g p = 0
    · rw [if_pos z] at h
      exact tx_b hg k (p + 1) true n h hn
    · rw [if_neg z] at h
      by_cases y : ov = true ∨ ef_isl (nI (g p)) = false ∨ ¬ n < 16
      · rw [if_pos y] at h; cases h
      · rw [if_neg y] at h
        cases hr : tx g k (p + 1) ov (n + 1) with
        | none => rw [hr] at h; cases h
        | some l2 =>
          rw [hr] at h
          have h : g p :: l2 = l := Option.some.inj h
          subst h
          have hn16 : n < 16 := Nat.lt_of_not_le (fun u => y (Or.inr (Or.inr (by omega))))
          obtain ⟨a1, a2⟩ := tx_b hg k (p + 1) ov (n + 1) hr (by omega)
          refine ⟨by rw [List.length_cons]; omega, fun i hi => ?_⟩
          cases i with
          | zero => exact hg p
          | succ i => exact a2 i (by rw [List.length_cons] at hi; omega)
def rI (T : Ev_RS) : Prop := (∀ i j, i < sn T.1 → si T.1 i = some j → j < i) ∧ (∀ j, T.2.2.2.1 = some j → j < sn T.1) ∧ tx_ok T.1 ∧ ∀ y, y < T.2.2.1 → T.2.1 y &&& 255 = T.2.1 y
theorem rd_2_b {g : Nat → Nat} (hg : ∀ i, g i < 256) {S : Ev_S} {sf : Nat → Int32} {sd : Nat} {m2 : Option Nat} {t : Int32} {q e2 : Nat} {op : Bool} {T : Ev_RS} (h1 : ∀ i j, i < sn S → si S i = some j → j < i) (h2 : ∀ j, m2 = some j → j < sn S) (h3 : tx_ok S) (h4 : ∀ y, y < sd → sf y &&& 255 = sf y) (h : rd_2 g S sf sd m2 t q e2 op = .inr T) : rI T := by
  have hpn : mk_p (sE S) (sn S) m2 ≤ sn S := mk_pn h2
  have hmi : ∀ i j, i < sn S + 1 → mi_ins (mk_p (sE S) (sn S) m2) (sn S) m2 (si S) i = some j → j < i := mi_lt_ins h1 (fun j hj => mk_pk hj) hpn
  unfold rd_2 at h
  by_cases z : so_fm (so_of t) = 0
  · rw [if_pos z] at h
    cases h
    refine ⟨hmi, fun j hj => ?_, h3.ins hpn (fun y => ?_), h4⟩
    · have hj : some (sn S) = some j := hj
      cases hj
      show sn S < sn S + 1
      omega
    · have y : so_fm (so_of t) = 2 := y
      rw [z] at y; exact absurd y (by decide)
  · rw [if_neg z] at h
    cases hl : lfd g q e2 (rd_me (sE S) m2) (so_fm (so_of t)) with
    | none => rw [hl] at h; cases h
    | some l =>
      rw [hl] at h
      cases h
      refine ⟨hmi, fun j hj => ?_, h3.ins hpn (fun y a ea ha i hi => ?_), ?_⟩
      · have := h2 j hj
        show j < sn S + 1
        omega
      · rw [(lf_E_1 _ _ _ _).1] at y
        have y : so_fm (so_of t) = 2 := y
        unfold lfd at hl
        rw [if_neg (by rw [y]; decide), if_pos y] at hl
        cases hx : tx g (e2 - q) q false 0 with
        | none => rw [hx] at hl; cases hl
        | some l2 =>
          rw [hx] at hl
          have hl : (lN l2.length, l2, none, none) = l := Option.some.inj hl
          subst hl
          obtain ⟨b1, b2⟩ := tx_b hg _ _ _ _ hx (by decide)
          have ea : lN l2.length = lN a := ea
          have hal := lN_inj (by omega) (by omega) ea
          show (if i < l2.length then nI (l2.getD i 0) else rd_pf S i) &&& 255 = (if i < l2.length then nI (l2.getD i 0) else rd_pf S i)
          rw [if_pos (by omega)]
          exact nI_b (b2 i (by omega))
      · show ∀ y, y < lf_sd sd e2 l → lf_sf sf sd g e2 l y &&& 255 = lf_sf sf sd g e2 l y
        unfold lf_sd lf_sf
        cases l.2.2.2 with
        | none => exact h4
        | some r =>
          intro y hy
          have hy : y < sd + (e2 - r) := hy
          show (if sd ≤ y ∧ y < sd + (e2 - r) then nI (g (r + (y - sd))) else sf y) &&& 255 = (if sd ≤ y ∧ y < sd + (e2 - r) then nI (g (r + (y - sd))) else sf y)
          by_cases u : sd ≤ y
          · rw [if_pos ⟨u, hy⟩]; exact nI_b (hg _)
          · rw [if_neg (fun v => u v.1)]; exact h4 y (by omega)
theorem rd_1_b {c : Nat} {g : Nat → Nat} (hg : ∀ i, g i < 256) {T T' : Ev_RS} (hI : rI T) (h : rd_1 c g T.1 T.2.1 T.2.2.1 T.2.2.2.1 T.2.2.2.2 = .inr T') : rI T' := by
  obtain ⟨h1, h2, h3, h4⟩ := hI
  unfold rd_1 at h
  split at h
  · cases h
  · split at h
    · cases h
    · split at h
      · cases h
      · split at h
        · cases h
        · split at h
          · cases h
          · exact rd_2_b hg h1 (pop2_l h1 _ _ (pop1_l h1 _ _ h2)) h3 h4 h
theorem rd_go_b {c : Nat} {g : Nat → Nat} (hg : ∀ i, g i < 256) : ∀ (k : Nat) (T : Ev_RS), rI T → rI (rd_go c g k T).2
  | 0, T, h => h
  | k + 1, T, h => by
    rw [rd_go]
    split
    · cases hr : rd_1 c g T.1 T.2.1 T.2.2.1 T.2.2.2.1 T.2.2.2.2 with
      | inl x => exact h
      | inr T' => exact rd_go_b hg k T' (rd_1_b hg h hr)
    · exact h
theorem k_read {G : Ev_G} {w : Ev_W} {K : Option Ev_K} (hR : rl w K) : bo G M_EF_read M_Mo_read 6 122 2013 7 [] w K := by
  obtain ⟨S, D, sf, sd, c, f, c2, f2, fp, hc, hf, qs, hb, I, v0, A, hrc, hM, hrp⟩ := id hR
  obtain ⟨hm, i4, i5, i6, i2, i3, ⟨sz, hd⟩, ⟨g, g1, g2⟩, ⟨g', g3, g4⟩, hby, htx⟩ := hrp
  obtain ⟨As, htr, hes, hok, hnm, hm60, hfree, h139, hS, hinj⟩ := hrc.ab
  obtain ⟨_, hn, _, hsd, hpo, hpl, hrow, _⟩ := id hm
  obtain ⟨he, hr1, hr2, hr3, hwr, hfi, ⟨ms_, pl_, en_, tg_, vf_, vl_, hre⟩, hfr, _, hK⟩ := id hrc
  have hgb : ∀ i, (fun i => if i < c then g i else 0) i < 256 := fun i => by
    show (if i < c then g i else 0) < 256
    by_cases z : i < c
    · rw [if_pos z]; exact (g1.2 i z).2
    · rw [if_neg z]; decide
  have gg : ∀ {h : Nat → Int32}, rd_g c h g → rd_g c h (fun i => if i < c then g i else 0) := fun hz => ⟨hz.1, fun i hi => by
    show _ = nI (if i < c then g i else 0) ∧ (if i < c then g i else 0) < 256
    rw [if_pos hi]; exact hz.2 i hi⟩
  have hI0 : rI (rd_S0 S, sf, 0, none, 0) := ⟨fun i j hi => absurd hi (Nat.not_lt_zero _), (fun j hj => (by cases hj)), fun i hi => absurd hi (Nat.not_lt_zero _), fun i hi => absurd hi (Nat.not_lt_zero _)⟩
  have hbb := rd_go_b (c := c) hgb 61 _ hI0
  refine (c_EF_read (G := G) he hr1 (gg g1) hS hsd hre).mono (fun v w1 hq => ?_)
  have hmr := fun (hM1 : is_M w1 I v0 A) => c_Mo_read (G := G) hM1 i4 (gg g2) S sf
  generalize hRR : rd_go c (fun i => if i < c then g i else 0) 61 (rd_S0 S, sf, 0, none, 0) = R at *
  obtain ⟨o, T⟩ := R
  cases o with
  | some x =>
    obtain ⟨rfl, ⟨S', hS0, hS1⟩, hT6, ⟨y1, y2, y3, y4, y5, y6, hre1⟩, hk⟩ := hq
    have hx0 := hR
    have hk' : ∀ q, q ∉ [108, 109, 110, 111, 112] ∧ q < 139 → w1.2 q = w.2 q := fun q hq => hk q hq.2 hq.1
    have hM1 : is_M w1 I v0 A := hM.kp (fun q a b => hk' q (by simp; omega))
    have hrc1 : rc w1 K S' T.2.1 T.2.2.1 c f c2 f2 (nI T.2.2.2.2) hc hf qs hb := ⟨(hk' 100 (by decide)).trans he, ⟨(hk' 101 (by decide)).trans hr1.1, (hk' 102 (by decide)).trans hr1.2⟩, ⟨(hk' 103 (by decide)).trans hr2.1, (hk' 104 (by decide)).trans hr2.2⟩, (by obtain ⟨a, b, z⟩ := hr3; exact ⟨a, b, (hk' 114 (by decide)).trans z.1, (hk' 115 (by decide)).trans z.2⟩), (hk' 113 (by decide)).trans hwr, (hk' 116 (by decide)).trans hfi, ⟨_, _, _, _, _, _, hre1⟩, ⟨(hk' 105 (by decide)).trans hfr.1, (hk' 106 (by decide)).trans hfr.2.1, (hk' 107 (by decide)).trans hfr.2.2⟩, ⟨As, hS1⟩, (hk' 18 (by decide)).trans hK⟩
    refine ⟨_, rfl, ⟨hrc1.2.2.2.2.2.2.2.2.2, _, hM1.1⟩, (hmr hM1).mono (fun v2 w2 hq2 => ?_)⟩
    obtain ⟨I', v', A', hM2, hs2, ⟨kI, kA⟩, rfl, j0, j1, j2, j6, jh⟩ := hq2
    exact ⟨rfl, S', D, T.2.1, T.2.2.1, c, f, c2, f2, _, hc, hf, qs, hb, I', v', A', hrc1.mo hs2, hM2, ⟨by rw [j0, hS0]; rfl, by omega, j1, j2, fun i hi => by omega, fun i hi => by omega, fun i hi => by omega, jh⟩, (kI 4 (by decide)).trans i4, (kI 5 (by decide)).trans i5, j6, (kI 2 (by decide)).trans i2, (kI 3 (by decide)).trans i3, ⟨sz, hd.cg (kA 130 (by decide) (by decide) (by decide) (by decide)) (kA 131 (by decide) (by decide) (by decide) (by decide))⟩, ⟨g, g1, by rw [kA 132 (by decide) (by decide) (by decide) (by decide)]; exact g2⟩, ⟨g', g3, by rw [kA 133 (by decide) (by decide) (by decide) (by decide)]; exact g4⟩, hbb.2.2.2, fun i hi => by omega⟩
  | none =>
    obtain ⟨rfl, hS1, q2, q3, q4, q5, q6, ⟨y1, y2, y3, y4, hre1⟩, hk⟩ := hq
    have hx0 := hR
    have hk' : ∀ q, q ∉ [108, 109, 110, 111, 112] ∧ q < 139 → w1.2 q = w.2 q := fun q hq => hk q hq.2 hq.1
    have hM1 : is_M w1 I v0 A := hM.kp (fun q a b => hk' q (by simp; omega))
    have hrc1 : rc w1 K T.1 T.2.1 T.2.2.1 c f c2 f2 (-1) hc hf qs hb := ⟨(hk' 100 (by decide)).trans he, ⟨(hk' 101 (by decide)).trans hr1.1, (hk' 102 (by decide)).trans hr1.2⟩, ⟨(hk' 103 (by decide)).trans hr2.1, (hk' 104 (by decide)).trans hr2.2⟩, (by obtain ⟨a, b, z⟩ := hr3; exact ⟨a, b, (hk' 114 (by decide)).trans z.1, (hk' 115 (by decide)).trans z.2⟩), (hk' 113 (by decide)).trans hwr, (hk' 116 (by decide)).trans hfi, ⟨_, _, _, _, _, _, hre1⟩, ⟨(hk' 105 (by decide)).trans hfr.1, (hk' 106 (by decide)).trans hfr.2.1, (hk' 107 (by decide)).trans hfr.2.2⟩, ⟨As, hS1⟩, (hk' 18 (by decide)).trans hK⟩
    refine ⟨_, rfl, ⟨hrc1.2.2.2.2.2.2.2.2.2, _, hM1.1⟩, (hmr hM1).mono (fun v2 w2 hq2 => ?_)⟩
    obtain ⟨I', v', A', hM2, hs2, ⟨kI, kA⟩, rfl, j6, D', hm2⟩ := hq2
    exact ⟨rfl, T.1, D', T.2.1, T.2.2.1, c, f, c2, f2, _, hc, hf, qs, hb, I', v', A', hrc1.mo hs2, hM2, hm2, (kI 4 (by decide)).trans i4, (kI 5 (by decide)).trans i5, j6, (kI 2 (by decide)).trans i2, (kI 3 (by decide)).trans i3, ⟨sz, hd.cg (kA 130 (by decide) (by decide) (by decide) (by decide)) (kA 131 (by decide) (by decide) (by decide) (by decide))⟩, ⟨g, g1, by rw [kA 132 (by decide) (by decide) (by decide) (by decide)]; exact g2⟩, ⟨g', g3, by rw [kA 133 (by decide) (by decide) (by decide) (by decide)]; exact g4⟩, hbb.2.2.2, hbb.2.2.1⟩
