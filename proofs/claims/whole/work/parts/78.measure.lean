/-! ===== the reference: measure ===== -/
def suf (p : Nat → Bool) (v : Nat → Nat) : Nat → Nat → Nat
  | 0, _ => 0
  | t + 1, i => (if p i = true then v i else 0) + suf p v t (i + 1)
theorem suf_snoc (p : Nat → Bool) (v : Nat → Nat) : ∀ t i, suf p v (t + 1) i = suf p v t i + (if p (i + t) = true then v (i + t) else 0)
  | 0, i => by simp [suf]
  | t + 1, i => by rw [suf, suf_snoc p v t (i + 1), suf, show i + 1 + t = i + (t + 1) by omega]; omega
theorem suf_sk (p : Nat → Bool) (v : Nat → Nat) : ∀ a b i, (∀ x, i ≤ x → x < i + a → p x = false) → suf p v (a + b) i = suf p v b (i + a)
  | 0, b, i, h => by rw [Nat.zero_add, Nat.add_zero]
  | a + 1, b, i, h => by
    rw [show a + 1 + b = (a + b) + 1 by omega, suf, if_neg (by rw [h i (Nat.le_refl _) (by omega)]; decide), suf_sk p v a b (i + 1) (fun x h1 h2 => h x (by omega) (by omega)), Nat.zero_add, show i + 1 + a = i + (a + 1) by omega]
theorem suf_cg {p : Nat → Bool} {v v' : Nat → Nat} : ∀ t i, (∀ x, i ≤ x → x < i + t → v x = v' x) → suf p v t i = suf p v' t i
  | 0, i, h => rfl
  | t + 1, i, h => by rw [suf, suf, h i (Nat.le_refl _) (by omega), suf_cg t (i + 1) (fun x h1 h2 => h x (by omega) (by omega))]
/-- measuring: what an element's children add to it -/
theorem me_fix (E : Nat → Ev_E) (mi : Nat → Option Nat) (live : Int32) : ∀ (k : Nat) (d : Nat → Nat) (t : Nat), (∀ i j, i < k → mi i = some j → j < i) → (∀ i, (me_go E mi live k d t).1 i = d i + suf (fun c => decide (mi c = some i)) (fun c => hdl (E c) live ((me_go E mi live k d t).1 c) + (me_go E mi live k d t).1 c) k 0) ∧ (me_go E mi live k d t).2 = t + suf (fun c => decide (mi c = none)) (fun c => hdl (E c) live ((me_go E mi live k d t).1 c) + (me_go E mi live k d t).1 c) k 0
  | 0, d, t, h => ⟨fun i => rfl, rfl⟩
  | k + 1, d, t, h => by
    have hkk := fun (d : Nat → Nat) (t : Nat) => me_keep E mi live k d t (fun i j hi => h i j (by omega)) k (by omega)
    rw [me_go]
    cases hm : mi k with
    | none =>
      dsimp only
      obtain ⟨f1, f2⟩ := me_fix E mi live k d (t + (hdl (E k) live (d k) + d k)) (fun i j hi => h i j (by omega))
      have hk := hkk d (t + (hdl (E k) live (d k) + d k))
      generalize hF : me_go E mi live k d (t + (hdl (E k) live (d k) + d k)) = F at *
      refine ⟨fun i => ?_, ?_⟩
      · rw [suf_snoc, Nat.zero_add, hm, if_neg (by simp), Nat.add_zero]; exact f1 i
      · rw [suf_snoc, Nat.zero_add, hm, if_pos (by simp), hk, f2]; omega
    | some j =>
      dsimp only
      obtain ⟨f1, f2⟩ := me_fix E mi live k (fun i => if i = j then d j + (hdl (E k) live (d k) + d k) else d i) t (fun i j hi => h i j (by omega))
      have hk := hkk (fun i => if i = j then d j + (hdl (E k) live (d k) + d k) else d i) t
      have hjk := h k j (by omega) hm
      rw [if_neg (show ¬ k = j by omega)] at hk
      generalize hF : me_go E mi live k (fun i => if i = j then d j + (hdl (E k) live (d k) + d k) else d i) t = F at *
      refine ⟨fun i => ?_, ?_⟩
      · rw [suf_snoc, Nat.zero_add, hm, hk]
        have h1 := f1 i
        by_cases z : i = j
        · subst z
          rw [if_pos rfl] at h1
          rw [if_pos (by simp)]; omega
        · rw [if_neg z] at h1
          rw [if_neg (by simp; exact fun y => z y.symm)]; omega
      · rw [suf_snoc, Nat.zero_add, hm, if_neg (by simp), Nat.add_zero]; exact f2
theorem so_f8 : ∀ s, s < 17 → ∀ t, t < 17 → so_fits s (so_in t) = true → so_fm t = 0 := by decide +kernel
theorem elD_lf {E : Ev_E} {pf : Nat → Int32} {D : Ev_D} {sd : Nat} (h : el_D E pf D sd) (hsd : sd ≤ 1200) : lf_ok E pf D.1 D.2.1 D.2.2.1 := by
  obtain ⟨d1, d2, d3, d4, d5, d6, d7, d8⟩ := h
  refine ⟨by rw [d1]; exact so_of_lt _, fun z => ?_, fun z => ?_, fun z => ⟨(d5 z).1, fun i hi => ⟨((d5 z).2.2.1 i hi).1, by have := ((d5 z).2.2.1 i hi).2; omega⟩⟩, fun z => ⟨(d7 z).2.1, by have := (d7 z).2.2; omega⟩⟩
  · have := d3 (by rcases z with z | z | z; exact Or.inl z; exact Or.inr (Or.inl z); exact Or.inr (Or.inr (Or.inl z)))
    exact ⟨this.1, by omega⟩
  · rcases z with z | z
    · exact d4 z
    · have := (d5 z).2.1; omega
def lfS (S : Ev_S) (D : Nat → Ev_D) (sf : Nat → Int32) (sd i : Nat) : List Int32 := lf_L sf sd (sE S i) (sP S i) (D i).1 (D i).2.1 (D i).2.2.1
def wDS (S : Ev_S) (D : Nat → Ev_D) (sf : Nat → Int32) (sd : Nat) (live : Int32) : (Nat → Nat) × Nat := wr_D sf sd (sE S) (sP S) (fun i => (D i).1) (fun i => (D i).2.1) (fun i => (D i).2.2.1) (si S) live (sn S)
theorem mdl.lf {I : Nat → Int32} {A : Ev_A} {S : Ev_S} {D : Nat → Ev_D} {sf : Nat → Int32} {sd : Nat} (hm : mdl I A S D sf sd) : ∀ i, i < sn S → lf_ok (sE S i) (sP S i) ((fun i => (D i).1) i) ((fun i => (D i).2.1) i) ((fun i => (D i).2.2.1) i) := fun i hi => elD_lf (hm.2.2.2.2.2.2.1 i hi).1 hm.2.2.2.1
theorem mdl.mlt {I : Nat → Int32} {A : Ev_A} {S : Ev_S} {D : Nat → Ev_D} {sf : Nat → Int32} {sd : Nat} (hm : mdl I A S D sf sd) : ∀ i j, i < sn S → si S i = some j → j < i := fun i j hi hj => ((hm.2.2.2.2.1 i hi).2.2.2 j hj).1
theorem mdl.wb {I : Nat → Int32} {A : Ev_A} {S : Ev_S} {D : Nat → Ev_D} {sf : Nat → Int32} {sd : Nat} (hm : mdl I A S D sf sd) (live : Int32) : ∀ i, i < sn S → (wDS S D sf sd live).1 i ≤ 84960 := wr_D_b hm.2.1 hm.lf hm.mlt
def chv (S : Ev_S) (D : Nat → Ev_D) (sf : Nat → Int32) (sd : Nat) (live : Int32) (c : Nat) : Nat := hdl (sE S c) live ((wDS S D sf sd live).1 c) + (wDS S D sf sd live).1 c
theorem wD_fix {I : Nat → Int32} {A : Ev_A} {S : Ev_S} {D : Nat → Ev_D} {sf : Nat → Int32} {sd : Nat} (hm : mdl I A S D sf sd) (live : Int32) {k : Nat} (hk : k < sn S) : (wDS S D sf sd live).1 k = (lfS S D sf sd k).length + suf (fun c => decide (si S c = some k)) (chv S D sf sd live) (sn S - (k + 1)) (k + 1) := by
  have h1 := (me_fix (sE S) (si S) live (sn S) (fun i => (lfS S D sf sd i).length) 0 hm.mlt).1 k
  have h2 := suf_sk (fun c => decide (si S c = some k)) (chv S D sf sd live) (k + 1) (sn S - (k + 1)) 0 (fun x _ hx => decide_eq_false (fun z => by have := hm.mlt x k (by omega) z; omega))
  rw [Nat.zero_add, show k + 1 + (sn S - (k + 1)) = sn S by omega] at h2
  rw [← h2]
  exact h1
theorem wD_leaf {I : Nat → Int32} {A : Ev_A} {S : Ev_S} {D : Nat → Ev_D} {sf : Nat → Int32} {sd : Nat} (hm : mdl I A S D sf sd) (live : Int32) {k : Nat} (hk : k < sn S) (hf : ¬ so_fm (sE S k).1 = 0) : (wDS S D sf sd live).1 k = (lfS S D sf sd k).length := by
  have h0 : suf (fun c => decide (si S c = some k)) (chv S D sf sd live) (sn S - (k + 1)) (k + 1) = 0 := by
    have := suf_sk (fun c => decide (si S c = some k)) (chv S D sf sd live) (sn S - (k + 1)) 0 (k + 1) (fun x h1 h2 => decide_eq_false (fun z => hf (so_f8 _ (hm.2.2.2.2.2.1 x (by omega)).1 _ (hm.2.2.2.2.2.1 k hk).1 ((hm.2.2.2.2.2.1 x (by omega)).2.2 k z))))
    rw [Nat.add_zero] at this
    rw [this]; rfl
  rw [wD_fix hm live hk, h0, Nat.add_zero]
theorem suf_le {p : Nat → Bool} {v : Nat → Nat} {B : Nat} : ∀ t i, (∀ x, i ≤ x → x < i + t → v x ≤ B) → suf p v t i ≤ t * B
  | 0, i, h => Nat.zero_le _
  | t + 1, i, h => by
    have h1 := suf_le (p := p) t (i + 1) (fun x a b => h x (by omega) (by omega))
    have h2 := h i (Nat.le_refl _) (by omega)
    rw [suf, Nat.succ_mul]; split <;> omega
theorem tg_nI {I : Nat → Int32} {A : Ev_A} {S : Ev_S} {D : Nat → Ev_D} {sf : Nat → Int32} {sd : Nat} (hm : mdl I A S D sf sd) {k : Nat} (hk : k < sn S) : ∃ x, x < 2 ^ 31 ∧ (sE S k).2.2.2 0 = nI x := nI_of (fun z => by have := (hm.2.2.2.2.2.2.1 k hk).1.2.1; rw [i_lt, i_0] at z; omega)
theorem mdl.but {I : Nat → Int32} {A A1 : Ev_A} {S : Ev_S} {D : Nat → Ev_D} {sf : Nat → Int32} {sd : Nat} (hm : mdl I A S D sf sd) (h1 : ∀ q, q ≠ 137 → A1.1 q = A.1 q) (h2 : A1.2 = A.2) : mdl I A1 S D sf sd := by
  obtain ⟨hc, hn, hu, hsd, hpo, hpl, hrow, hhp⟩ := hm
  refine ⟨hc, hn, hu, hsd, hpo, hpl, fun k hk => ?_, fun j hj => by rw [h1 129 (by decide)]; exact hhp j hj⟩
  obtain ⟨r1, r2, r3⟩ := hrow k hk
  refine ⟨r1, ?_, by rw [h1 119 (by decide)]; exact r3⟩
  unfold mq at r2 ⊢
  rw [h1 118 (by decide), h1 121 (by decide), h1 122 (by decide), h1 123 (by decide), h1 124 (by decide), h1 125 (by decide), h1 126 (by decide), h1 127 (by decide), h1 128 (by decide), h2]
  exact r2
set_option maxHeartbeats 2000000 in
theorem c_Mo_measure {G : Ev_G} {w : Ev_W} {I : Nat → Int32} {v0 : Int64} {A : Ev_A} (hM : is_M w I v0 A) {S : Ev_S} {D : Nat → Ev_D} {sf : Nat → Int32} {sd : Nat} (hm : mdl I A S D sf sd) (live : Int32) : ev_Met G M_Mo_measure 2 0 0 [.ref 117, .int live] w (fun v w' => v = none ∧ ∃ A', is_M w' I v0 A' ∧ mo_sm w w' ∧ (∀ q, q ≠ 137 → A'.1 q = A.1 q) ∧ A'.2 = A.2 ∧ ∀ c, c < sn S → A'.1 137 c = nI ((wDS S D sf sd live).1 c)) := by
  refine ev_Met.of md_Mo_measure (Nat.le_of_ble_eq_true rfl) (fun X hX hR => ?_)
  obtain ⟨hc, hn, hu, hsd, hpo, hpl, hrow, hhp⟩ := id hm
  obtain ⟨w0, hw0⟩ : ∃ w0, w0 = w := ⟨_, rfl⟩
  have hs : mo_sm w0 w := by rw [hw0]; exact mo_sm.rf
  have loop : ∀ (k : Nat) (A1 : Ev_A) (w1 : Ev_W) (ls : Ev_L), k ≤ sn S → is_M w1 I v0 A1 → mo_sm w0 w1 → (∀ q, q ≠ 137 → A1.1 q = A.1 q) → A1.2 = A.2 → (∀ c, k ≤ c → c < sn S → A1.1 137 c = nI ((wDS S D sf sd live).1 c)) → ls.1 0 = some (.ref 117) → ls.1 1 = some (.int live) → ls.1 2 = some (.int (nI k - 1)) → ev_W G M_Mo_measure X 0 0 7 ls [] w1 := by
    intro k
    induction k with
    | zero =>
      intro A1 w ls hk0 hM hs hA1 hA2 g2 l0 l1 l2
      refine q_iload hX 2 d_Mo_measure_7 rfl (by first | rfl | assumption) ?_
      refine r_if_lt hX 178 d_Mo_measure_8 (by decide) (fun _ => ?_) (fun c8 => absurd (by decide) c8)
      refine r_vret hX hR d_Mo_measure_178 rfl ?_
      exact ⟨rfl, A1, hM, hw0 ▸ hs, hA1, hA2, fun c hc => g2 c (Nat.zero_le _) hc⟩
    | succ k ih =>
      intro A1 w ls hk0 hM hs hA1 hA2 g2 l0 l1 l2
      rw [nI_pred] at l2
      have hk : k < sn S := by omega
      have hm1 : mdl I A1 S D sf sd := mdl.but hm hA1 hA2
      obtain ⟨hD, hQ, hMa⟩ := hrow k hk
      obtain ⟨d1, d2, d3, d4, d5, d6, d7, d8⟩ := hD
      obtain ⟨q1, q2, q3, q4, q5, q6⟩ := hQ
      have done : ∀ (y : Nat) (w1 : Ev_W) (ls : Ev_L), y = (wDS S D sf sd live).1 k → is_M w1 I v0 A1 → mo_sm w0 w1 → ls.1 0 = some (.ref 117) → ls.1 1 = some (.int live) → ls.1 2 = some (.int (nI k)) → ls.1 4 = some (.int (nI y)) → ev_W G M_Mo_measure X 0 0 164 ls [] w1 := by
        intro y w ls hy hM hs l0 l1 l2 l4
        refine q_aload hX 0 d_Mo_measure_164 rfl (by first | rfl | assumption) ?_
        refine r_getf hX d_Mo_measure_165 fl_Mo_73 hM.1 rfl ?_
        refine q_iload hX 2 d_Mo_measure_168 rfl (by first | rfl | assumption) ?_
        refine r_iload hX d_Mo_measure_169 (by first | rfl | assumption) ?_
        refine r_iastm (c := 137) hX d_Mo_measure_171 hM hs rfl rfl (by omega) (fun w hM hs => ?_)
        refine r_iinc hX d_Mo_measure_172 (by first | rfl | assumption) ?_
        refine r_goto hX 7 d_Mo_measure_175 (by decide) ?_
        refine ih _ w _ (by omega) hM hs (fun q hq => by rw [aset_ne _ _ _ hq]; exact hA1 q hq) hA2 (fun c h1 h2 => ?_) l0 l1 (by show some (Value.int (nI k + Int32.ofInt (-1))) = _; rw [i_dec])
        by_cases z : c = k
        · rw [z, aset_self, hy]
        · rw [aset_off _ _ _ _ _ _ (Or.inr z)]; exact g2 c (by omega) h2
      have loopi : so_fm (sE S k).1 = 0 → ∀ (t i acc : Nat) (w1 : Ev_W) (ls : Ev_L), i + t = sn S → acc ≤ (i - k) * 85000 → acc + suf (fun c => decide (si S c = some k)) (chv S D sf sd live) t i = suf (fun c => decide (si S c = some k)) (chv S D sf sd live) (sn S - (k + 1)) (k + 1) → k < i → is_M w1 I v0 A1 → mo_sm w0 w1 → ls.1 0 = some (.ref 117) → ls.1 1 = some (.int live) → ls.1 2 = some (.int (nI k)) → ls.1 4 = some (.int (nI acc)) → ls.1 5 = some (.int (nI i)) → ev_W G M_Mo_measure X 0 0 80 ls [] w1 := by
        intro hf t
        induction t with
        | zero =>
          intro i acc w ls e1 hac e2 hki hM hs l0 l1 l2 l4 l5
          have hfin : (wDS S D sf sd live).1 k = acc := by
            have hl0 : (lfS S D sf sd k).length = 0 := by
              unfold lfS lf_L
              rw [if_neg (by rw [hf]; decide), if_neg (by rw [hf]; decide), if_neg (by rw [hf]; decide), if_neg (by rw [hf]; decide), if_neg (by rw [hf]; decide), if_neg (by rw [hf]; decide)]; rfl
            rw [wD_fix hm live hk, hl0, ← e2]; show 0 + (acc + 0) = acc; omega
          refine r_iload hX d_Mo_measure_80 (by first | rfl | assumption) ?_
          refine q_aload hX 0 d_Mo_measure_82 rfl (by first | rfl | assumption) ?_
          refine r_getm (J := 0) (x := nI (sn S)) hX d_Mo_measure_83 fl_Mo_86 hM hc rfl ?_
          refine r_icmp_ge hX 164 d_Mo_measure_86 (by decide) (fun _ => ?_) (fun c86 => absurd (nI_le (by omega) (by omega)) c86)
          exact done _ w _ hfin.symm hM hs l0 l1 l2 l4
        | succ t ihi =>
          intro i acc w ls e1 hac e2 hki hM hs l0 l1 l2 l4 l5
          obtain ⟨x, hx, htx⟩ := tg_nI hm (show i < sn S by omega)
          have hwb := hm.wb live i (by omega)
          have hda : A1.1 137 i = nI ((wDS S D sf sd live).1 i) := g2 i (by omega) (by omega)
          have hch : chv S D sf sd live i = hdl (sE S i) live ((wDS S D sf sd live).1 i) + (wDS S D sf sd live).1 i := rfl
          have hdl0 := hdl_le (sE S i) live ((wDS S D sf sd live).1 i)
          have hch85 : chv S D sf sd live i ≤ 85000 := by omega
          cases hop : wr_op (sE S i).1 live with
          | true =>
            by_cases hmi : si S i = some k
            · refine r_iload hX d_Mo_measure_80 (by first | rfl | assumption) ?_
              refine q_aload hX 0 d_Mo_measure_82 rfl (by first | rfl | assumption) ?_
              refine r_getm (J := 0) (x := nI (sn S)) hX d_Mo_measure_83 fl_Mo_86 hM hc rfl ?_
              refine r_icmp_ge hX 164 d_Mo_measure_86 (by decide) (fun c86 => absurd c86 (nI_ge (by omega) (by omega))) (fun _ => ?_)
              refine q_aload hX 0 d_Mo_measure_89 rfl (by first | rfl | assumption) ?_
              refine r_getf hX d_Mo_measure_90 fl_Mo_7 hM.1 rfl ?_
              refine r_iload hX d_Mo_measure_93 (by first | rfl | assumption) ?_
              refine r_ialdm (c := 118) (x := nI x) hX d_Mo_measure_95 hM rfl rfl (by omega) (by rw [hA1 118 (by decide), (hrow i (by omega)).2.1.1, htx]) ?_
              refine r_callS (as := [_]) hX d_Mo_measure_96 lk_Mo_236 rfl (Nat.le_of_ble_eq_true rfl) (by decide) 0 0 (Nat.le_refl _) (Nat.le_refl _) (c_Mo_idWidth (G := G) x hx) (fun v w1 hq => ?_)
              obtain ⟨rfl, hw⟩ := hq
              rw [hw]
              refine q_aload hX 0 d_Mo_measure_99 rfl (by first | rfl | assumption) ?_
              refine r_iload hX d_Mo_measure_100 (by first | rfl | assumption) ?_
              refine q_iload hX 1 d_Mo_measure_102 rfl (by first | rfl | assumption) ?_
              refine r_callV (as := [_, _]) hX d_Mo_measure_103 lk_Mo_239 hM.1 rfl rfl (Nat.le_of_ble_eq_true rfl) (by decide) 0 0 (Nat.le_refl _) (Nat.le_refl _) (c_Mo_isLive (G := G) hM hm1 (j := i) (by omega) live) (fun v w1 hq => ?_)
              obtain ⟨rfl, hw⟩ := hq
              rw [hw, hop]
              refine r_if_eq hX 113 d_Mo_measure_106 (by decide) (fun c106 => absurd c106 (by decide)) (fun _ => ?_)
              refine r_iconst (v := 1) hX d_Mo_measure_109 (by decide) ?_
              refine r_goto hX 124 d_Mo_measure_110 (by decide) ?_
              try rw [nI_1]
              refine r_iadd hX d_Mo_measure_124 ?_
              try rw [nI_1]
              refine r_istore hX d_Mo_measure_125 (by decide) ?_
              refine q_aload hX 0 d_Mo_measure_127 rfl (by first | rfl | assumption) ?_
              refine r_getf hX d_Mo_measure_128 fl_Mo_13 hM.1 rfl ?_
              refine r_iload hX d_Mo_measure_131 (by first | rfl | assumption) ?_
              refine r_ialdm (c := 119) (x := _) hX d_Mo_measure_133 hM rfl rfl (by omega) rfl ?_
              refine q_iload hX 2 d_Mo_measure_134 rfl (by first | rfl | assumption) ?_
              refine r_icmp_ne hX 154 d_Mo_measure_135 (by decide) (fun c135 => absurd ((hm1.ms (by omega) (by omega)).mpr hmi) c135) (fun _ => ?_)
              refine r_iload hX d_Mo_measure_138 (by first | rfl | assumption) ?_
              refine r_iload hX d_Mo_measure_140 (by first | rfl | assumption) ?_
              refine r_iadd hX d_Mo_measure_142 ?_
              rw [nI_add]
              refine q_aload hX 0 d_Mo_measure_143 rfl (by first | rfl | assumption) ?_
              refine r_getf hX d_Mo_measure_144 fl_Mo_73 hM.1 rfl ?_
              refine r_iload hX d_Mo_measure_147 (by first | rfl | assumption) ?_
              refine r_ialdm (c := 137) (x := nI ((wDS S D sf sd live).1 i)) hX d_Mo_measure_149 hM rfl rfl (by omega) hda ?_
              refine r_iadd hX d_Mo_measure_150 ?_
              rw [nI_add]
              refine r_goto hX 156 d_Mo_measure_151 (by decide) ?_
              refine r_istore hX d_Mo_measure_156 (by decide) ?_
              refine r_iinc hX d_Mo_measure_158 (by first | rfl | assumption) ?_
              refine r_goto hX 80 d_Mo_measure_161 (by decide) ?_
              exact ihi (i + 1) (acc + chv S D sf sd live i) w _ (by omega) (by omega) (by rw [← e2, suf, if_pos (decide_eq_true hmi)]; omega) (by omega) hM hs l0 l1 l2 (by
                show some (Value.int (nI _)) = _
                rw [hch, hdl, htx, nI_l hx, if_pos hop]
                refine congrArg (fun q => some (Value.int (nI q))) ?_
                omega) (by show some (Value.int (nI i + Int32.ofInt 1)) = _; rw [show Int32.ofInt 1 = 1 from rfl, nI_1])
            · refine r_iload hX d_Mo_measure_80 (by first | rfl | assumption) ?_
              refine q_aload hX 0 d_Mo_measure_82 rfl (by first | rfl | assumption) ?_
              refine r_getm (J := 0) (x := nI (sn S)) hX d_Mo_measure_83 fl_Mo_86 hM hc rfl ?_
              refine r_icmp_ge hX 164 d_Mo_measure_86 (by decide) (fun c86 => absurd c86 (nI_ge (by omega) (by omega))) (fun _ => ?_)
              refine q_aload hX 0 d_Mo_measure_89 rfl (by first | rfl | assumption) ?_
              refine r_getf hX d_Mo_measure_90 fl_Mo_7 hM.1 rfl ?_
              refine r_iload hX d_Mo_measure_93 (by first | rfl | assumption) ?_
              refine r_ialdm (c := 118) (x := nI x) hX d_Mo_measure_95 hM rfl rfl (by omega) (by rw [hA1 118 (by decide), (hrow i (by omega)).2.1.1, htx]) ?_
              refine r_callS (as := [_]) hX d_Mo_measure_96 lk_Mo_236 rfl (Nat.le_of_ble_eq_true rfl) (by decide) 0 0 (Nat.le_refl _) (Nat.le_refl _) (c_Mo_idWidth (G := G) x hx) (fun v w1 hq => ?_)
              obtain ⟨rfl, hw⟩ := hq
              rw [hw]
              refine q_aload hX 0 d_Mo_measure_99 rfl (by first | rfl | assumption) ?_
              refine r_iload hX d_Mo_measure_100 (by first | rfl | assumption) ?_
              refine q_iload hX 1 d_Mo_measure_102 rfl (by first | rfl | assumption) ?_
              refine r_callV (as := [_, _]) hX d_Mo_measure_103 lk_Mo_239 hM.1 rfl rfl (Nat.le_of_ble_eq_true rfl) (by decide) 0 0 (Nat.le_refl _) (Nat.le_refl _) (c_Mo_isLive (G := G) hM hm1 (j := i) (by omega) live) (fun v w1 hq => ?_)
              obtain ⟨rfl, hw⟩ := hq
              rw [hw, hop]
              refine r_if_eq hX 113 d_Mo_measure_106 (by decide) (fun c106 => absurd c106 (by decide)) (fun _ => ?_)
              refine r_iconst (v := 1) hX d_Mo_measure_109 (by decide) ?_
              refine r_goto hX 124 d_Mo_measure_110 (by decide) ?_
              try rw [nI_1]
              refine r_iadd hX d_Mo_measure_124 ?_
              try rw [nI_1]
              refine r_istore hX d_Mo_measure_125 (by decide) ?_
              refine q_aload hX 0 d_Mo_measure_127 rfl (by first | rfl | assumption) ?_
              refine r_getf hX d_Mo_measure_128 fl_Mo_13 hM.1 rfl ?_
              refine r_iload hX d_Mo_measure_131 (by first | rfl | assumption) ?_
              refine r_ialdm (c := 119) (x := _) hX d_Mo_measure_133 hM rfl rfl (by omega) rfl ?_
              refine q_iload hX 2 d_Mo_measure_134 rfl (by first | rfl | assumption) ?_
              refine r_icmp_ne hX 154 d_Mo_measure_135 (by decide) (fun _ => ?_) (fun c135 => absurd ((hm1.ms (by omega) (by omega)).mp c135) hmi)
              refine r_iload hX d_Mo_measure_154 (by first | rfl | assumption) ?_
              refine r_istore hX d_Mo_measure_156 (by decide) ?_
              refine r_iinc hX d_Mo_measure_158 (by first | rfl | assumption) ?_
              refine r_goto hX 80 d_Mo_measure_161 (by decide) ?_
              exact ihi (i + 1) acc w _ (by omega) (Nat.le_trans hac (Nat.mul_le_mul_right _ (by omega))) (by rw [← e2, suf, if_neg (by simpa using hmi), Nat.zero_add]) (by omega) hM hs l0 l1 l2 rfl (by show some (Value.int (nI i + Int32.ofInt 1)) = _; rw [show Int32.ofInt 1 = 1 from rfl, nI_1])
          | false =>
            by_cases hmi : si S i = some k
            · refine r_iload hX d_Mo_measure_80 (by first | rfl | assumption) ?_
              refine q_aload hX 0 d_Mo_measure_82 rfl (by first | rfl | assumption) ?_
              refine r_getm (J := 0) (x := nI (sn S)) hX d_Mo_measure_83 fl_Mo_86 hM hc rfl ?_
              refine r_icmp_ge hX 164 d_Mo_measure_86 (by decide) (fun c86 => absurd c86 (nI_ge (by omega) (by omega))) (fun _ => ?_)
              refine q_aload hX 0 d_Mo_measure_89 rfl (by first | rfl | assumption) ?_
              refine r_getf hX d_Mo_measure_90 fl_Mo_7 hM.1 rfl ?_
              refine r_iload hX d_Mo_measure_93 (by first | rfl | assumption) ?_
              refine r_ialdm (c := 118) (x := nI x) hX d_Mo_measure_95 hM rfl rfl (by omega) (by rw [hA1 118 (by decide), (hrow i (by omega)).2.1.1, htx]) ?_
              refine r_callS (as := [_]) hX d_Mo_measure_96 lk_Mo_236 rfl (Nat.le_of_ble_eq_true rfl) (by decide) 0 0 (Nat.le_refl _) (Nat.le_refl _) (c_Mo_idWidth (G := G) x hx) (fun v w1 hq => ?_)
              obtain ⟨rfl, hw⟩ := hq
              rw [hw]
              refine q_aload hX 0 d_Mo_measure_99 rfl (by first | rfl | assumption) ?_
              refine r_iload hX d_Mo_measure_100 (by first | rfl | assumption) ?_
              refine q_iload hX 1 d_Mo_measure_102 rfl (by first | rfl | assumption) ?_
              refine r_callV (as := [_, _]) hX d_Mo_measure_103 lk_Mo_239 hM.1 rfl rfl (Nat.le_of_ble_eq_true rfl) (by decide) 0 0 (Nat.le_refl _) (Nat.le_refl _) (c_Mo_isLive (G := G) hM hm1 (j := i) (by omega) live) (fun v w1 hq => ?_)
              obtain ⟨rfl, hw⟩ := hq
              rw [hw, hop]
              refine r_if_eq hX 113 d_Mo_measure_106 (by decide) (fun _ => ?_) (fun c106 => absurd rfl c106)
              refine q_aload hX 0 d_Mo_measure_113 rfl (by first | rfl | assumption) ?_
              refine r_getf hX d_Mo_measure_114 fl_Mo_73 hM.1 rfl ?_
              refine r_iload hX d_Mo_measure_117 (by first | rfl | assumption) ?_
              refine r_ialdm (c := 137) (x := nI ((wDS S D sf sd live).1 i)) hX d_Mo_measure_119 hM rfl rfl (by omega) hda ?_
              refine r_i2l hX d_Mo_measure_120 ?_
              rw [nI_l (by omega)]
              refine r_callS (as := [_]) hX d_Mo_measure_121 lk_Mo_223 rfl (Nat.le_of_ble_eq_true rfl) (by decide) 0 0 (Nat.le_refl _) (Nat.le_refl _) (c_Mo_widthFor (G := G) ((wDS S D sf sd live).1 i) (by omega)) (fun v w1 hq => ?_)
              obtain ⟨rfl, hw⟩ := hq
              rw [hw]
              refine r_iadd hX d_Mo_measure_124 ?_
              rw [nI_add]
              refine r_istore hX d_Mo_measure_125 (by decide) ?_
              refine q_aload hX 0 d_Mo_measure_127 rfl (by first | rfl | assumption) ?_
              refine r_getf hX d_Mo_measure_128 fl_Mo_13 hM.1 rfl ?_
              refine r_iload hX d_Mo_measure_131 (by first | rfl | assumption) ?_
              refine r_ialdm (c := 119) (x := _) hX d_Mo_measure_133 hM rfl rfl (by omega) rfl ?_
              refine q_iload hX 2 d_Mo_measure_134 rfl (by first | rfl | assumption) ?_
              refine r_icmp_ne hX 154 d_Mo_measure_135 (by decide) (fun c135 => absurd ((hm1.ms (by omega) (by omega)).mpr hmi) c135) (fun _ => ?_)
              refine r_iload hX d_Mo_measure_138 (by first | rfl | assumption) ?_
              refine r_iload hX d_Mo_measure_140 (by first | rfl | assumption) ?_
              refine r_iadd hX d_Mo_measure_142 ?_
              rw [nI_add]
              refine q_aload hX 0 d_Mo_measure_143 rfl (by first | rfl | assumption) ?_
              refine r_getf hX d_Mo_measure_144 fl_Mo_73 hM.1 rfl ?_
              refine r_iload hX d_Mo_measure_147 (by first | rfl | assumption) ?_
              refine r_ialdm (c := 137) (x := nI ((wDS S D sf sd live).1 i)) hX d_Mo_measure_149 hM rfl rfl (by omega) hda ?_
              refine r_iadd hX d_Mo_measure_150 ?_
              rw [nI_add]
              refine r_goto hX 156 d_Mo_measure_151 (by decide) ?_
              refine r_istore hX d_Mo_measure_156 (by decide) ?_
              refine r_iinc hX d_Mo_measure_158 (by first | rfl | assumption) ?_
              refine r_goto hX 80 d_Mo_measure_161 (by decide) ?_
              exact ihi (i + 1) (acc + chv S D sf sd live i) w _ (by omega) (by omega) (by rw [← e2, suf, if_pos (decide_eq_true hmi)]; omega) (by omega) hM hs l0 l1 l2 (by
                show some (Value.int (nI _)) = _
                rw [hch, hdl, htx, nI_l hx, if_neg (by rw [hop]; decide)]
                refine congrArg (fun q => some (Value.int (nI q))) ?_
                omega) (by show some (Value.int (nI i + Int32.ofInt 1)) = _; rw [show Int32.ofInt 1 = 1 from rfl, nI_1])
            · refine r_iload hX d_Mo_measure_80 (by first | rfl | assumption) ?_
              refine q_aload hX 0 d_Mo_measure_82 rfl (by first | rfl | assumption) ?_
              refine r_getm (J := 0) (x := nI (sn S)) hX d_Mo_measure_83 fl_Mo_86 hM hc rfl ?_
              refine r_icmp_ge hX 164 d_Mo_measure_86 (by decide) (fun c86 => absurd c86 (nI_ge (by omega) (by omega))) (fun _ => ?_)
              refine q_aload hX 0 d_Mo_measure_89 rfl (by first | rfl | assumption) ?_
              refine r_getf hX d_Mo_measure_90 fl_Mo_7 hM.1 rfl ?_
              refine r_iload hX d_Mo_measure_93 (by first | rfl | assumption) ?_
              refine r_ialdm (c := 118) (x := nI x) hX d_Mo_measure_95 hM rfl rfl (by omega) (by rw [hA1 118 (by decide), (hrow i (by omega)).2.1.1, htx]) ?_
              refine r_callS (as := [_]) hX d_Mo_measure_96 lk_Mo_236 rfl (Nat.le_of_ble_eq_true rfl) (by decide) 0 0 (Nat.le_refl _) (Nat.le_refl _) (c_Mo_idWidth (G := G) x hx) (fun v w1 hq => ?_)
              obtain ⟨rfl, hw⟩ := hq
              rw [hw]
              refine q_aload hX 0 d_Mo_measure_99 rfl (by first | rfl | assumption) ?_
              refine r_iload hX d_Mo_measure_100 (by first | rfl | assumption) ?_
              refine q_iload hX 1 d_Mo_measure_102 rfl (by first | rfl | assumption) ?_
              refine r_callV (as := [_, _]) hX d_Mo_measure_103 lk_Mo_239 hM.1 rfl rfl (Nat.le_of_ble_eq_true rfl) (by decide) 0 0 (Nat.le_refl _) (Nat.le_refl _) (c_Mo_isLive (G := G) hM hm1 (j := i) (by omega) live) (fun v w1 hq => ?_)
              obtain ⟨rfl, hw⟩ := hq
              rw [hw, hop]
              refine r_if_eq hX 113 d_Mo_measure_106 (by decide) (fun _ => ?_) (fun c106 => absurd rfl c106)
              refine q_aload hX 0 d_Mo_measure_113 rfl (by first | rfl | assumption) ?_
              refine r_getf hX d_Mo_measure_114 fl_Mo_73 hM.1 rfl ?_
              refine r_iload hX d_Mo_measure_117 (by first | rfl | assumption) ?_
              refine r_ialdm (c := 137) (x := nI ((wDS S D sf sd live).1 i)) hX d_Mo_measure_119 hM rfl rfl (by omega) hda ?_
              refine r_i2l hX d_Mo_measure_120 ?_
              rw [nI_l (by omega)]
              refine r_callS (as := [_]) hX d_Mo_measure_121 lk_Mo_223 rfl (Nat.le_of_ble_eq_true rfl) (by decide) 0 0 (Nat.le_refl _) (Nat.le_refl _) (c_Mo_widthFor (G := G) ((wDS S D sf sd live).1 i) (by omega)) (fun v w1 hq => ?_)
              obtain ⟨rfl, hw⟩ := hq
              rw [hw]
              refine r_iadd hX d_Mo_measure_124 ?_
              rw [nI_add]
              refine r_istore hX d_Mo_measure_125 (by decide) ?_
              refine q_aload hX 0 d_Mo_measure_127 rfl (by first | rfl | assumption) ?_
              refine r_getf hX d_Mo_measure_128 fl_Mo_13 hM.1 rfl ?_
              refine r_iload hX d_Mo_measure_131 (by first | rfl | assumption) ?_
              refine r_ialdm (c := 119) (x := _) hX d_Mo_measure_133 hM rfl rfl (by omega) rfl ?_
              refine q_iload hX 2 d_Mo_measure_134 rfl (by first | rfl | assumption) ?_
              refine r_icmp_ne hX 154 d_Mo_measure_135 (by decide) (fun _ => ?_) (fun c135 => absurd ((hm1.ms (by omega) (by omega)).mp c135) hmi)
              refine r_iload hX d_Mo_measure_154 (by first | rfl | assumption) ?_
              refine r_istore hX d_Mo_measure_156 (by decide) ?_
              refine r_iinc hX d_Mo_measure_158 (by first | rfl | assumption) ?_
              refine r_goto hX 80 d_Mo_measure_161 (by decide) ?_
              exact ihi (i + 1) acc w _ (by omega) (Nat.le_trans hac (Nat.mul_le_mul_right _ (by omega))) (by rw [← e2, suf, if_neg (by simpa using hmi), Nat.zero_add]) (by omega) hM hs l0 l1 l2 rfl (by show some (Value.int (nI i + Int32.ofInt 1)) = _; rw [show Int32.ofInt 1 = 1 from rfl, nI_1])
      rcases so_fm_c _ (hpl k hk).1 with hf | hf | hf | hf | hf | hf | hf
      · refine q_iload hX 2 d_Mo_measure_7 rfl (by first | rfl | assumption) ?_
        refine r_if_lt hX 178 d_Mo_measure_8 (by decide) (fun c8 => absurd c8 (nI_pos (by omega))) (fun _ => ?_)
        refine q_aload hX 0 d_Mo_measure_11 rfl (by first | rfl | assumption) ?_
        refine r_getf hX d_Mo_measure_12 fl_Mo_7 hM.1 rfl ?_
        refine q_iload hX 2 d_Mo_measure_15 rfl (by first | rfl | assumption) ?_
        refine r_ialdm (c := 118) (x := (sE S k).2.2.2 0) hX d_Mo_measure_16 hM rfl rfl (by omega) (by rw [hA1 118 (by decide)]; exact q1) ?_
        refine r_callS (as := [_]) hX d_Mo_measure_17 lk_Mo_82 rfl (Nat.le_of_ble_eq_true rfl) (by decide) 0 0 (Nat.le_refl _) (Nat.le_refl _) (c_Mo_kindOf (G := G) _) (fun v w1 hq => ?_)
        obtain ⟨rfl, hw⟩ := hq
        rw [hw, ← d1, hf]
        refine q_istore hX 3 d_Mo_measure_20 rfl (by decide) ?_
        refine q_iload hX 3 d_Mo_measure_21 rfl (by first | rfl | assumption) ?_
        refine r_iconst (v := 1) hX d_Mo_measure_22 (by decide) ?_
        refine r_icmp_ne hX 38 d_Mo_measure_23 (by decide) (fun _ => ?_) (fun c23 => absurd c23 (by decide))
        refine q_iload hX 3 d_Mo_measure_38 rfl (by first | rfl | assumption) ?_
        refine r_iconst (v := 4) hX d_Mo_measure_39 (by decide) ?_
        refine r_icmp_ne hX 47 d_Mo_measure_40 (by decide) (fun _ => ?_) (fun c40 => absurd c40 (by decide))
        refine q_iload hX 3 d_Mo_measure_47 rfl (by first | rfl | assumption) ?_
        refine r_iconst (v := 3) hX d_Mo_measure_48 (by decide) ?_
        refine r_icmp_ne hX 60 d_Mo_measure_49 (by decide) (fun _ => ?_) (fun c49 => absurd c49 (by decide))
        refine q_aload hX 0 d_Mo_measure_60 rfl (by first | rfl | assumption) ?_
        refine r_getf hX d_Mo_measure_61 fl_Mo_20 hM.1 rfl ?_
        refine q_iload hX 2 d_Mo_measure_64 rfl (by first | rfl | assumption) ?_
        refine r_ialdm (c := 121) (x := _) hX d_Mo_measure_65 hM rfl rfl (by omega) rfl ?_
        refine r_istore hX d_Mo_measure_66 (by decide) ?_
        refine q_iload hX 3 d_Mo_measure_68 rfl (by first | rfl | assumption) ?_
        refine r_if_ne hX 164 d_Mo_measure_69 (by decide) (fun c69 => absurd rfl c69) (fun _ => ?_)
        refine r_iconst (v := 0) hX d_Mo_measure_72 (by decide) ?_
        refine r_istore hX d_Mo_measure_73 (by decide) ?_
        refine q_iload hX 2 d_Mo_measure_75 rfl (by first | rfl | assumption) ?_
        refine r_iconst (v := 1) hX d_Mo_measure_76 (by decide) ?_
        refine r_iadd hX d_Mo_measure_77 ?_
        refine r_istore hX d_Mo_measure_78 (by decide) ?_
        exact loopi hf (sn S - (k + 1)) (k + 1) 0 w _ (by omega) (Nat.zero_le _) (by omega) (by omega) hM hs l0 l1 l2 rfl (by show some (Value.int (nI k + 1)) = _; rw [nI_1])
      · refine q_iload hX 2 d_Mo_measure_7 rfl (by first | rfl | assumption) ?_
        refine r_if_lt hX 178 d_Mo_measure_8 (by decide) (fun c8 => absurd c8 (nI_pos (by omega))) (fun _ => ?_)
        refine q_aload hX 0 d_Mo_measure_11 rfl (by first | rfl | assumption) ?_
        refine r_getf hX d_Mo_measure_12 fl_Mo_7 hM.1 rfl ?_
        refine q_iload hX 2 d_Mo_measure_15 rfl (by first | rfl | assumption) ?_
        refine r_ialdm (c := 118) (x := (sE S k).2.2.2 0) hX d_Mo_measure_16 hM rfl rfl (by omega) (by rw [hA1 118 (by decide)]; exact q1) ?_
        refine r_callS (as := [_]) hX d_Mo_measure_17 lk_Mo_82 rfl (Nat.le_of_ble_eq_true rfl) (by decide) 0 0 (Nat.le_refl _) (Nat.le_refl _) (c_Mo_kindOf (G := G) _) (fun v w1 hq => ?_)
        obtain ⟨rfl, hw⟩ := hq
        rw [hw, ← d1, hf]
        refine q_istore hX 3 d_Mo_measure_20 rfl (by decide) ?_
        refine q_iload hX 3 d_Mo_measure_21 rfl (by first | rfl | assumption) ?_
        refine r_iconst (v := 1) hX d_Mo_measure_22 (by decide) ?_
        refine r_icmp_ne hX 38 d_Mo_measure_23 (by decide) (fun c23 => absurd rfl c23) (fun _ => ?_)
        refine q_aload hX 0 d_Mo_measure_26 rfl (by first | rfl | assumption) ?_
        refine r_getf hX d_Mo_measure_27 fl_Mo_16 hM.1 rfl ?_
        refine q_iload hX 2 d_Mo_measure_30 rfl (by first | rfl | assumption) ?_
        refine r_laldm (x := (sE S k).2.2.1) hX d_Mo_measure_31 hM rfl (by omega) (by rw [hA2]; exact q2 hf) ?_
        refine r_callS (as := [_]) hX d_Mo_measure_32 lk_Mo_230 rfl (Nat.le_of_ble_eq_true rfl) (by decide) 0 0 (Nat.le_refl _) (Nat.le_refl _) (c_Mo_numberBytes (G := G) _) (fun v w1 hq => ?_)
        obtain ⟨rfl, hw⟩ := hq
        rw [hw]
        refine r_goto hX 66 d_Mo_measure_35 (by decide) ?_
        refine r_istore hX d_Mo_measure_66 (by decide) ?_
        refine q_iload hX 3 d_Mo_measure_68 rfl (by first | rfl | assumption) ?_
        refine r_if_ne hX 164 d_Mo_measure_69 (by decide) (fun _ => ?_) (fun c69 => absurd c69 (by decide))
        exact done (wr_fb (sE S k).2.2.1 7 1) w _ (by rw [wD_leaf hm live hk (by rw [hf]; decide)]; rw [lfS, lf_L, if_pos hf, nm_len]) hM hs l0 l1 l2 rfl
      · refine q_iload hX 2 d_Mo_measure_7 rfl (by first | rfl | assumption) ?_
        refine r_if_lt hX 178 d_Mo_measure_8 (by decide) (fun c8 => absurd c8 (nI_pos (by omega))) (fun _ => ?_)
        refine q_aload hX 0 d_Mo_measure_11 rfl (by first | rfl | assumption) ?_
        refine r_getf hX d_Mo_measure_12 fl_Mo_7 hM.1 rfl ?_
        refine q_iload hX 2 d_Mo_measure_15 rfl (by first | rfl | assumption) ?_
        refine r_ialdm (c := 118) (x := (sE S k).2.2.2 0) hX d_Mo_measure_16 hM rfl rfl (by omega) (by rw [hA1 118 (by decide)]; exact q1) ?_
        refine r_callS (as := [_]) hX d_Mo_measure_17 lk_Mo_82 rfl (Nat.le_of_ble_eq_true rfl) (by decide) 0 0 (Nat.le_refl _) (Nat.le_refl _) (c_Mo_kindOf (G := G) _) (fun v w1 hq => ?_)
        obtain ⟨rfl, hw⟩ := hq
        rw [hw, ← d1, hf]
        refine q_istore hX 3 d_Mo_measure_20 rfl (by decide) ?_
        refine q_iload hX 3 d_Mo_measure_21 rfl (by first | rfl | assumption) ?_
        refine r_iconst (v := 1) hX d_Mo_measure_22 (by decide) ?_
        refine r_icmp_ne hX 38 d_Mo_measure_23 (by decide) (fun _ => ?_) (fun c23 => absurd c23 (by decide))
        refine q_iload hX 3 d_Mo_measure_38 rfl (by first | rfl | assumption) ?_
        refine r_iconst (v := 4) hX d_Mo_measure_39 (by decide) ?_
        refine r_icmp_ne hX 47 d_Mo_measure_40 (by decide) (fun _ => ?_) (fun c40 => absurd c40 (by decide))
        refine q_iload hX 3 d_Mo_measure_47 rfl (by first | rfl | assumption) ?_
        refine r_iconst (v := 3) hX d_Mo_measure_48 (by decide) ?_
        refine r_icmp_ne hX 60 d_Mo_measure_49 (by decide) (fun _ => ?_) (fun c49 => absurd c49 (by decide))
        refine q_aload hX 0 d_Mo_measure_60 rfl (by first | rfl | assumption) ?_
        refine r_getf hX d_Mo_measure_61 fl_Mo_20 hM.1 rfl ?_
        refine q_iload hX 2 d_Mo_measure_64 rfl (by first | rfl | assumption) ?_
        refine r_ialdm (c := 121) (x := nI (D k).1) hX d_Mo_measure_65 hM rfl rfl (by omega) (by rw [hA1 121 (by decide)]; exact q3 (Or.inl hf)) ?_
        refine r_istore hX d_Mo_measure_66 (by decide) ?_
        refine q_iload hX 3 d_Mo_measure_68 rfl (by first | rfl | assumption) ?_
        refine r_if_ne hX 164 d_Mo_measure_69 (by decide) (fun _ => ?_) (fun c69 => absurd c69 (by decide))
        exact done (D k).1 w _ (by rw [wD_leaf hm live hk (by rw [hf]; decide)]; rw [lfS, lf_L, if_neg (by rw [hf]; decide), if_pos hf, pt_len]) hM hs l0 l1 l2 rfl
      · refine q_iload hX 2 d_Mo_measure_7 rfl (by first | rfl | assumption) ?_
        refine r_if_lt hX 178 d_Mo_measure_8 (by decide) (fun c8 => absurd c8 (nI_pos (by omega))) (fun _ => ?_)
        refine q_aload hX 0 d_Mo_measure_11 rfl (by first | rfl | assumption) ?_
        refine r_getf hX d_Mo_measure_12 fl_Mo_7 hM.1 rfl ?_
        refine q_iload hX 2 d_Mo_measure_15 rfl (by first | rfl | assumption) ?_
        refine r_ialdm (c := 118) (x := (sE S k).2.2.2 0) hX d_Mo_measure_16 hM rfl rfl (by omega) (by rw [hA1 118 (by decide)]; exact q1) ?_
        refine r_callS (as := [_]) hX d_Mo_measure_17 lk_Mo_82 rfl (Nat.le_of_ble_eq_true rfl) (by decide) 0 0 (Nat.le_refl _) (Nat.le_refl _) (c_Mo_kindOf (G := G) _) (fun v w1 hq => ?_)
        obtain ⟨rfl, hw⟩ := hq
        rw [hw, ← d1, hf]
        refine q_istore hX 3 d_Mo_measure_20 rfl (by decide) ?_
        refine q_iload hX 3 d_Mo_measure_21 rfl (by first | rfl | assumption) ?_
        refine r_iconst (v := 1) hX d_Mo_measure_22 (by decide) ?_
        refine r_icmp_ne hX 38 d_Mo_measure_23 (by decide) (fun _ => ?_) (fun c23 => absurd c23 (by decide))
        refine q_iload hX 3 d_Mo_measure_38 rfl (by first | rfl | assumption) ?_
        refine r_iconst (v := 4) hX d_Mo_measure_39 (by decide) ?_
        refine r_icmp_ne hX 47 d_Mo_measure_40 (by decide) (fun _ => ?_) (fun c40 => absurd c40 (by decide))
        refine q_iload hX 3 d_Mo_measure_47 rfl (by first | rfl | assumption) ?_
        refine r_iconst (v := 3) hX d_Mo_measure_48 (by decide) ?_
        refine r_icmp_ne hX 60 d_Mo_measure_49 (by decide) (fun c49 => absurd rfl c49) (fun _ => ?_)
        refine q_aload hX 0 d_Mo_measure_52 rfl (by first | rfl | assumption) ?_
        refine q_iload hX 2 d_Mo_measure_53 rfl (by first | rfl | assumption) ?_
        refine r_callV (as := [_]) hX d_Mo_measure_54 lk_Mo_233 hM.1 rfl rfl (Nat.le_of_ble_eq_true rfl) (by decide) 0 0 (Nat.le_refl _) (Nat.le_refl _) (c_Mo_blockBytes (G := G) hM hm1 hk hf) (fun v w1 hq => ?_)
        obtain ⟨rfl, hw⟩ := hq
        rw [hw]
        refine r_goto hX 66 d_Mo_measure_57 (by decide) ?_
        refine r_istore hX d_Mo_measure_66 (by decide) ?_
        refine q_iload hX 3 d_Mo_measure_68 rfl (by first | rfl | assumption) ?_
        refine r_if_ne hX 164 d_Mo_measure_69 (by decide) (fun _ => ?_) (fun c69 => absurd c69 (by decide))
        exact done _ w _ (by rw [wD_leaf hm live hk (by rw [hf]; decide)]; rw [lfS, lf_L, if_neg (by rw [hf]; decide), if_neg (by rw [hf]; decide), if_pos hf]) hM hs l0 l1 l2 rfl
      · refine q_iload hX 2 d_Mo_measure_7 rfl (by first | rfl | assumption) ?_
        refine r_if_lt hX 178 d_Mo_measure_8 (by decide) (fun c8 => absurd c8 (nI_pos (by omega))) (fun _ => ?_)
        refine q_aload hX 0 d_Mo_measure_11 rfl (by first | rfl | assumption) ?_
        refine r_getf hX d_Mo_measure_12 fl_Mo_7 hM.1 rfl ?_
        refine q_iload hX 2 d_Mo_measure_15 rfl (by first | rfl | assumption) ?_
        refine r_ialdm (c := 118) (x := (sE S k).2.2.2 0) hX d_Mo_measure_16 hM rfl rfl (by omega) (by rw [hA1 118 (by decide)]; exact q1) ?_
        refine r_callS (as := [_]) hX d_Mo_measure_17 lk_Mo_82 rfl (Nat.le_of_ble_eq_true rfl) (by decide) 0 0 (Nat.le_refl _) (Nat.le_refl _) (c_Mo_kindOf (G := G) _) (fun v w1 hq => ?_)
        obtain ⟨rfl, hw⟩ := hq
        rw [hw, ← d1, hf]
        refine q_istore hX 3 d_Mo_measure_20 rfl (by decide) ?_
        refine q_iload hX 3 d_Mo_measure_21 rfl (by first | rfl | assumption) ?_
        refine r_iconst (v := 1) hX d_Mo_measure_22 (by decide) ?_
        refine r_icmp_ne hX 38 d_Mo_measure_23 (by decide) (fun _ => ?_) (fun c23 => absurd c23 (by decide))
        refine q_iload hX 3 d_Mo_measure_38 rfl (by first | rfl | assumption) ?_
        refine r_iconst (v := 4) hX d_Mo_measure_39 (by decide) ?_
        refine r_icmp_ne hX 47 d_Mo_measure_40 (by decide) (fun c40 => absurd rfl c40) (fun _ => ?_)
        refine r_iconst (v := 4) hX d_Mo_measure_43 (by decide) ?_
        refine r_goto hX 66 d_Mo_measure_44 (by decide) ?_
        refine r_istore hX d_Mo_measure_66 (by decide) ?_
        refine q_iload hX 3 d_Mo_measure_68 rfl (by first | rfl | assumption) ?_
        refine r_if_ne hX 164 d_Mo_measure_69 (by decide) (fun _ => ?_) (fun c69 => absurd c69 (by decide))
        exact done 4 w _ (by rw [wD_leaf hm live hk (by rw [hf]; decide)]; rw [lfS, lf_L, if_neg (by rw [hf]; decide), if_neg (by rw [hf]; decide), if_neg (by rw [hf]; decide), if_pos hf]; rfl) hM hs l0 l1 l2 rfl
      · refine q_iload hX 2 d_Mo_measure_7 rfl (by first | rfl | assumption) ?_
        refine r_if_lt hX 178 d_Mo_measure_8 (by decide) (fun c8 => absurd c8 (nI_pos (by omega))) (fun _ => ?_)
        refine q_aload hX 0 d_Mo_measure_11 rfl (by first | rfl | assumption) ?_
        refine r_getf hX d_Mo_measure_12 fl_Mo_7 hM.1 rfl ?_
        refine q_iload hX 2 d_Mo_measure_15 rfl (by first | rfl | assumption) ?_
        refine r_ialdm (c := 118) (x := (sE S k).2.2.2 0) hX d_Mo_measure_16 hM rfl rfl (by omega) (by rw [hA1 118 (by decide)]; exact q1) ?_
        refine r_callS (as := [_]) hX d_Mo_measure_17 lk_Mo_82 rfl (Nat.le_of_ble_eq_true rfl) (by decide) 0 0 (Nat.le_refl _) (Nat.le_refl _) (c_Mo_kindOf (G := G) _) (fun v w1 hq => ?_)
        obtain ⟨rfl, hw⟩ := hq
        rw [hw, ← d1, hf]
        refine q_istore hX 3 d_Mo_measure_20 rfl (by decide) ?_
        refine q_iload hX 3 d_Mo_measure_21 rfl (by first | rfl | assumption) ?_
        refine r_iconst (v := 1) hX d_Mo_measure_22 (by decide) ?_
        refine r_icmp_ne hX 38 d_Mo_measure_23 (by decide) (fun _ => ?_) (fun c23 => absurd c23 (by decide))
        refine q_iload hX 3 d_Mo_measure_38 rfl (by first | rfl | assumption) ?_
        refine r_iconst (v := 4) hX d_Mo_measure_39 (by decide) ?_
        refine r_icmp_ne hX 47 d_Mo_measure_40 (by decide) (fun _ => ?_) (fun c40 => absurd c40 (by decide))
        refine q_iload hX 3 d_Mo_measure_47 rfl (by first | rfl | assumption) ?_
        refine r_iconst (v := 3) hX d_Mo_measure_48 (by decide) ?_
        refine r_icmp_ne hX 60 d_Mo_measure_49 (by decide) (fun _ => ?_) (fun c49 => absurd c49 (by decide))
        refine q_aload hX 0 d_Mo_measure_60 rfl (by first | rfl | assumption) ?_
        refine r_getf hX d_Mo_measure_61 fl_Mo_20 hM.1 rfl ?_
        refine q_iload hX 2 d_Mo_measure_64 rfl (by first | rfl | assumption) ?_
        refine r_ialdm (c := 121) (x := nI (D k).1) hX d_Mo_measure_65 hM rfl rfl (by omega) (by rw [hA1 121 (by decide)]; exact q3 (Or.inr (Or.inr (Or.inl hf)))) ?_
        refine r_istore hX d_Mo_measure_66 (by decide) ?_
        refine q_iload hX 3 d_Mo_measure_68 rfl (by first | rfl | assumption) ?_
        refine r_if_ne hX 164 d_Mo_measure_69 (by decide) (fun _ => ?_) (fun c69 => absurd c69 (by decide))
        exact done (D k).1 w _ (by rw [wD_leaf hm live hk (by rw [hf]; decide)]; rw [lfS, lf_L, if_neg (by rw [hf]; decide), if_neg (by rw [hf]; decide), if_neg (by rw [hf]; decide), if_neg (by rw [hf]; decide), if_pos hf, List.length_replicate]) hM hs l0 l1 l2 rfl
      · refine q_iload hX 2 d_Mo_measure_7 rfl (by first | rfl | assumption) ?_
        refine r_if_lt hX 178 d_Mo_measure_8 (by decide) (fun c8 => absurd c8 (nI_pos (by omega))) (fun _ => ?_)
        refine q_aload hX 0 d_Mo_measure_11 rfl (by first | rfl | assumption) ?_
        refine r_getf hX d_Mo_measure_12 fl_Mo_7 hM.1 rfl ?_
        refine q_iload hX 2 d_Mo_measure_15 rfl (by first | rfl | assumption) ?_
        refine r_ialdm (c := 118) (x := (sE S k).2.2.2 0) hX d_Mo_measure_16 hM rfl rfl (by omega) (by rw [hA1 118 (by decide)]; exact q1) ?_
        refine r_callS (as := [_]) hX d_Mo_measure_17 lk_Mo_82 rfl (Nat.le_of_ble_eq_true rfl) (by decide) 0 0 (Nat.le_refl _) (Nat.le_refl _) (c_Mo_kindOf (G := G) _) (fun v w1 hq => ?_)
        obtain ⟨rfl, hw⟩ := hq
        rw [hw, ← d1, hf]
        refine q_istore hX 3 d_Mo_measure_20 rfl (by decide) ?_
        refine q_iload hX 3 d_Mo_measure_21 rfl (by first | rfl | assumption) ?_
        refine r_iconst (v := 1) hX d_Mo_measure_22 (by decide) ?_
        refine r_icmp_ne hX 38 d_Mo_measure_23 (by decide) (fun _ => ?_) (fun c23 => absurd c23 (by decide))
        refine q_iload hX 3 d_Mo_measure_38 rfl (by first | rfl | assumption) ?_
        refine r_iconst (v := 4) hX d_Mo_measure_39 (by decide) ?_
        refine r_icmp_ne hX 47 d_Mo_measure_40 (by decide) (fun _ => ?_) (fun c40 => absurd c40 (by decide))
        refine q_iload hX 3 d_Mo_measure_47 rfl (by first | rfl | assumption) ?_
        refine r_iconst (v := 3) hX d_Mo_measure_48 (by decide) ?_
        refine r_icmp_ne hX 60 d_Mo_measure_49 (by decide) (fun _ => ?_) (fun c49 => absurd c49 (by decide))
        refine q_aload hX 0 d_Mo_measure_60 rfl (by first | rfl | assumption) ?_
        refine r_getf hX d_Mo_measure_61 fl_Mo_20 hM.1 rfl ?_
        refine q_iload hX 2 d_Mo_measure_64 rfl (by first | rfl | assumption) ?_
        refine r_ialdm (c := 121) (x := nI (D k).1) hX d_Mo_measure_65 hM rfl rfl (by omega) (by rw [hA1 121 (by decide)]; exact q3 (Or.inr (Or.inr (Or.inr hf)))) ?_
        refine r_istore hX d_Mo_measure_66 (by decide) ?_
        refine q_iload hX 3 d_Mo_measure_68 rfl (by first | rfl | assumption) ?_
        refine r_if_ne hX 164 d_Mo_measure_69 (by decide) (fun _ => ?_) (fun c69 => absurd c69 (by decide))
        exact done (D k).1 w _ (by rw [wD_leaf hm live hk (by rw [hf]; decide)]; rw [lfS, lf_L, if_neg (by rw [hf]; decide), if_neg (by rw [hf]; decide), if_neg (by rw [hf]; decide), if_neg (by rw [hf]; decide), if_neg (by rw [hf]; decide), if_pos hf, st_len, d6 hf]) hM hs l0 l1 l2 rfl
  refine q_aload hX 0 d_Mo_measure_0 rfl (by first | rfl | assumption) ?_
  refine r_getm (J := 0) (x := nI (sn S)) hX d_Mo_measure_1 fl_Mo_86 hM hc rfl ?_
  refine r_iconst (v := 1) hX d_Mo_measure_4 (by decide) ?_
  refine r_isub hX d_Mo_measure_5 ?_
  refine q_istore hX 2 d_Mo_measure_6 rfl (by decide) ?_
  exact loop (sn S) A w _ (Nat.le_refl _) hM hs (fun _ _ => rfl) rfl (fun c h1 h2 => by omega) rfl rfl rfl
