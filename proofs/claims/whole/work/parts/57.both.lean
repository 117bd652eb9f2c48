/-! ===== a new element in both ===== -/
theorem el_D.n {E : Ev_E} {pf : Nat → Int32} {D : Ev_D} {sd : Nat} (h : el_D E pf D sd) (x : Int32) : el_D (el_n E x) pf D sd := h
theorem el_D.up {E : Ev_E} {pf : Nat → Int32} {D : Ev_D} {sd sd' : Nat} (h : el_D E pf D sd) (hs : sd ≤ sd') : el_D E pf D sd' := by
  obtain ⟨d1, d2, d3, d4, d5, d6, d7, d8⟩ := h
  exact ⟨d1, d2, d3, d4, d5, d6, fun z => ⟨(d7 z).1, (d7 z).2.1, by have := (d7 z).2.2; omega⟩, d8⟩
theorem mq.n {A : Ev_A} {k : Nat} {E : Ev_E} {pf : Nat → Int32} {D : Ev_D} (h : mq A k E pf D) (x : Int32) : mq A k (el_n E x) pf D := h
theorem pl_ins {n : Nat} {E : Nat → Ev_E} {mi : Nat → Option Nat} {o : Option Nat} {E1 : Ev_E} {p : Nat} (hpo : is_po n E mi) (hp : pl_ok n E mi) (ho : ∀ j, o = some j → j < p) (hpn : p ≤ n) (h17 : E1.1 < 17) (h0 : o = none → so_fits E1.1 1 = true) (h1 : ∀ j, o = some j → so_fits E1.1 (so_in (E j).1) = true) : pl_ok (n + 1) (tr_insE p n E1 E) (mi_ins p n o mi) := by
  have key : ∀ j, j < n → (tr_insE p n E1 E (if j < p then j else j + 1)).1 = (E j).1 := fun j hj => by
    by_cases z : j < p
    · rw [if_pos z, insE_lo z]
    · rw [if_neg z, insE_hi (by omega) (by omega)]; rfl
  intro i hi
  by_cases z1 : i < p
  · obtain ⟨a1, a2, a3⟩ := hp i (by omega)
    rw [insE_lo z1, miI_lo z1]
    refine ⟨a1, a2, fun j hj => ?_⟩
    have := ((hpo i (by omega)).2.2.2 j hj).1
    rw [insE_lo (by omega)]
    exact a3 j hj
  · by_cases z2 : i = p
    · subst z2
      rw [insE_at, miI_at]
      refine ⟨h17, h0, fun j hj => ?_⟩
      rw [insE_lo (ho j hj)]
      exact h1 j hj
    · obtain ⟨a1, a2, a3⟩ := hp (i - 1) (by omega)
      rw [insE_hi (by omega) (by omega), miI_hi (by omega) (by omega)]
      refine ⟨a1, fun z => a2 (by cases hm : mi (i - 1) with
        | none => rfl
        | some y => rw [hm] at z; cases z), fun j hj => ?_⟩
      cases hm : mi (i - 1) with
      | none => rw [hm] at hj; cases hj
      | some q =>
        rw [hm] at hj
        have hq := ((hpo (i - 1) (by omega)).2.2.2 q hm).1
        have hj : (if q < p then q else q + 1) = j := Option.some.inj hj
        have hk := key q (by omega)
        rw [hj] at hk
        rw [hk]
        exact a3 q hm
theorem mdl.ins {I I' : Nat → Int32} {A A' : Ev_A} {S : Ev_S} {D : Nat → Ev_D} {sf sf' : Nat → Int32} {sd sd' : Nat} (hm : mdl I A S D sf sd) (hn : sn S < 60) {o : Option Nat} (ho : ∀ j, o = some j → j < sn S) {E1 : Ev_E} {pf : Nat → Int32} {D1 : Ev_D}
    (hI0 : I' 0 = nI (sn S + 1)) (hI1 : I' 1 = nI sd') (hs1 : sd ≤ sd') (hs2 : sd' ≤ 1200) (h1 : ∀ i, i < mk_p (sE S) (sn S) o → ro_c0 A' i A i) (h2 : ∀ i, mk_p (sE S) (sn S) o < i → i ≤ sn S → ro_c0 A' i A (i - 1)) (h3 : ∀ i, i ≤ sn S → A'.1 119 i = o_i (mi_ins (mk_p (sE S) (sn S) o) (sn S) o (si S) i))
    (hE : el_D E1 pf D1 sd') (hq : mq A' (mk_p (sE S) (sn S) o) E1 pf D1) (hl : E1.2.2.2 1 = mk_lv (sE S) o) (h17 : E1.1 < 17) (hf0 : o = none → so_fits E1.1 1 = true) (hf1 : ∀ j, o = some j → so_fits E1.1 (so_in (sE S j).1) = true) (hh : ∀ j, j < sd' → A'.1 129 j = sf' j) :
    mdl I' A' (ad_S S o E1 pf) (tr_ins (mk_p (sE S) (sn S) o) (sn S) D1 D) sf' sd' := by
  obtain ⟨hc, hn6, hu, hsd, hpo, hpl, hrow, hhp⟩ := hm
  have hpn : mk_p (sE S) (sn S) o ≤ sn S := mk_pn ho
  have hpk : ∀ j, o = some j → j < mk_p (sE S) (sn S) o := fun j hj => mk_pk hj
  refine ⟨hI0, hn, hI1, hs2, po_ins hn6 hpo ho hl, pl_ins hpo hpl hpk hpn h17 hf0 hf1, fun k hk => ?_, hh⟩
  show el_D (tr_insE (mk_p (sE S) (sn S) o) (sn S) E1 (sE S) k) (tr_ins (mk_p (sE S) (sn S) o) (sn S) pf (sP S) k) (tr_ins (mk_p (sE S) (sn S) o) (sn S) D1 D k) sd' ∧ mq A' k (tr_insE (mk_p (sE S) (sn S) o) (sn S) E1 (sE S) k) (tr_ins (mk_p (sE S) (sn S) o) (sn S) pf (sP S) k) (tr_ins (mk_p (sE S) (sn S) o) (sn S) D1 D k) ∧ A'.1 119 k = o_i (mi_ins (mk_p (sE S) (sn S) o) (sn S) o (si S) k)
  have hk : k < sn S + 1 := hk
  by_cases z1 : k < mk_p (sE S) (sn S) o
  · obtain ⟨r1, r2, r3⟩ := hrow k (by omega)
    rw [insE_lo z1, ins_lo z1, ins_lo z1]
    exact ⟨r1.up hs1, mq.cp (h1 k z1) r1 r2, h3 k (by omega)⟩
  · by_cases z2 : k = mk_p (sE S) (sn S) o
    · refine ⟨?_, ?_, h3 k (by omega)⟩
      · rw [z2, insE_at, ins_at, ins_at]; exact hE
      · rw [z2, insE_at, ins_at, ins_at]; exact hq
    · obtain ⟨r1, r2, r3⟩ := hrow (k - 1) (by omega)
      rw [insE_hi (by omega) (by omega), ins_hi (by omega) (by omega), ins_hi (by omega) (by omega)]
      exact ⟨(r1.up hs1).n _, (mq.cp (h2 k (by omega) (by omega)) r1 r2).n _, h3 k (by omega)⟩
/-- has the master children? -/
theorem ch_pos {n : Nat} {E : Nat → Ev_E} {mi : Nat → Option Nat} (hn : n ≤ 60) (h : is_po n E mi) {j : Nat} (hj : j < n) : 0 < sc_n (mp_c mi j) n 0 ↔ j + 1 < tr_end (el_lev E) n j := by
  have sp : ∀ (p : Nat → Bool) (t i : Nat), 0 < sc_n p t i ↔ ∃ x, i ≤ x ∧ x < i + t ∧ p x = true := by
    intro p t
    induction t with
    | zero => intro i; rw [sc_n]; constructor; intro z; omega; rintro ⟨x, h1, h2, h3⟩; omega
    | succ t ih =>
      intro i
      rw [sc_n]
      by_cases z : p i = true
      · rw [if_pos z]; exact ⟨fun _ => ⟨i, Nat.le_refl _, by omega, z⟩, fun _ => by omega⟩
      · rw [if_neg z, Nat.zero_add, ih (i + 1)]
        constructor
        · rintro ⟨x, h1, h2, h3⟩; exact ⟨x, by omega, by omega, h3⟩
        · rintro ⟨x, h1, h2, h3⟩
          have : x ≠ i := fun q => z (q ▸ h3)
          exact ⟨x, by omega, by omega, h3⟩
  rw [sp]
  constructor
  · rintro ⟨x, h1, h2, h3⟩
    have := mi_in1 hn h (show x < n by omega) (of_decide_eq_true h3)
    omega
  · intro z
    have hb := (tr_end_spec hn h hj).2.1
    obtain ⟨q, g1, g2, g3⟩ := in_mi hn h (show j < j + 1 by omega) z hj
    refine ⟨j + 1, by omega, by omega, decide_eq_true ?_⟩
    rw [g1, show q = j by omega]
