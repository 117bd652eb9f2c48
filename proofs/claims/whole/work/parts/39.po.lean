/-! ===== the order of the line: an element stands behind its master, deeper than it, with nothing less deep between ===== -/
def el_ln (E : Nat → Ev_E) (i : Nat) : Nat := ((E i).2.2.2 1).toNatClampNeg
def is_po (n : Nat) (E : Nat → Ev_E) (mi : Nat → Option Nat) : Prop := ∀ i, i < n → (E i).2.2.2 1 = nI (el_ln E i) ∧ el_ln E i ≤ i ∧ (mi i = none → el_ln E i = 0) ∧ ∀ j, mi i = some j → j < i ∧ el_ln E i = el_ln E j + 1 ∧ ∀ t, j < t → t < i → el_ln E j < el_ln E t
theorem tr_go_spec (lv : Nat → Int32) (n : Nat) (le : Int32) : ∀ k i : Nat, (∀ t, i ≤ t → t < tr_go lv n le k i → le < lv t) ∧ (tr_go lv n le k i < n → tr_go lv n le k i < i + k → ¬ le < lv (tr_go lv n le k i))
  | 0, i => ⟨fun t h1 h2 => by unfold tr_go at h2; omega, fun _ h => by unfold tr_go at h; omega⟩
  | k + 1, i => by
    unfold tr_go
    by_cases z : i < n ∧ le < lv i
    · rw [if_pos z]
      obtain ⟨a, b⟩ := tr_go_spec lv n le k (i + 1)
      refine ⟨fun t h1 h2 => ?_, fun h1 h2 => b h1 (by omega)⟩
      by_cases q : t = i
      · rw [q]; exact z.2
      · exact a t (by omega) h2
    · rw [if_neg z]
      exact ⟨fun t h1 h2 => by omega, fun h1 _ h => z ⟨h1, h⟩⟩
theorem tr_end_spec {n : Nat} {E : Nat → Ev_E} {mi : Nat → Option Nat} (hn : n ≤ 60) (h : is_po n E mi) {j : Nat} (hj : j < n) : j < tr_end (el_lev E) n j ∧ tr_end (el_lev E) n j ≤ n ∧ (∀ t, j < t → t < tr_end (el_lev E) n j → el_ln E j < el_ln E t) ∧ (tr_end (el_lev E) n j < n → el_ln E (tr_end (el_lev E) n j) ≤ el_ln E j) := by
  have h1 := tr_go_ge (el_lev E) n (el_lev E j) (n - (j + 1)) (j + 1)
  have h2 := tr_go_le (el_lev E) n (el_lev E j) (n - (j + 1)) (j + 1) (by omega)
  obtain ⟨a, b⟩ := tr_go_spec (el_lev E) n (el_lev E j) (n - (j + 1)) (j + 1)
  have hl : ∀ t, t < n → el_lev E t = nI (el_ln E t) ∧ el_ln E t < 60 := fun t ht => ⟨(h t ht).1, by have := (h t ht).2.1; omega⟩
  unfold tr_end
  generalize tr_go (el_lev E) n (el_lev E j) (n - (j + 1)) (j + 1) = r at *
  refine ⟨h1, h2, fun t t1 t2 => ?_, fun q => ?_⟩
  · have h3 := a t t1 t2
    rw [(hl t (by omega)).1, (hl j hj).1] at h3
    have h4 := (hl t (by omega)).2
    have h5 := (hl j hj).2
    exact (nI_ltI (by omega) (by omega)).mp h3
  · have h3 := b q (by omega)
    have h4 := (hl _ q).2
    have h5 := (hl j hj).2
    rw [(hl _ q).1, (hl j hj).1] at h3
    exact Nat.le_of_not_lt (fun z => h3 (nI_lt z (by omega)))
/-- all that stands behind the open master is in it -/
def is_tl (n : Nat) (E : Nat → Ev_E) (o : Option Nat) : Prop := ∀ j, o = some j → j < n ∧ ∀ t, j < t → t < n → el_ln E j < el_ln E t
theorem is_tl.n {n : Nat} {E : Nat → Ev_E} : is_tl n E none := fun _ h => by cases h
theorem is_tl.up {n : Nat} {E : Nat → Ev_E} {mi : Nat → Option Nat} (h : is_po n E mi) {j : Nat} (k : is_tl n E (some j)) : is_tl n E (mi j) := by
  intro q hq
  obtain ⟨a, b⟩ := k j rfl
  obtain ⟨c1, c2, c3⟩ := (h j a).2.2.2 q hq
  refine ⟨by omega, fun t t1 t2 => ?_⟩
  by_cases z : t < j
  · exact c3 t t1 z
  · by_cases z2 : t = j
    · rw [z2]; omega
    · have := b t (by omega) t2; omega
theorem is_tl.p1 {n : Nat} {E : Nat → Ev_E} {mi : Nat → Option Nat} (h : is_po n E mi) (p : Nat) : ∀ (k : Nat) (o : Option Nat), is_tl n E o → is_tl n E (pop1 E mi p k o)
  | 0, o, z => z
  | k + 1, none, z => z
  | k + 1, some j, z => by
    unfold pop1
    split
    · exact is_tl.p1 h p k (mi j) (z.up h)
    · exact z
theorem is_tl.p2 {n : Nat} {E : Nat → Ev_E} {mi : Nat → Option Nat} (h : is_po n E mi) (s : Nat) : ∀ (k : Nat) (o : Option Nat), is_tl n E o → is_tl n E (pop2 E mi s k o)
  | 0, o, z => z
  | k + 1, none, z => z
  | k + 1, some j, z => by
    unfold pop2
    split
    · exact is_tl.p2 h s k (mi j) (z.up h)
    · exact z
theorem is_tl.end {n : Nat} {E : Nat → Ev_E} {mi : Nat → Option Nat} (hn : n ≤ 60) (h : is_po n E mi) {o : Option Nat} (k : is_tl n E o) : mk_p E n o = n := by
  cases o with
  | none => rfl
  | some j =>
    obtain ⟨a, b⟩ := k j rfl
    obtain ⟨c1, c2, c3, c4⟩ := tr_end_spec hn h a
    show tr_end (el_lev E) n j = n
    by_cases z : tr_end (el_lev E) n j < n
    · have := c4 z; have := b _ c1 z; omega
    · omega
theorem ln_lo {E : Nat → Ev_E} {E1 : Ev_E} {p n i : Nat} (h : i < p) : el_ln (tr_insE p n E1 E) i = el_ln E i := by unfold el_ln; rw [insE_lo h]
theorem ln_hi {E : Nat → Ev_E} {E1 : Ev_E} {p n i : Nat} (h : p < i) (h2 : i ≤ n) : el_ln (tr_insE p n E1 E) i = el_ln E (i - 1) := by unfold el_ln; rw [insE_hi h h2]; rfl
def mk_ln (E : Nat → Ev_E) (o : Option Nat) : Nat := match o with
  | none => 0
  | some j => el_ln E j + 1
theorem mk_lv_n {n : Nat} {E : Nat → Ev_E} {mi : Nat → Option Nat} (hn : n ≤ 60) (h : is_po n E mi) {o : Option Nat} (ho : ∀ j, o = some j → j < n) : mk_lv E o = nI (mk_ln E o) := by
  cases o with
  | none => rfl
  | some j => show (E j).2.2.2 1 + 1 = _; rw [(h j (ho j rfl)).1, nI_1]; rfl
/-- a new last child keeps the order -/
theorem po_ins {n : Nat} {E : Nat → Ev_E} {mi : Nat → Option Nat} {o : Option Nat} {E1 : Ev_E} (hn : n ≤ 60) (h : is_po n E mi) (ho : ∀ j, o = some j → j < n) (h1 : E1.2.2.2 1 = mk_lv E o) : is_po (n + 1) (tr_insE (mk_p E n o) n E1 E) (mi_ins (mk_p E n o) n o mi) := by
  have hlv := mk_lv_n hn h ho
  have hpn : mk_p E n o ≤ n := mk_pn ho
  have sp : ∀ j, o = some j → j < n ∧ j < mk_p E n o ∧ (∀ t, j < t → t < mk_p E n o → el_ln E j < el_ln E t) ∧ (mk_p E n o < n → el_ln E (mk_p E n o) ≤ el_ln E j) := fun j hj => by
    subst hj
    obtain ⟨a, b, c, d⟩ := tr_end_spec hn h (ho j rfl)
    exact ⟨ho j rfl, a, c, d⟩
  have hno : o = none → mk_p E n o = n := fun z => by rw [z]; rfl
  generalize mk_p E n o = p at *
  have lnp : el_ln (tr_insE p n E1 E) p = mk_ln E o := by
    unfold el_ln; rw [insE_at, h1, hlv]
    refine nI_clamp ?_
    cases o with
    | none => exact (by decide : (0 : Nat) < 2 ^ 31)
    | some j => have := (h j (ho j rfl)).2.1; have := ho j rfl; show el_ln E j + 1 < 2 ^ 31; omega
  intro i hi
  by_cases z1 : i < p
  · obtain ⟨a1, a2, a3, a4⟩ := h i (by omega)
    rw [ln_lo z1, insE_lo z1, miI_lo z1]
    refine ⟨a1, a2, a3, fun j hj => ?_⟩
    obtain ⟨b1, b2, b3⟩ := a4 j hj
    rw [ln_lo (show j < p by omega)]
    exact ⟨b1, b2, fun t t1 t2 => by rw [ln_lo (show t < p by omega)]; exact b3 t t1 t2⟩
  · by_cases z2 : i = p
    · subst z2
      rw [lnp, insE_at, miI_at]
      refine ⟨by rw [h1, hlv], ?_, ?_, ?_⟩
      · cases o with
        | none => exact Nat.zero_le _
        | some j => have := (h j (ho j rfl)).2.1; have := (sp j rfl).2.1; show el_ln E j + 1 ≤ i; omega
      · intro q; rw [q]; rfl
      · intro j hj
        subst hj
        obtain ⟨c1, c2, c3, c4⟩ := sp j rfl
        rw [ln_lo c2]
        exact ⟨c2, rfl, fun t t1 t2 => by rw [ln_lo t2]; exact c3 t t1 t2⟩
    · obtain ⟨a1, a2, a3, a4⟩ := h (i - 1) (by omega)
      rw [ln_hi (by omega) (by omega), insE_hi (by omega) (by omega), miI_hi (by omega) (by omega)]
      refine ⟨a1, by omega, fun q => a3 (by cases hm : mi (i - 1) with
        | none => rfl
        | some y => rw [hm] at q; cases q), fun j hj => ?_⟩
      cases hm : mi (i - 1) with
      | none => rw [hm] at hj; cases hj
      | some q =>
        rw [hm] at hj
        obtain ⟨b1, b2, b3⟩ := a4 q hm
        have hj : (if q < p then q else q + 1) = j := Option.some.inj hj
        cases o with
        | none => have := hno rfl; omega
        | some y =>
          obtain ⟨c1, c2, c3, c4⟩ := sp y rfl
          have hpl := c4 (by omega)
          have lnpy : el_ln (tr_insE p n E1 E) p = el_ln E y + 1 := lnp
          by_cases zq : q < p
          · rw [if_pos zq] at hj
            subst hj
            rw [ln_lo zq]
            have hqy : el_ln E q < el_ln E y + 1 := by
              by_cases zi : i - 1 = p
              · rw [zi] at b2; omega
              · have := b3 p zq (by omega); omega
            refine ⟨by omega, b2, fun t t1 t2 => ?_⟩
            by_cases y1 : t < p
            · rw [ln_lo y1]; exact b3 t t1 (by omega)
            · by_cases y2 : t = p
              · rw [y2, lnpy]; exact hqy
              · rw [ln_hi (by omega) (by omega)]; exact b3 (t - 1) (by omega) (by omega)
          · rw [if_neg zq] at hj
            subst hj
            rw [ln_hi (show p < q + 1 by omega) (by omega)]
            refine ⟨by omega, b2, fun t t1 t2 => ?_⟩
            rw [ln_hi (by omega) (by omega)]
            exact b3 (t - 1) (by omega) (by omega)
/-- a new last one stays open behind -/
theorem tl_ins {n : Nat} {E : Nat → Ev_E} {mi : Nat → Option Nat} {o : Option Nat} {E1 : Ev_E} (hn : n ≤ 60) (h : is_po n E mi) (k : is_tl n E o) (h1 : E1.2.2.2 1 = mk_lv E o) : is_tl (n + 1) (tr_insE n n E1 E) o ∧ is_tl (n + 1) (tr_insE n n E1 E) (some n) := by
  refine ⟨fun j hj => ?_, fun j hj => ?_⟩
  · obtain ⟨a, b⟩ := k j hj
    have hlv := mk_lv_n hn h (fun j hj => (k j hj).1)
    refine ⟨by omega, fun t t1 t2 => ?_⟩
    rw [ln_lo a]
    by_cases z : t < n
    · rw [ln_lo z]; exact b t t1 z
    · have hz : t = n := by omega
      subst hz
      subst hj
      have := (h j a).2.1
      unfold el_ln
      rw [insE_at, h1, hlv]
      show _ < (nI (el_ln E j + 1)).toNatClampNeg
      rw [nI_clamp (by omega)]
      show el_ln E j < _
      omega
  · cases hj
    exact ⟨by omega, fun t t1 t2 => by omega⟩
