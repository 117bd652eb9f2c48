/-! ===== the elements that stay, stage by stage ===== -/
def ft_p (S : Ev_S) (Q : Nat → Bool) (t : Nat) : Nat := (kl Q (sn S)).getD t 0
def ft (S : Ev_S) (Q : Nat → Bool) : Ev_S := (kc Q (sn S), sm S, sx S, sL S, (fun t => sa S (ft_p S Q t)), (fun t => sE S (ft_p S Q t)), (fun t => sP S (ft_p S Q t)), (fun t => (si S (ft_p S Q t)).map (kc Q)))
theorem kc_self (Q : Nat → Bool) : ∀ i, kc Q i ≤ i
  | 0 => Nat.le_refl _
  | i + 1 => by have := kc_self Q i; rw [kc]; split <;> omega
theorem kc_lo {Q : Nat → Bool} {b : Nat} (h : ∀ x, x < b → Q x = true) {x : Nat} (hx : x ≤ b) : kc Q x = x := by
  have := kc_all Q (a := 0) x (fun y _ h2 => h y (by omega))
  rw [Nat.zero_add] at this
  rw [this]; exact Nat.zero_add _
theorem kc_cg {Q R : Nat → Bool} {n : Nat} (h : ∀ x, x < n → Q x = R x) : ∀ {x : Nat}, x ≤ n → kc Q x = kc R x
  | 0, _ => rfl
  | x + 1, hx => by rw [kc, kc, kc_cg h (by omega), h x hx]
theorem kl_cg {Q R : Nat → Bool} : ∀ {n : Nat}, (∀ x, x < n → Q x = R x) → kl Q n = kl R n
  | 0, _ => rfl
  | n + 1, h => by rw [kl_s, kl_s, kl_cg (fun x hx => h x (by omega)), h n (by omega)]
theorem pl_f {n : Nat} {E : Nat → Ev_E} {mi : Nat → Option Nat} (Q : Nat → Bool) (h : is_po n E mi) (hp : pl_ok n E mi) (hcl : ∀ i j, i < n → Q i = true → mi i = some j → Q j = true) : pl_ok (kc Q n) (fun t => E ((kl Q n).getD t 0)) (fun t => (mi ((kl Q n).getD t 0)).map (kc Q)) := by
  intro t ht
  have htl : t < (kl Q n).length := by rw [kl_len]; exact ht
  obtain ⟨a1, a2, a3⟩ := kl_at Q htl
  obtain ⟨p1, p2, p3⟩ := hp _ a1
  refine ⟨p1, fun z => p2 ?_, fun j hj => ?_⟩
  · have z : (mi ((kl Q n).getD t 0)).map (kc Q) = none := z
    cases hm : mi ((kl Q n).getD t 0) with
    | none => rfl
    | some q => rw [hm] at z; cases z
  · have hj : (mi ((kl Q n).getD t 0)).map (kc Q) = some j := hj
    cases hm : mi ((kl Q n).getD t 0) with
    | none => rw [hm] at hj; cases hj
    | some q =>
      rw [hm] at hj
      have hj : kc Q q = j := Option.some.inj hj
      subst hj
      have hqn := ((h _ a1).2.2.2 q hm).1
      have hget := kl_get Q (n := n) (i := q) (by omega) (hcl _ q a1 a2 hm)
      show so_fits (E ((kl Q n).getD t 0)).1 (so_in (E ((kl Q n).getD (kc Q q) 0)).1) = true
      rw [hget]; exact p3 q hm
theorem kc_rm {Q Q' : Nat → Bool} {n c d : Nat} (hQ' : ∀ x, x < c + d → Q' x = true) (hQ : ∀ x, x < n → (Q x = true ↔ Q' x = true ∧ ¬ (c ≤ x ∧ x < c + d))) : ∀ x, x ≤ n → kc Q x + (if x ≤ c then 0 else if x ≤ c + d then x - c else d) = kc Q' x
  | 0, _ => by rw [if_pos (Nat.zero_le _)]; rfl
  | x + 1, hx => by
    have ih := kc_rm hQ' hQ x (by omega)
    rw [kc, kc]
    have h1 := hQ x (by omega)
    by_cases z1 : x < c
    · have h2 := hQ' x (by omega)
      have h3 := h1.mpr ⟨h2, by omega⟩
      rw [if_pos h2, if_pos h3, if_pos (show x + 1 ≤ c by omega)]
      rw [if_pos (show x ≤ c by omega)] at ih
      omega
    · by_cases z2 : x < c + d
      · have h2 := hQ' x (by omega)
        rw [if_pos h2, if_neg (fun z => (h1.mp z).2 ⟨by omega, z2⟩)]
        by_cases z3 : x ≤ c
        · rw [if_pos z3] at ih
          rw [if_neg (show ¬ x + 1 ≤ c by omega), if_pos (show x + 1 ≤ c + d by omega)]; omega
        · rw [if_neg z3, if_pos (show x ≤ c + d by omega)] at ih
          rw [if_neg (show ¬ x + 1 ≤ c by omega), if_pos (show x + 1 ≤ c + d by omega)]; omega
      · have h4 : (if Q x = true then 1 else 0) = (if Q' x = true then 1 else 0) := by
          by_cases y : Q' x = true
          · rw [if_pos y, if_pos (h1.mpr ⟨y, by omega⟩)]
          · rw [if_neg y, if_neg (fun u => y (h1.mp u).1)]
        rw [h4]
        by_cases z3 : x ≤ c
        · have : d = 0 := by omega
          subst this
          rw [if_pos z3] at ih
          rw [if_neg (show ¬ x + 1 ≤ c by omega), if_neg (show ¬ x + 1 ≤ c + 0 by omega)]; omega
        · rw [if_neg z3] at ih
          rw [if_neg (show ¬ x + 1 ≤ c by omega), if_neg (show ¬ x + 1 ≤ c + d by omega)]
          by_cases z4 : x ≤ c + d
          · rw [if_pos z4] at ih; omega
          · rw [if_neg z4] at ih; omega
theorem mdl.ft0 {I : Nat → Int32} {A : Ev_A} {S : Ev_S} {D : Nat → Ev_D} {sf : Nat → Int32} {sd : Nat} (hm : mdl I A S D sf sd) {Q : Nat → Bool} (hQ : ∀ x, x < sn S → Q x = true) : mdl I A (ft S Q) (fun t => D (ft_p S Q t)) sf sd := by
  obtain ⟨hc, hn, hu, hsd, hpo, hpl, hrow, hhp⟩ := hm
  have hk : ∀ x, x ≤ sn S → kc Q x = x := fun x hx => kc_lo hQ hx
  have hp : ∀ t, t < sn S → ft_p S Q t = t := fun t ht => by
    have := kl_get Q (n := sn S) ht (hQ t ht)
    rw [hk t (by omega)] at this; exact this
  have hcl : ∀ i j, i < sn S → Q i = true → si S i = some j → Q j = true := fun i j hi _ hj => hQ j (by have := ((hpo i hi).2.2.2 j hj).1; omega)
  have hs : sn (ft S Q) = sn S := hk _ (Nat.le_refl _)
  refine ⟨by rw [hs]; exact hc, by rw [hs]; exact hn, hu, hsd, po_f Q hpo hcl, pl_f Q hpo hpl hcl, fun k h => ?_, hhp⟩
  rw [hs] at h
  show el_D (sE S (ft_p S Q k)) (sP S (ft_p S Q k)) (D (ft_p S Q k)) sd ∧ mq A k (sE S (ft_p S Q k)) (sP S (ft_p S Q k)) (D (ft_p S Q k)) ∧ A.1 119 k = o_i ((si S (ft_p S Q k)).map (kc Q))
  rw [hp k h]
  obtain ⟨r1, r2, r3⟩ := hrow k h
  refine ⟨r1, r2, ?_⟩
  rw [r3]
  cases hq : si S k with
  | none => rfl
  | some q =>
    have := ((hpo k h).2.2.2 q hq).1
    show nI q = nI (kc Q q)
    rw [hk q (by omega)]
theorem mdl.rm {I I' : Nat → Int32} {A A' : Ev_A} {S : Ev_S} {D : Nat → Ev_D} {sf : Nat → Int32} {sd c d : Nat} {Q Q' : Nat → Bool} (hm : mdl I A (ft S Q') (fun t => D (ft_p S Q' t)) sf sd) (hpo : is_po (sn S) (sE S) (si S)) (hpl : pl_ok (sn S) (sE S) (si S)) (hcl : ∀ i j, i < sn S → Q i = true → si S i = some j → Q j = true)
    (hQ' : ∀ x, x < c + d → Q' x = true) (hQ : ∀ x, x < sn S → (Q x = true ↔ Q' x = true ∧ ¬ (c ≤ x ∧ x < c + d))) (hcd : c + d ≤ sn S) (hr : rm_ok A A' (kc Q' (sn S)) c d (si (ft S Q'))) (i0 : I' 0 = nI (kc Q (sn S))) (i1 : I' 1 = I 1) : mdl I' A' (ft S Q) (fun t => D (ft_p S Q t)) sf sd := by
  obtain ⟨hc, hn, hu, hsd, hpo', hpl', hrow, hhp⟩ := hm
  obtain ⟨g1, g2, g3⟩ := hr
  have hkr := kc_rm hQ' hQ
  have hkn := hkr (sn S) (Nat.le_refl _)
  have hk' : ∀ x, x ≤ c + d → kc Q' x = x := fun x hx => kc_lo hQ' hx
  have hkq : ∀ q, q < sn S → Q q = true → (if c < kc Q' q then kc Q' q - d else kc Q' q) = kc Q q := fun q h1 h2 => by
    have h3 := hkr q (by omega)
    have h4 := (hQ q h1).mp h2
    by_cases z : q < c
    · rw [if_pos (by omega)] at h3
      have h5 := hk' q (by omega)
      rw [if_neg (by omega)]; omega
    · have z2 : c + d ≤ q := by omega
      have h6 := kc_le Q' z2
      rw [hk' _ (Nat.le_refl _)] at h6
      by_cases z3 : q ≤ c
      · have : d = 0 := by omega
        subst this
        rw [if_pos z3] at h3
        split <;> omega
      · rw [if_neg z3] at h3
        by_cases z4 : q ≤ c + d
        · rw [if_pos z4] at h3
          have : q = c + d := by omega
          split <;> omega
        · rw [if_neg z4] at h3
          split <;> omega
  refine ⟨i0, Nat.le_trans (show kc Q (sn S) ≤ kc Q' (sn S) by omega) hn, i1.trans hu, hsd, po_f Q hpo hcl, pl_f Q hpo hpl hcl, fun t ht => ?_, fun j hj => by rw [g3 129 (by decide)]; exact hhp j hj⟩
  have ht : t < kc Q (sn S) := ht
  show el_D (sE S (ft_p S Q t)) (sP S (ft_p S Q t)) (D (ft_p S Q t)) sd ∧ mq A' t (sE S (ft_p S Q t)) (sP S (ft_p S Q t)) (D (ft_p S Q t)) ∧ A'.1 119 t = o_i ((si S (ft_p S Q t)).map (kc Q))
  obtain ⟨a1, a2, a3⟩ := kl_at Q (n := sn S) (t := t) (by rw [kl_len]; exact ht)
  have a1 : ft_p S Q t < sn S := a1
  have a2 : Q (ft_p S Q t) = true := a2
  have a3 : kc Q (ft_p S Q t) = t := a3
  by_cases z : t < c
  · have hp : ft_p S Q t = t := by
      have h1 := hkr t (by omega)
      rw [if_pos (by omega), hk' t (by omega)] at h1
      have h2 := kl_get Q (n := sn S) (i := t) (by omega) ((hQ t (by omega)).mpr ⟨hQ' t (by omega), by omega⟩)
      rw [show kc Q t = t by omega] at h2; exact h2
    have hp' : ft_p S Q' t = t := by
      have h2 := kl_get Q' (n := sn S) (i := t) (by omega) (hQ' t (by omega))
      rw [hk' t (by omega)] at h2; exact h2
    have hr := hrow t (show t < kc Q' (sn S) by omega)
    have hr : el_D (sE S (ft_p S Q' t)) (sP S (ft_p S Q' t)) (D (ft_p S Q' t)) sd ∧ mq A t (sE S (ft_p S Q' t)) (sP S (ft_p S Q' t)) (D (ft_p S Q' t)) ∧ A.1 119 t = o_i ((si S (ft_p S Q' t)).map (kc Q')) := hr
    rw [hp'] at hr
    rw [hp]
    obtain ⟨r1, r2, r3⟩ := hr
    refine ⟨r1, mq.cp (g1 t z).1 r1 r2, ?_⟩
    rw [(g1 t z).2, r3]
    cases hq : si S t with
    | none => rfl
    | some q =>
      have hqt := ((hpo t (by omega)).2.2.2 q hq).1
      have h1 := hkr q (by omega)
      rw [if_pos (by omega)] at h1
      show nI (kc Q' q) = nI (kc Q q)
      rw [← h1]; rfl
  · have htd : t + d = kc Q' (ft_p S Q t) := by
      have h1 := hkr _ (Nat.le_of_lt a1)
      have h2 := (hQ _ a1).mp a2
      rw [a3] at h1
      by_cases z1 : ft_p S Q t ≤ c
      · rw [if_pos z1] at h1
        have h3 := hk' (ft_p S Q t) (by omega)
        omega
      · rw [if_neg z1] at h1
        by_cases z2 : ft_p S Q t ≤ c + d
        · rw [if_pos z2] at h1; omega
        · rw [if_neg z2] at h1; exact h1
    have hp' : ft_p S Q' (t + d) = ft_p S Q t := by
      rw [htd]
      exact kl_get Q' a1 ((hQ _ a1).mp a2).1
    have hlt : t + d < kc Q' (sn S) := by rw [htd]; exact kc_lt Q' a1 ((hQ _ a1).mp a2).1
    have hr : el_D (sE S (ft_p S Q' (t + d))) (sP S (ft_p S Q' (t + d))) (D (ft_p S Q' (t + d))) sd ∧ mq A (t + d) (sE S (ft_p S Q' (t + d))) (sP S (ft_p S Q' (t + d))) (D (ft_p S Q' (t + d))) ∧ A.1 119 (t + d) = o_i ((si S (ft_p S Q' (t + d))).map (kc Q')) := hrow (t + d) hlt
    obtain ⟨g4, g5⟩ := g2 t (by omega) hlt
    have g5 : A'.1 119 t = o_i (((si S (ft_p S Q' (t + d))).map (kc Q')).map (fun m => if c < m then m - d else m)) := g5
    rw [hp'] at hr g5
    obtain ⟨r1, r2, r3⟩ := hr
    refine ⟨r1, mq.cp g4 r1 r2, ?_⟩
    rw [g5]
    cases hq : si S (ft_p S Q t) with
    | none => rfl
    | some q =>
      have hqt := ((hpo _ a1).2.2.2 q hq).1
      show nI (if c < kc Q' q then kc Q' q - d else kc Q' q) = nI (kc Q q)
      rw [hkq q (by omega) (hcl _ q a1 a2 hq)]
/-- the roots of what goes: CUEs right in k, from c on -/
abbrev cu_R (S : Ev_S) (k c x : Nat) : Prop := (sE S x).1 = 10 ∧ si S x = some k ∧ c ≤ x
def cu_o (S : Ev_S) (k c : Nat) : Option Nat → Bool
  | none => true
  | some j => decide (¬ cu_R S k c j)
def cu_Q (S : Ev_S) (k c x : Nat) : Bool := decide (¬ cu_R S k c x) && cu_o S k c (si S x)
theorem cu_Q_iff {S : Ev_S} {k c x : Nat} : cu_Q S k c x = true ↔ ¬ cu_R S k c x ∧ ∀ j, si S x = some j → ¬ cu_R S k c j := by
  unfold cu_Q
  rw [Bool.and_eq_true]
  constructor
  · intro h
    refine ⟨of_decide_eq_true h.1, fun j hj => ?_⟩
    have h2 := h.2
    rw [hj] at h2
    exact of_decide_eq_true h2
  · intro h
    refine ⟨decide_eq_true h.1, ?_⟩
    cases hj : si S x with
    | none => rfl
    | some j => exact decide_eq_true (h.2 j hj)
theorem cu_cl {S : Ev_S} (hpo : is_po (sn S) (sE S) (si S)) (hpl : pl_ok (sn S) (sE S) (si S)) {k c : Nat} : ∀ i j, i < sn S → cu_Q S k c i = true → si S i = some j → cu_Q S k c j = true := fun i j hi hq hj => by
  have hji := ((hpo i hi).2.2.2 j hj).1
  obtain ⟨q1, q2⟩ := cu_Q_iff.mp hq
  refine cu_Q_iff.mpr ⟨q2 j hj, fun m hm z => ?_⟩
  have hmj := ((hpo j (by omega)).2.2.2 m hm).1
  have h1 := so_f1 _ (hpl i hi).1 _ (hpl j (by omega)).1 _ (hpl m (by omega)).1 ((hpl i hi).2.2 j hj) ((hpl j (by omega)).2.2 m hm)
  have h2 : (sE S m).1 = 10 := z.1
  omega
theorem cu_Q_s {S : Ev_S} {k c : Nat} (h : ¬ cu_R S k c c) (x : Nat) : cu_Q S k c x = cu_Q S k (c + 1) x := by
  have key : ∀ y, cu_R S k c y ↔ cu_R S k (c + 1) y := fun y => by
    constructor
    · intro z
      refine ⟨z.1, z.2.1, ?_⟩
      have : y ≠ c := fun e => h (e ▸ ⟨z.1, z.2.1, by omega⟩)
      have := z.2.2
      omega
    · intro z; exact ⟨z.1, z.2.1, by have := z.2.2; omega⟩
  rw [Bool.eq_iff_iff, cu_Q_iff, cu_Q_iff, key x]
  constructor
  · intro z; exact ⟨z.1, fun j hj y => z.2 j hj ((key j).mpr y)⟩
  · intro z; exact ⟨z.1, fun j hj y => z.2 j hj ((key j).mp y)⟩
theorem cu_Q_r {S : Ev_S} (hn : sn S ≤ 60) (hpo : is_po (sn S) (sE S) (si S)) (hpl : pl_ok (sn S) (sE S) (si S)) {k c : Nat} (hc : c < sn S) (h : cu_R S k c c) : ∀ x, x < sn S → (cu_Q S k c x = true ↔ cu_Q S k (c + 1) x = true ∧ ¬ (c ≤ x ∧ x < tr_end (el_lev (sE S)) (sn S) c)) := by
  obtain ⟨b1, b2, b3, b4⟩ := tr_end_spec hn hpo hc
  have h10 : (sE S c).1 ≠ 1 := by rw [h.1]; decide
  intro x hx
  rw [cu_Q_iff, cu_Q_iff]
  constructor
  · rintro ⟨z1, z2⟩
    refine ⟨⟨fun y => z1 ⟨y.1, y.2.1, by have := y.2.2; omega⟩, fun j hj y => z2 j hj ⟨y.1, y.2.1, by have := y.2.2; omega⟩⟩, fun y => ?_⟩
    by_cases e : x = c
    · subst e; exact z1 h
    · exact z2 c (in_leaf hn hpo hpl hc h10 (by omega) y.2) h
  · rintro ⟨⟨z1, z2⟩, z3⟩
    refine ⟨fun y => ?_, fun j hj y => ?_⟩
    · have y1 : (sE S x).1 = 10 := y.1
      have y2 : si S x = some k := y.2.1
      have y3 : c ≤ x := y.2.2
      by_cases e : x = c
      · exact z3 (by omega)
      · exact z1 ⟨y1, y2, by omega⟩
    · have y3 : c ≤ j := y.2.2
      by_cases e : j = c
      · rw [e] at hj
        have := mi_in1 hn hpo hx hj
        exact z3 (by omega)
      · exact z2 j hj ⟨y.1, y.2.1, by omega⟩
theorem cu_Q_le {S : Ev_S} (hpo : is_po (sn S) (sE S) (si S)) {k c x : Nat} (hx : x < c) (hxn : x < sn S) : cu_Q S k c x = true := by
  refine cu_Q_iff.mpr ⟨fun y => by have : c ≤ x := y.2.2; omega, fun j hj y => ?_⟩
  have h1 := ((hpo x hxn).2.2.2 j hj).1
  have : c ≤ j := y.2.2
  omega
theorem cu_Q_lo {S : Ev_S} (hn : sn S ≤ 60) (hpo : is_po (sn S) (sE S) (si S)) (hpl : pl_ok (sn S) (sE S) (si S)) {k c : Nat} (hc : c < sn S) (h : cu_R S k c c) {x : Nat} (hx : x < tr_end (el_lev (sE S)) (sn S) c) : cu_Q S k (c + 1) x = true := by
  obtain ⟨b1, b2, b3, b4⟩ := tr_end_spec hn hpo hc
  by_cases z : x < c + 1
  · exact cu_Q_le hpo z (by omega)
  · have hl := in_leaf hn hpo hpl hc (by rw [h.1]; decide) (show c < x by omega) hx
    have hkc := ((hpo c hc).2.2.2 k h.2.1).1
    refine cu_Q_iff.mpr ⟨fun y => ?_, fun j hj y => ?_⟩
    · have y2 : si S x = some k := y.2.1
      rw [hl] at y2
      have := Option.some.inj y2
      omega
    · rw [hl] at hj
      have hj := Option.some.inj hj
      have : c + 1 ≤ j := y.2.2
      omega
/-- the end of a root is where it was -/
theorem cu_end {S : Ev_S} (hn : sn S ≤ 60) (hpo : is_po (sn S) (sE S) (si S)) (hpl : pl_ok (sn S) (sE S) (si S)) {k c : Nat} (hc : c < sn S) (h : cu_R S k c c) : c < kc (cu_Q S k (c + 1)) (sn S) ∧ tr_end (el_lev (sE (ft S (cu_Q S k (c + 1))))) (kc (cu_Q S k (c + 1)) (sn S)) c = tr_end (el_lev (sE S)) (sn S) c := by
  obtain ⟨b1, b2, b3, b4⟩ := tr_end_spec hn hpo hc
  have hQ : ∀ x, x < tr_end (el_lev (sE S)) (sn S) c → cu_Q S k (c + 1) x = true := fun x hx => cu_Q_lo hn hpo hpl hc h hx
  have hk : ∀ x, x ≤ tr_end (el_lev (sE S)) (sn S) c → kc (cu_Q S k (c + 1)) x = x := fun x hx => kc_lo hQ hx
  have hp : ∀ t, t < tr_end (el_lev (sE S)) (sn S) c → ft_p S (cu_Q S k (c + 1)) t = t := fun t ht => by
    have := kl_get (cu_Q S k (c + 1)) (n := sn S) (by omega) (hQ t ht)
    rw [hk t (by omega)] at this; exact this
  have hln : ∀ t, t < tr_end (el_lev (sE S)) (sn S) c → el_ln (sE (ft S (cu_Q S k (c + 1)))) t = el_ln (sE S) t := fun t ht => by
    show ((sE S (ft_p S (cu_Q S k (c + 1)) t)).2.2.2 1).toNatClampNeg = _
    rw [hp t ht]; rfl
  have hle := kc_self (cu_Q S k (c + 1)) (sn S)
  have hge : tr_end (el_lev (sE S)) (sn S) c ≤ kc (cu_Q S k (c + 1)) (sn S) := by
    have := kc_le (cu_Q S k (c + 1)) b2
    rw [hk _ (Nat.le_refl _)] at this; exact this
  have hpo' := po_f (cu_Q S k (c + 1)) hpo (cu_cl hpo hpl)
  have hpl' := pl_f (cu_Q S k (c + 1)) hpo hpl (cu_cl hpo hpl)
  have hcn : c < kc (cu_Q S k (c + 1)) (sn S) := by omega
  refine ⟨hcn, ?_⟩
  obtain ⟨d1, d2, d3, d4⟩ := tr_end_spec (n := kc (cu_Q S k (c + 1)) (sn S)) (by omega) hpo' hcn
  have hg := end_ge (n := kc (cu_Q S k (c + 1)) (sn S)) (by omega) hpo' hcn hge (fun t t1 t2 => by
    have e1 := hln t t2
    have e2 := hln c b1
    have e3 := b3 t t1 t2
    have : el_ln (sE (ft S (cu_Q S k (c + 1)))) c < el_ln (sE (ft S (cu_Q S k (c + 1)))) t := by omega
    exact this)
  by_cases z : tr_end (el_lev (sE S)) (sn S) c < tr_end (el_lev (fun t => sE S ((kl (cu_Q S k (c + 1)) (sn S)).getD t 0))) (kc (cu_Q S k (c + 1)) (sn S)) c
  · exfalso
    have h10 : (sE S ((kl (cu_Q S k (c + 1)) (sn S)).getD c 0)).1 ≠ 1 := by
      have := hp c b1
      unfold ft_p at this
      rw [this, h.1]; decide
    have hl := in_leaf (n := kc (cu_Q S k (c + 1)) (sn S)) (by omega) hpo' hpl' hcn h10 b1 z
    have hl : (si S (ft_p S (cu_Q S k (c + 1)) (tr_end (el_lev (sE S)) (sn S) c))).map (kc (cu_Q S k (c + 1))) = some c := hl
    obtain ⟨a1, a2, a3⟩ := kl_at (cu_Q S k (c + 1)) (n := sn S) (t := tr_end (el_lev (sE S)) (sn S) c) (by rw [kl_len]; omega)
    have a1 : ft_p S (cu_Q S k (c + 1)) (tr_end (el_lev (sE S)) (sn S) c) < sn S := a1
    have a2 : cu_Q S k (c + 1) (ft_p S (cu_Q S k (c + 1)) (tr_end (el_lev (sE S)) (sn S) c)) = true := a2
    have a3 : kc (cu_Q S k (c + 1)) (ft_p S (cu_Q S k (c + 1)) (tr_end (el_lev (sE S)) (sn S) c)) = tr_end (el_lev (sE S)) (sn S) c := a3
    generalize ft_p S (cu_Q S k (c + 1)) (tr_end (el_lev (sE S)) (sn S) c) = y at *
    cases hq : si S y with
    | none => rw [hq] at hl; cases hl
    | some q =>
      rw [hq] at hl
      have hl : kc (cu_Q S k (c + 1)) q = c := Option.some.inj hl
      have hqy := ((hpo y a1).2.2.2 q hq).1
      have hqq := cu_cl hpo hpl y q a1 a2 hq
      have hg1 := kl_get (cu_Q S k (c + 1)) (n := sn S) (i := q) (by omega) hqq
      have hg2 := hp c b1
      unfold ft_p at hg2
      rw [hl, hg2] at hg1
      subst hg1
      have h5 := mi_in1 hn hpo a1 hq
      have h6 := hk y (by omega)
      omega
  · show tr_end (el_lev (fun t => sE S ((kl (cu_Q S k (c + 1)) (sn S)).getD t 0))) (kc (cu_Q S k (c + 1)) (sn S)) c = _
    omega
/-- how much the roots below c weigh -/
def cu_F (S : Ev_S) (k : Nat) : Nat → Nat
  | 0 => 0
  | c + 1 => cu_F S k c + (if cu_R S k 0 c then tr_end (el_lev (sE S)) (sn S) c - c else 0)
theorem cu_kc_s {S : Ev_S} (hn : sn S ≤ 60) (hpo : is_po (sn S) (sE S) (si S)) (hpl : pl_ok (sn S) (sE S) (si S)) {k c : Nat} (hc : c < sn S) : kc (cu_Q S k (c + 1)) (sn S) + cu_F S k c = kc (cu_Q S k c) (sn S) + cu_F S k (c + 1) := by
  rw [cu_F]
  by_cases h : cu_R S k c c
  · have h0 : cu_R S k 0 c := ⟨h.1, h.2.1, Nat.zero_le _⟩
    obtain ⟨b1, b2, b3, b4⟩ := tr_end_spec hn hpo hc
    have h1 := kc_rm (Q := cu_Q S k c) (Q' := cu_Q S k (c + 1)) (n := sn S) (c := c) (d := tr_end (el_lev (sE S)) (sn S) c - c) (fun x hx => cu_Q_lo hn hpo hpl hc h (by omega)) (fun x hx => by
      rw [show c + (tr_end (el_lev (sE S)) (sn S) c - c) = tr_end (el_lev (sE S)) (sn S) c by omega]
      exact cu_Q_r hn hpo hpl hc h x hx) (sn S) (Nat.le_refl _)
    rw [if_pos h0]
    rw [if_neg (by omega)] at h1
    by_cases z : sn S ≤ c + (tr_end (el_lev (sE S)) (sn S) c - c)
    · rw [if_pos z] at h1; omega
    · rw [if_neg z] at h1; omega
  · have h0 : ¬ cu_R S k 0 c := fun z => h ⟨z.1, z.2.1, Nat.le_refl _⟩
    rw [if_neg h0, kc_cg (n := sn S) (fun x _ => (cu_Q_s h x).symm) (Nat.le_refl _)]; omega
theorem cu_kc {S : Ev_S} (hn : sn S ≤ 60) (hpo : is_po (sn S) (sE S) (si S)) (hpl : pl_ok (sn S) (sE S) (si S)) {k : Nat} : ∀ d c, c + d = sn S → kc (cu_Q S k c) (sn S) + cu_F S k (sn S) = sn S + cu_F S k c
  | 0, c, h => by
    have : c = sn S := by omega
    subst this
    rw [kc_lo (fun x hx => cu_Q_le hpo hx hx) (Nat.le_refl _)]
  | d + 1, c, h => by
    have h1 := cu_kc hn hpo hpl (k := k) d (c + 1) (by omega)
    have h2 := cu_kc_s hn hpo hpl (k := k) (show c < sn S by omega)
    omega
theorem cu_F0 {S : Ev_S} (hpo : is_po (sn S) (sE S) (si S)) {k : Nat} (hk : k < sn S) : ∀ c, c ≤ k + 1 → cu_F S k c = 0
  | 0, _ => rfl
  | c + 1, h => by
    rw [cu_F, cu_F0 hpo hk c (by omega), if_neg]
    intro z
    have := ((hpo c (by omega)).2.2.2 k z.2.1).1
    omega
/-- at the last stage it is what stays behind takeOut -/
theorem cu_tk {S : Ev_S} {ad : Nat → Nat} (hn : sn S ≤ 60) (hpo : is_po (sn S) (sE S) (si S)) (hpl : pl_ok (sn S) (sE S) (si S)) (hmk : ∀ x, x < sn S → ∀ k, k < sn S → ((sE S x).2.1 = some (ad k) ↔ si S x = some k)) {k : Nat} (hk : k < sn S) (h1 : (sE S k).1 = 1) : ∀ x, x < sn S → tk_Q (sE S) (ad k) 10 (sn S) k x = cu_Q S k (k + 1) x := by
  obtain ⟨b1, b2, b3, b4⟩ := tr_end_spec hn hpo hk
  have kk : ¬ cu_R S k (k + 1) k := fun z => by have : k + 1 ≤ k := z.2.2; omega
  have fl : ∀ b x, x < b → x < sn S → tk_fl (sE S) (ad k) 10 (tr_end (el_lev (sE S)) (sn S) k) k x = !cu_Q S k (k + 1) x := by
    intro b
    induction b with
    | zero => intro x h; omega
    | succ b ih =>
      intro x hb hx
      by_cases z1 : x ≤ k
      · rw [tk_fl_lo z1, cu_Q_le hpo (by omega) hx]; rfl
      · rw [tk_fl_hi (by omega)]
        unfold tk_b
        by_cases z2 : tr_end (el_lev (sE S)) (sn S) k ≤ x
        · rw [if_pos z2]
          have : cu_Q S k (k + 1) x = true := cu_Q_iff.mpr ⟨fun y => by
            have := mi_in1 hn hpo hx (show si S x = some k from y.2.1)
            omega, fun j hj y => by
            have hjx := ((hpo x hx).2.2.2 j hj).1
            have h5 := mi_in1 hn hpo (show j < sn S by omega) (show si S j = some k from y.2.1)
            have h6 := mi_in hn hpo hk (show k ≤ j by omega) h5.2.1 hx hj
            omega⟩
          rw [this]; rfl
        · rw [if_neg z2]
          unfold tr_wb
          by_cases z3 : si S x = some k
          · rw [if_pos ((hmk x hx k hk).mpr z3)]
            by_cases z4 : (sE S x).1 = 10
            · have : ¬ cu_Q S k (k + 1) x = true := fun y => (cu_Q_iff.mp y).1 ⟨z4, z3, by omega⟩
              rw [Bool.not_eq_true] at this
              rw [this]; exact decide_eq_true z4
            · have : cu_Q S k (k + 1) x = true := cu_Q_iff.mpr ⟨fun y => z4 y.1, fun j hj => by
                rw [z3] at hj
                have := Option.some.inj hj
                subst this; exact kk⟩
              rw [this]; exact decide_eq_false z4
          · rw [if_neg (fun y => z3 ((hmk x hx k hk).mp y))]
            rw [ih (x - 1) (by omega) (by omega)]
            congr 1
            rcases in_seg hn hpo hpl hk (show k < x by omega) (by omega) with y | ⟨j, j1, j2, j3, j4⟩
            · exact absurd y z3
            · have hj1 : (sE S j).1 ≠ 1 := fun y => by
                have h5 := (hpl j (by omega)).2.2 k j2
                rw [y, so_f2 _ (hpl k hk).1] at h5
                cases h5
              have hmx := mi_in1 hn hpo hx j1
              have hpx : x - 1 = j ∨ si S (x - 1) = some j := by
                by_cases e : x - 1 = j
                · exact Or.inl e
                · exact Or.inr (in_leaf hn hpo hpl hmx.2.2 hj1 (by omega) (by omega))
              rw [Bool.eq_iff_iff, cu_Q_iff, cu_Q_iff]
              have hxr : ¬ cu_R S k (k + 1) x := fun y => z3 y.2.1
              rcases hpx with e | e
              · rw [e]
                constructor
                · intro y; exact ⟨hxr, fun q hq => by rw [j1] at hq; cases hq; exact y.1⟩
                · intro y; exact ⟨y.2 j j1, fun q hq => by rw [j2] at hq; cases hq; exact kk⟩
              · constructor
                · intro y; exact ⟨hxr, fun q hq => by rw [j1] at hq; cases hq; exact y.2 j e⟩
                · intro y; exact ⟨fun u => by
                    have h7 : si S (x - 1) = some k := u.2.1
                    rw [e] at h7
                    have := Option.some.inj h7
                    omega, fun q hq => by rw [e] at hq; cases hq; exact y.2 j j1⟩
  intro x hx
  unfold tk_Q
  rw [fl (x + 1) x (Nat.lt_succ_self x) hx, Bool.not_not]
theorem po_cg {n : Nat} {E E' : Nat → Ev_E} {mi mi' : Nat → Option Nat} (h : is_po n E mi) (h1 : ∀ t, t < n → (E' t).2.2.2 1 = (E t).2.2.2 1) (h2 : ∀ t, t < n → mi' t = mi t) : is_po n E' mi' := by
  have hl : ∀ t, t < n → el_ln E' t = el_ln E t := fun t ht => by unfold el_ln; rw [h1 t ht]
  intro i hi
  obtain ⟨p1, p2, p3, p4⟩ := h i hi
  rw [hl i hi, h1 i hi, h2 i hi]
  refine ⟨p1, p2, p3, fun j hj => ?_⟩
  obtain ⟨q1, q2, q3⟩ := p4 j hj
  rw [hl j (by omega)]
  exact ⟨q1, q2, fun t t1 t2 => by rw [hl t (by omega)]; exact q3 t t1 t2⟩
theorem mdl.tk {I : Nat → Int32} {A : Ev_A} {S : Ev_S} {D : Nat → Ev_D} {sf : Nat → Int32} {sd k : Nat} {Q : Nat → Bool} {L1 : Nat → Option Nat} (hm : mdl I A (ft S Q) (fun t => D (ft_p S Q t)) sf sd) (hk : k < sn S) (hQ : ∀ x, x < sn S → tk_Q (sE S) (sa S k) 10 (sn S) k x = Q x) (hpo : is_po (sn S) (sE S) (si S)) : mdl I A (tk_S S k 10 L1) (fun t => D (ft_p S Q t)) sf sd := by
  obtain ⟨hc, hn, hu, hsd, hpo', hpl', hrow, hhp⟩ := hm
  have hK : (tk_K (sE S) (sa S k) 10 (sn S) k).length = kc Q (sn S) := by rw [tk_K_kl _ _ _ hk, kl_len]; exact kc_cg hQ (Nat.le_refl _)
  have hs : sn (tk_S S k 10 L1) = sn (ft S Q) := hK
  have hpi : ∀ t, t < kc Q (sn S) → tk_pi (sE S) (sa S k) 10 (sn S) k t = ft_p S Q t := fun t ht => by
    rw [tk_pi_at _ _ _ hk (by rw [hK]; exact ht), kl_cg hQ]; rfl
  have hE : ∀ t, t < sn (ft S Q) → sE (tk_S S k 10 L1) t = el_n (sE (ft S Q) t) (nI t) := fun t ht => by
    have ht : t < kc Q (sn S) := ht
    show (if t < (tk_K (sE S) (sa S k) 10 (sn S) k).length then el_n (sE S (tk_pi (sE S) (sa S k) 10 (sn S) k t)) (nI t) else sE S (tk_pi (sE S) (sa S k) 10 (sn S) k t)) = _
    rw [if_pos (by rw [hK]; exact ht), hpi t ht]; rfl
  have hP : ∀ t, t < sn (ft S Q) → sP (tk_S S k 10 L1) t = sP (ft S Q) t := fun t ht => by
    show sP S (tk_pi (sE S) (sa S k) 10 (sn S) k t) = _
    rw [hpi t ht]; rfl
  have hi : ∀ t, t < sn (ft S Q) → si (tk_S S k 10 L1) t = si (ft S Q) t := fun t ht => by
    have ht : t < kc Q (sn S) := ht
    show (si S (tk_pi (sE S) (sa S k) 10 (sn S) k t)).map (kc (tk_Q (sE S) (sa S k) 10 (sn S) k)) = (si S (ft_p S Q t)).map (kc Q)
    rw [hpi t ht]
    cases hq : si S (ft_p S Q t) with
    | none => rfl
    | some q =>
      obtain ⟨a1, a2, a3⟩ := kl_at Q (n := sn S) (t := t) (by rw [kl_len]; exact ht)
      have a1 : ft_p S Q t < sn S := a1
      have := ((hpo _ a1).2.2.2 q hq).1
      show some (kc _ q) = some (kc Q q)
      rw [kc_cg hQ (by omega)]
  have hpo2 : is_po (sn (tk_S S k 10 L1)) (sE (tk_S S k 10 L1)) (si (tk_S S k 10 L1)) := by
    rw [hs]
    exact po_cg hpo' (fun t ht => by rw [hE t ht]; rfl) hi
  refine ⟨by rw [hs]; exact hc, by rw [hs]; exact hn, hu, hsd, hpo2, ?_, fun t ht => ?_, hhp⟩
  · intro t ht
    rw [hs] at ht
    obtain ⟨p1, p2, p3⟩ := hpl' t ht
    rw [hE t ht, hi t ht]
    refine ⟨p1, p2, fun j hj => ?_⟩
    have hjt := ((hpo' t ht).2.2.2 j hj).1
    rw [hE j (by omega)]
    exact p3 j hj
  · rw [hs] at ht
    obtain ⟨r1, r2, r3⟩ := hrow t ht
    rw [hE t ht, hP t ht, hi t ht]
    exact ⟨r1.n _, r2.n _, r3⟩
theorem kc_win {p q : Nat → Bool} {a e n : Nat} (hae : a ≤ e) (hp : ∀ x, x < n → (p x = true ↔ q x = true ∧ a ≤ x ∧ x < e)) : ∀ x, x ≤ n → (x ≤ a → kc p x = 0) ∧ (a ≤ x → x ≤ e → kc p x + kc q a = kc q x) ∧ (e ≤ x → kc p x + kc q a = kc q e)
  | 0, _ => by
    refine ⟨fun _ => rfl, fun h _ => ?_, fun h => ?_⟩
    · have h0 : a = 0 := by omega
      subst h0; exact Nat.zero_add _
    · have h1 : e = 0 := by omega
      have h0 : a = 0 := by omega
      rw [h0, h1]; exact Nat.zero_add _
  | x + 1, hx => by
    obtain ⟨i1, i2, i3⟩ := kc_win hae hp x (by omega)
    have h := hp x (by omega)
    by_cases z1 : x < a
    · have e1 : kc p (x + 1) = 0 := by rw [kc, i1 (by omega), if_neg (fun y => by have := h.mp y; omega)]
      refine ⟨fun _ => e1, fun y1 y2 => ?_, fun y => ?_⟩
      · have : a = x + 1 := by omega
        rw [e1, this, Nat.zero_add]
      · have h1 : a = x + 1 := by omega
        have h2 : e = x + 1 := by omega
        rw [e1, h1, h2, Nat.zero_add]
    · by_cases z2 : x < e
      · have e2 : kc p (x + 1) + kc q a = kc q (x + 1) := by
          have := i2 (by omega) (by omega)
          rw [kc, kc]
          by_cases y : q x = true
          · rw [if_pos y, if_pos (h.mpr ⟨y, by omega, z2⟩)]; omega
          · rw [if_neg y, if_neg (fun u => y (h.mp u).1)]; omega
        refine ⟨fun _ => by omega, fun _ _ => e2, fun y => ?_⟩
        have : e = x + 1 := by omega
        rw [this]; exact e2
      · have e3 : kc p (x + 1) + kc q a = kc q e := by
          have := i3 (by omega)
          rw [kc, if_neg (fun y => by have := h.mp y; omega)]; omega
        refine ⟨fun _ => by omega, fun y1 y2 => by omega, fun _ => e3⟩
/-- no block of k among the new ones -/
theorem mpb_ins {n p k b : Nat} {E : Nat → Ev_E} {mi : Nat → Option Nat} {o : Option Nat} {E1 : Ev_E} (hpo : is_po n E mi) (hk : k < p) (hpn : p ≤ n) (hbp : b ≤ p) (h9 : E1.1 ≠ 9) (h : ∀ i, b ≤ i → i < n → mp_b E mi k i = false) : ∀ i, b ≤ i → i < n + 1 → mp_b (tr_insE p n E1 E) (mi_ins p n o mi) k i = false := by
  have iff : ∀ (E : Nat → Ev_E) (mi : Nat → Option Nat) i, mp_b E mi k i = true ↔ ((E i).1 = 9 ∧ ∃ j, mi i = some j ∧ mi j = some k) := by
    intro E mi i
    unfold mp_b
    rw [Bool.and_eq_true]
    constructor
    · rintro ⟨u1, u2⟩
      refine ⟨of_decide_eq_true u1, ?_⟩
      cases hm : mi i with
      | none => rw [hm] at u2; cases u2
      | some j => rw [hm] at u2; exact ⟨j, rfl, of_decide_eq_true u2⟩
    · rintro ⟨u1, j, u2, u3⟩
      refine ⟨decide_eq_true u1, ?_⟩
      rw [u2]; exact decide_eq_true u3
  have hno : ∀ i, b ≤ i → i < n → ¬ ((E i).1 = 9 ∧ ∃ j, mi i = some j ∧ mi j = some k) := fun i h1 h2 z => by
    have := (iff E mi i).mpr z
    rw [h i h1 h2] at this; cases this
  intro i hbi hi
  rw [← Bool.not_eq_true, iff]
  rintro ⟨g1, j, g2, g3⟩
  by_cases z1 : i < p
  · rw [insE_lo z1] at g1
    rw [miI_lo z1] at g2
    have hji := ((hpo i (by omega)).2.2.2 j g2).1
    rw [miI_lo (by omega)] at g3
    exact hno i hbi (by omega) ⟨g1, j, g2, g3⟩
  · by_cases z2 : i = p
    · subst z2
      rw [insE_at] at g1
      exact h9 g1
    · rw [insE_hi (by omega) (by omega)] at g1
      rw [miI_hi (by omega) (by omega)] at g2
      cases hm : mi (i - 1) with
      | none => rw [hm] at g2; cases g2
      | some q =>
        rw [hm] at g2
        have hqi := ((hpo (i - 1) (by omega)).2.2.2 q hm).1
        have g2 : (if q < p then q else q + 1) = j := Option.some.inj g2
        refine hno (i - 1) (by omega) (by omega) ⟨g1, q, hm, ?_⟩
        by_cases z3 : q < p
        · rw [if_pos z3] at g2
          subst g2
          rw [miI_lo z3] at g3; exact g3
        · rw [if_neg z3] at g2
          subst g2
          rw [miI_hi (by omega) (by omega), Nat.add_sub_cancel] at g3
          cases hm2 : mi q with
          | none => rw [hm2] at g3; cases g3
          | some r =>
            rw [hm2] at g3
            have g3 : (if r < p then r else r + 1) = k := Option.some.inj g3
            by_cases z4 : r < p
            · rw [if_pos z4] at g3; rw [g3]
            · rw [if_neg z4] at g3; omega
/-- the reference's row for a number that was put in -/
theorem mdl.nw {I I' : Nat → Int32} {A A' : Ev_A} {S : Ev_S} {D : Nat → Ev_D} {sf : Nat → Int32} {sd k s : Nat} {x : Int64} (hm : mdl I A S D sf sd) (hn : sn S < 60) (hk : k < sn S) (hs : s < 16) (hs1 : so_fm s = 0 ∨ so_fm s = 1) (hfit : so_fits s (so_in (sE S k).1) = true) (i0 : I' 0 = nI (sn S + 1)) (i1 : I' 1 = I 1) (hin : in_ok A A' (sn S) (mk_p (sE S) (sn S) (some k)) (some k) (si S) (so_tg s) x) : mdl I' A' (nw S (some k) s x) (tr_ins (mk_p (sE S) (sn S) (some k)) (sn S) (0, 0, (fun _ => 0), 0) D) sf sd := by
  obtain ⟨g1, g2, g3, g4, g5, g6, g7⟩ := hin
  have hno : ∀ f : Int32, (f = 2 ∨ f = 3 ∨ f = 4 ∨ f = 5 ∨ f = 6) → ¬ so_fm s = f := fun f hf z => by
    rcases hs1 with y | y <;> rw [y] at z <;> subst z <;> revert hf <;> decide
  have tg1 : ∀ s, s < 16 → so_of (so_tg s) = s ∧ 0 < (so_tg s).toInt := by decide +kernel
  have hE : el_D (ad_E S (some k) s (so_tg s) x) (rd_pf S) (0, 0, (fun _ => 0), 0) sd := by
    refine ⟨(tg1 s hs).1.symm, (tg1 s hs).2, fun z => ?_, fun z => absurd z (hno 2 (by decide)), fun z => absurd z (hno 3 (by decide)), fun z => absurd z (hno 6 (by decide)), fun z => ?_, fun z => absurd z (hno 4 (by decide))⟩
    · rcases z with z | z | z | z
      · exact absurd z (hno 2 (by decide))
      · exact absurd z (hno 3 (by decide))
      · exact absurd z (hno 5 (by decide))
      · exact absurd z (hno 6 (by decide))
    · rcases z with z | z
      · exact absurd z (hno 3 (by decide))
      · exact absurd z (hno 6 (by decide))
  refine mdl.ins hm hn (fun j hj => by cases hj; exact hk) i0 (i1.trans hm.2.2.1) (Nat.le_refl _) hm.2.2.2.1 g1 g2 g3 hE ?_ rfl (by show s < 17; omega) (fun z => by cases z) (fun j hj => by cases hj; exact hfit) (fun j hj => by rw [g7 129 (by decide)]; exact hm.2.2.2.2.2.2.2 j hj)
  refine ⟨g4, fun _ => g5, fun z => ?_, fun z => absurd z (hno 2 (by decide)), fun z => absurd z (hno 3 (by decide)), fun z => absurd z (hno 6 (by decide))⟩
  rcases z with z | z | z | z
  · exact absurd z (hno 2 (by decide))
  · exact absurd z (hno 3 (by decide))
  · exact absurd z (hno 5 (by decide))
  · exact absurd z (hno 6 (by decide))
