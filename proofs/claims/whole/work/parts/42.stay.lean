/-! ===== what stays behind takeOut ===== -/
def tk_fl (E : Nat → Ev_E) (a s e k : Nat) : Nat → Bool
  | 0 => false
  | i + 1 => if i + 1 ≤ k then false else tk_b E a s e (i + 1) (tk_fl E a s e k i)
theorem tk_fl_lo {E : Nat → Ev_E} {a s e k : Nat} : ∀ {i : Nat}, i ≤ k → tk_fl E a s e k i = false
  | 0, _ => rfl
  | i + 1, h => by rw [tk_fl, if_pos h]
theorem tk_fl_hi {E : Nat → Ev_E} {a s e k : Nat} : ∀ {i : Nat}, k < i → tk_fl E a s e k i = tk_b E a s e i (tk_fl E a s e k (i - 1))
  | 0, h => absurd h (Nat.not_lt_zero _)
  | i + 1, h => by rw [tk_fl, if_neg (by omega)]; rfl
theorem tk_filter (E : Nat → Ev_E) (a s e k : Nat) : ∀ f i : Nat, k < i → (tk E a s e f i (tk_fl E a s e k (i - 1))).1 = (List.range' i f).filter (fun x => !tk_fl E a s e k x)
  | 0, i, h => rfl
  | f + 1, i, h => by
    have ih := tk_filter E a s e k f (i + 1) (by omega)
    rw [Nat.add_sub_cancel, tk_fl_hi h] at ih
    rw [tk, List.range'_succ, List.filter_cons, tk_fl_hi h]
    cases hb : tk_b E a s e i (tk_fl E a s e k (i - 1)) with
    | true => rw [hb] at ih; simp [ih]
    | false => rw [hb] at ih; simp [ih]
def kc (Q : Nat → Bool) : Nat → Nat
  | 0 => 0
  | i + 1 => kc Q i + (if Q i = true then 1 else 0)
def kl (Q : Nat → Bool) (n : Nat) : List Nat := (List.range n).filter Q
theorem kl_s (Q : Nat → Bool) (n : Nat) : kl Q (n + 1) = kl Q n ++ (if Q n = true then [n] else []) := by
  unfold kl
  rw [List.range_succ, List.filter_append]
  cases hq : Q n <;> simp [hq]
theorem kl_len (Q : Nat → Bool) : ∀ n, (kl Q n).length = kc Q n
  | 0 => rfl
  | n + 1 => by rw [kl_s, List.length_append, kl_len Q n, kc]; split <;> rfl
theorem kc_le (Q : Nat → Bool) {i : Nat} : ∀ {j : Nat}, i ≤ j → kc Q i ≤ kc Q j
  | 0, h => by have : i = 0 := by omega
               subst this; exact Nat.le_refl _
  | j + 1, h => by
    by_cases z : i = j + 1
    · rw [z]; exact Nat.le_refl _
    · have := kc_le Q (i := i) (j := j) (by omega)
      rw [kc]; omega
theorem kc_lt (Q : Nat → Bool) {i j : Nat} (h : i < j) (hq : Q i = true) : kc Q i < kc Q j := by
  have := kc_le Q (i := i + 1) (j := j) h
  rw [kc, if_pos hq] at this; omega
theorem kl_get (Q : Nat → Bool) : ∀ {n i : Nat}, i < n → Q i = true → (kl Q n).getD (kc Q i) 0 = i
  | 0, _, h, _ => absurd h (Nat.not_lt_zero _)
  | n + 1, i, h, hq => by
    rw [kl_s]
    by_cases z : i < n
    · rw [gd_al (by rw [kl_len]; exact kc_lt Q z hq)]; exact kl_get Q z hq
    · have hz : i = n := by omega
      subst hz
      rw [if_pos hq, ← kl_len, gd_r]
theorem kl_at (Q : Nat → Bool) : ∀ {n t : Nat}, t < (kl Q n).length → (kl Q n).getD t 0 < n ∧ Q ((kl Q n).getD t 0) = true ∧ kc Q ((kl Q n).getD t 0) = t
  | 0, t, h => absurd h (Nat.not_lt_zero _)
  | n + 1, t, h => by
    rw [kl_s] at h ⊢
    by_cases z : t < (kl Q n).length
    · rw [gd_al z]
      obtain ⟨a, b, c⟩ := kl_at Q z
      exact ⟨by omega, b, c⟩
    · by_cases hq : Q n = true
      · rw [if_pos hq] at h ⊢
        rw [List.length_append] at h
        have ht : t = (kl Q n).length := by have : ([n] : List Nat).length = 1 := rfl; omega
        rw [ht, gd_r]
        exact ⟨by omega, hq, (kl_len Q n).symm⟩
      · rw [if_neg hq, List.append_nil] at h; exact absurd h z
theorem kl_mono (Q : Nat → Bool) {n t u : Nat} (ht : t < (kl Q n).length) (hu : u < (kl Q n).length) (h : t < u) : (kl Q n).getD t 0 < (kl Q n).getD u 0 := by
  obtain ⟨a1, a2, a3⟩ := kl_at Q ht
  obtain ⟨b1, b2, b3⟩ := kl_at Q hu
  by_cases z : (kl Q n).getD t 0 < (kl Q n).getD u 0
  · exact z
  · have := kc_le Q (i := (kl Q n).getD u 0) (j := (kl Q n).getD t 0) (by omega)
    omega
def tk_Q (E : Nat → Ev_E) (a s n k : Nat) (x : Nat) : Bool := !tk_fl E a s (tr_end (el_lev E) n k) k x
theorem tk_K_kl (E : Nat → Ev_E) (a s : Nat) {n k : Nat} (hk : k < n) : tk_K E a s n k = kl (tk_Q E a s n k) n := by
  have h := tk_filter E a s (tr_end (el_lev E) n k) k (n - (k + 1)) (k + 1) (by omega)
  rw [Nat.add_sub_cancel, tk_fl_lo (Nat.le_refl k)] at h
  have e : List.range n = List.range (k + 1) ++ List.range' (k + 1) (n - (k + 1)) := by
    rw [List.range_eq_range', List.range_eq_range', show (k + 1 : Nat) = 0 + 1 * (k + 1) by omega]
    rw [show List.range' (0 + 1 * (k + 1)) (n - (0 + 1 * (k + 1))) = List.range' (0 + 1 * (0 + 1 * (k + 1))) (n - (0 + 1 * (k + 1))) by congr 1; omega, List.range'_append]
    congr 1
    omega
  unfold tk_K kl
  rw [h, e, List.filter_append]
  congr 1
  refine (List.filter_eq_self.mpr (fun x hx => ?_)).symm
  have : x < k + 1 := List.mem_range.mp hx
  unfold tk_Q
  rw [tk_fl_lo (by omega)]; rfl
/-- the master of one that stays stays -/
theorem tk_mi {n : Nat} {ad : Nat → Nat} {E : Nat → Ev_E} {mi : Nat → Option Nat} {s k : Nat} (hn : n ≤ 60) (hok : el_ok n ad E mi) (hpo : is_po n E mi) (hinj : ∀ i j, i < n → j < n → ad i = ad j → i = j) (hk : k < n) {i j : Nat} (hi : i < n) (hq : tk_Q E (ad k) s n k i = true) (hj : mi i = some j) : tk_Q E (ad k) s n k j = true := by
  obtain ⟨c1, c2, c3, c4⟩ := tr_end_spec hn hpo hk
  have hmk : ∀ x, x < n → ((E x).2.1 = some (ad k) ↔ mi x = some k) := fun x hx => by
    rw [(hok x hx).2.2.1]
    cases hm : mi x with
    | none => exact ⟨fun z => (by cases z), fun z => (by cases z)⟩
    | some y =>
      have hy := (hok x hx).2.2.2 y hm
      exact ⟨fun z => by rw [hinj y k (by omega) hk (Option.some.inj z)], fun z => by rw [Option.some.inj z]; rfl⟩
  obtain ⟨p1, p2, p3⟩ := (hpo i hi).2.2.2 j hj
  unfold tk_Q at hq ⊢
  generalize hee : tr_end (el_lev E) n k = e at *
  by_cases z1 : j ≤ k
  · rw [tk_fl_lo z1]; rfl
  · by_cases z2 : e ≤ j
    · rw [tk_fl_hi (by omega)]; unfold tk_b; rw [if_pos z2]; rfl
    · have hjk := c3 j (by omega) (by omega)
      have hie : i < e := by
        by_cases y : i < e
        · exact y
        · exfalso
          have hen : e < n := by omega
          have h4 := c4 hen
          by_cases y2 : e = i
          · rw [y2] at h4; omega
          · have := p3 e (by omega) (by omega); omega
      -- no child of k stands between
      have key : ∀ d x, x = j + d → x ≤ i → tk_fl E (ad k) s e k x = tk_fl E (ad k) s e k j := by
        intro d
        induction d with
        | zero => intro x hx _; rw [hx]; rfl
        | succ d ih =>
          intro x hx hxi
          have h1 := ih (x - 1) (by omega) (by omega)
          rw [tk_fl_hi (show k < x by omega), ← h1]
          unfold tk_b tr_wb
          rw [if_neg (by omega), if_neg]
          intro z
          have hmx := (hmk x (by omega)).mp z
          obtain ⟨q1, q2, q3⟩ := (hpo x (by omega)).2.2.2 k hmx
          by_cases y : x = i
          · rw [y, hj] at hmx
            have := Option.some.inj hmx
            omega
          · have := p3 x (by omega) (by omega); omega
      rw [key (i - j) i (by omega) (Nat.le_refl _)] at hq
      exact hq
/-- depth is at most the number of those that stay before -/
theorem tk_ln {n : Nat} {ad : Nat → Nat} {E : Nat → Ev_E} {mi : Nat → Option Nat} {s k : Nat} (hn : n ≤ 60) (hok : el_ok n ad E mi) (hpo : is_po n E mi) (hinj : ∀ i j, i < n → j < n → ad i = ad j → i = j) (hk : k < n) : ∀ b i, i < b → i < n → tk_Q E (ad k) s n k i = true → el_ln E i ≤ kc (tk_Q E (ad k) s n k) i
  | 0, i, h, _, _ => absurd h (Nat.not_lt_zero _)
  | b + 1, i, h, hi, hq => by
    cases hm : mi i with
    | none => rw [(hpo i hi).2.2.1 hm]; exact Nat.zero_le _
    | some j =>
      obtain ⟨p1, p2, p3⟩ := (hpo i hi).2.2.2 j hm
      have hqj := tk_mi hn hok hpo hinj hk hi hq hm
      have h1 := tk_ln hn hok hpo hinj hk b j (by omega) (by omega) hqj
      have h2 := kc_lt (tk_Q E (ad k) s n k) p1 hqj
      omega
/-- the tree behind takeOut; its line is L1 -/
def tk_S (S : Ev_S) (k s : Nat) (L1 : Nat → Option Nat) : Ev_S :=
  ((tk_K (sE S) (sa S k) s (sn S) k).length, sm S, sx S, L1, (fun t => sa S (tk_pi (sE S) (sa S k) s (sn S) k t)), (fun t => if t < (tk_K (sE S) (sa S k) s (sn S) k).length then el_n (sE S (tk_pi (sE S) (sa S k) s (sn S) k t)) (nI t) else sE S (tk_pi (sE S) (sa S k) s (sn S) k t)), (fun t => sP S (tk_pi (sE S) (sa S k) s (sn S) k t)), (fun t => (si S (tk_pi (sE S) (sa S k) s (sn S) k t)).map (kc (tk_Q (sE S) (sa S k) s (sn S) k))))
theorem tk_K_le (E : Nat → Ev_E) (a s : Nat) {n k : Nat} (hk : k < n) : (tk_K E a s n k).length ≤ n := by
  rw [tk_K_kl E a s hk, kl_len]
  have : ∀ i, kc (tk_Q E a s n k) i ≤ i := by
    intro i
    induction i with
    | zero => exact Nat.le_refl _
    | succ i ih => rw [kc]; split <;> omega
  exact this n
theorem tk_pi_at (E : Nat → Ev_E) (a s : Nat) {n k t : Nat} (hk : k < n) (ht : t < (tk_K E a s n k).length) : tk_pi E a s n k t = (kl (tk_Q E a s n k) n).getD t 0 := by
  have := tk_K_le E a s hk
  unfold tk_pi
  rw [if_pos (by omega), gd_al ht, tk_K_kl E a s hk]
theorem tk_at {E : Nat → Ev_E} {a s n k t : Nat} (hk : k < n) (ht : t < (tk_K E a s n k).length) : tk_pi E a s n k t < n ∧ tk_Q E a s n k (tk_pi E a s n k t) = true ∧ kc (tk_Q E a s n k) (tk_pi E a s n k t) = t := by
  rw [tk_pi_at E a s hk ht]
  exact kl_at _ (by rw [← tk_K_kl E a s hk]; exact ht)
theorem tk_of {E : Nat → Ev_E} {a s n k i : Nat} (hk : k < n) (hi : i < n) (hq : tk_Q E a s n k i = true) : kc (tk_Q E a s n k) i < (tk_K E a s n k).length ∧ tk_pi E a s n k (kc (tk_Q E a s n k) i) = i := by
  have h1 : kc (tk_Q E a s n k) i < (tk_K E a s n k).length := by rw [tk_K_kl E a s hk, kl_len]; exact kc_lt _ hi hq
  exact ⟨h1, by rw [tk_pi_at E a s hk h1]; exact kl_get _ hi hq⟩
theorem S_tk {w w' : Ev_W} {S : Ev_S} {As : Nat → Option Nat} {sf : Nat → Int32} {sd k s : Nat} (h : is_S w S As sf sd) (hpo : is_po (sn S) (sE S) (si S)) (hk : k < sn S) (hp : tk_post w w' (sn S) (sm S) k s sd (sL S) sf (sa S) (sE S) (sP S)) : ∃ L1 As1, is_S w' (tk_S S k s L1) As1 sf sd ∧ is_po (sn (tk_S S k s L1)) (sE (tk_S S k s L1)) (si (tk_S S k s L1)) := by
  obtain ⟨a1, a2, a3, a4, a5, a6, a7, a8⟩ := h
  obtain ⟨L1, As1, b1, b2, b3, b4, b5⟩ := hp
  have hn60 : sn S ≤ 60 := by omega
  have hle := tk_K_le (sE S) (sa S k) s hk
  have hinj : ∀ i j, i < sn S → j < sn S → sa S i = sa S j → i = j := fun i j hi hj => a2.2 i j (by omega) (by omega)
  have hA := fun (t : Nat) (ht : t < (tk_K (sE S) (sa S k) s (sn S) k).length) => tk_at hk ht
  have hln : ∀ t, t < (tk_K (sE S) (sa S k) s (sn S) k).length → el_ln (sE (tk_S S k s L1)) t = el_ln (sE S) (tk_pi (sE S) (sa S k) s (sn S) k t) := fun t ht => by
    unfold el_ln
    show (((if t < (tk_K (sE S) (sa S k) s (sn S) k).length then el_n (sE S (tk_pi (sE S) (sa S k) s (sn S) k t)) (nI t) else sE S (tk_pi (sE S) (sa S k) s (sn S) k t)) : Ev_E).2.2.2 1).toNatClampNeg = _
    rw [if_pos ht]; rfl
  refine ⟨L1, As1, ⟨b1, b2, fun t ht => ?_, Nat.le_trans hle a4, a5, fun i hi hi2 => ?_, by rw [b5]; exact a7, a8⟩, fun t ht => ?_⟩
  · have ht : t < (tk_K (sE S) (sa S k) s (sn S) k).length := ht
    obtain ⟨h1, h2, h3⟩ := hA t ht
    show ((if t < (tk_K (sE S) (sa S k) s (sn S) k).length then el_n (sE S (tk_pi (sE S) (sa S k) s (sn S) k t)) (nI t) else sE S (tk_pi (sE S) (sa S k) s (sn S) k t)) : Ev_E).2.2.2 2 = nI t ∧ ((if t < (tk_K (sE S) (sa S k) s (sn S) k).length then el_n (sE S (tk_pi (sE S) (sa S k) s (sn S) k t)) (nI t) else sE S (tk_pi (sE S) (sa S k) s (sn S) k t)) : Ev_E).1 < 17 ∧ ((if t < (tk_K (sE S) (sa S k) s (sn S) k).length then el_n (sE S (tk_pi (sE S) (sa S k) s (sn S) k t)) (nI t) else sE S (tk_pi (sE S) (sa S k) s (sn S) k t)) : Ev_E).2.1 = ((si S (tk_pi (sE S) (sa S k) s (sn S) k t)).map (kc (tk_Q (sE S) (sa S k) s (sn S) k))).map (fun t => sa S (tk_pi (sE S) (sa S k) s (sn S) k t)) ∧ ∀ j, (si S (tk_pi (sE S) (sa S k) s (sn S) k t)).map (kc (tk_Q (sE S) (sa S k) s (sn S) k)) = some j → j < t
    rw [if_pos ht]
    obtain ⟨o1, o2, o3, o4⟩ := a3 _ h1
    refine ⟨rfl, o2, ?_, fun j hj => ?_⟩
    · show (sE S _).2.1 = _
      rw [o3]
      cases hm : si S (tk_pi (sE S) (sa S k) s (sn S) k t) with
      | none => rfl
      | some q =>
        have hq1 := o4 q hm
        have hqq := tk_mi hn60 a3 hpo hinj hk h1 h2 hm
        show some (sa S q) = some (sa S _)
        rw [(tk_of hk (by omega) hqq).2]
    · cases hm : si S (tk_pi (sE S) (sa S k) s (sn S) k t) with
      | none => rw [hm] at hj; cases hj
      | some q =>
        rw [hm] at hj
        have hq1 := o4 q hm
        have hqq := tk_mi hn60 a3 hpo hinj hk h1 h2 hm
        have := kc_lt (tk_Q (sE S) (sa S k) s (sn S) k) hq1 hqq
        have hj : kc (tk_Q (sE S) (sa S k) s (sn S) k) q = j := Option.some.inj hj
        omega
  · show L1 i = none
    have hi : sm S ≤ i := hi
    rw [b3 i (by omega)]; exact a6 i hi hi2
  · have ht : t < (tk_K (sE S) (sa S k) s (sn S) k).length := ht
    obtain ⟨h1, h2, h3⟩ := hA t ht
    obtain ⟨p1, p2, p3, p4⟩ := hpo _ h1
    rw [hln t ht]
    refine ⟨?_, ?_, fun z => ?_, fun j hj => ?_⟩
    · show ((if t < (tk_K (sE S) (sa S k) s (sn S) k).length then el_n (sE S (tk_pi (sE S) (sa S k) s (sn S) k t)) (nI t) else sE S (tk_pi (sE S) (sa S k) s (sn S) k t)) : Ev_E).2.2.2 1 = _
      rw [if_pos ht]; exact p1
    · have := tk_ln hn60 a3 hpo hinj hk _ _ (Nat.lt_succ_self _) h1 h2
      rw [h3] at this; exact this
    · refine p3 ?_
      have z : (si S (tk_pi (sE S) (sa S k) s (sn S) k t)).map (kc (tk_Q (sE S) (sa S k) s (sn S) k)) = none := z
      cases hm : si S (tk_pi (sE S) (sa S k) s (sn S) k t) with
      | none => rfl
      | some q => rw [hm] at z; cases z
    · have hj : (si S (tk_pi (sE S) (sa S k) s (sn S) k t)).map (kc (tk_Q (sE S) (sa S k) s (sn S) k)) = some j := hj
      cases hm : si S (tk_pi (sE S) (sa S k) s (sn S) k t) with
      | none => rw [hm] at hj; cases hj
      | some q =>
        rw [hm] at hj
        obtain ⟨q1, q2, q3⟩ := p4 q hm
        have hqq := tk_mi hn60 a3 hpo hinj hk h1 h2 hm
        have hof := tk_of (i := q) hk (by omega) hqq
        have hj : kc (tk_Q (sE S) (sa S k) s (sn S) k) q = j := Option.some.inj hj
        subst hj
        have hlt := kc_lt (tk_Q (sE S) (sa S k) s (sn S) k) q1 hqq
        rw [h3] at hlt
        rw [hln _ hof.1, hof.2]
        refine ⟨hlt, q2, fun u u1 u2 => ?_⟩
        have hu : u < (tk_K (sE S) (sa S k) s (sn S) k).length := by omega
        rw [hln u hu]
        have m1 := kl_mono (tk_Q (sE S) (sa S k) s (sn S) k) (n := sn S) (by rw [← tk_K_kl _ _ _ hk]; exact hof.1) (by rw [← tk_K_kl _ _ _ hk]; exact hu) u1
        have m2 := kl_mono (tk_Q (sE S) (sa S k) s (sn S) k) (n := sn S) (by rw [← tk_K_kl _ _ _ hk]; exact hu) (by rw [← tk_K_kl _ _ _ hk]; exact ht) u2
        rw [← tk_pi_at _ _ _ hk hof.1, ← tk_pi_at _ _ _ hk hu, hof.2] at m1
        rw [← tk_pi_at _ _ _ hk hu, ← tk_pi_at _ _ _ hk ht] at m2
        exact q3 _ m1 m2
