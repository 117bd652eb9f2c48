/-! ===== where elements stand, and what the reference finds by going through all of them ===== -/
def pl_ok (n : Nat) (E : Nat → Ev_E) (mi : Nat → Option Nat) : Prop := ∀ i, i < n → (E i).1 < 17 ∧ (mi i = none → so_fits (E i).1 1 = true) ∧ ∀ j, mi i = some j → so_fits (E i).1 (so_in (E j).1) = true
/-- what is in a master has its own master there -/
theorem in_mi {n : Nat} {E : Nat → Ev_E} {mi : Nat → Option Nat} (hn : n ≤ 60) (h : is_po n E mi) {k i : Nat} (hk : k < i) (hi : i < tr_end (el_lev E) n k) (hkn : k < n) : ∃ j, mi i = some j ∧ k ≤ j ∧ j < i := by
  obtain ⟨a, b, c, d⟩ := tr_end_spec hn h hkn
  obtain ⟨p1, p2, p3, p4⟩ := h i (by omega)
  have h1 := c i hk hi
  cases hm : mi i with
  | none => have := p3 hm; omega
  | some j =>
    obtain ⟨q1, q2, q3⟩ := p4 j hm
    refine ⟨j, rfl, ?_, q1⟩
    by_cases z : k ≤ j
    · exact z
    · have := q3 k (by omega) hk; omega
theorem mi_in {n : Nat} {E : Nat → Ev_E} {mi : Nat → Option Nat} (hn : n ≤ 60) (h : is_po n E mi) {k j i : Nat} (hkn : k < n) (hj : k ≤ j) (hje : j < tr_end (el_lev E) n k) (hi : i < n) (hm : mi i = some j) : k < i ∧ i < tr_end (el_lev E) n k := by
  obtain ⟨a, b, c, d⟩ := tr_end_spec hn h hkn
  obtain ⟨q1, q2, q3⟩ := (h i hi).2.2.2 j hm
  have hl : el_ln E k ≤ el_ln E j := by
    by_cases z : j = k
    · rw [z]; exact Nat.le_refl _
    · have := c j (by omega) hje; omega
  refine ⟨by omega, ?_⟩
  by_cases z : i < tr_end (el_lev E) n k
  · exact z
  · have h1 := d (by omega)
    by_cases y : i = tr_end (el_lev E) n k
    · rw [← y] at h1; omega
    · have := q3 _ hje (by omega); omega
theorem mi_in1 {n : Nat} {E : Nat → Ev_E} {mi : Nat → Option Nat} (hn : n ≤ 60) (h : is_po n E mi) {k i : Nat} (hi : i < n) (hm : mi i = some k) : k < i ∧ i < tr_end (el_lev E) n k ∧ k < n := by
  have h1 := ((h i hi).2.2.2 k hm).1
  have h2 := (tr_end_spec hn h (show k < n by omega)).1
  have h3 := mi_in hn h (show k < n by omega) (Nat.le_refl k) h2 hi hm
  exact ⟨h3.1, h3.2, by omega⟩
theorem so_f1 : ∀ s, s < 17 → ∀ t, t < 17 → ∀ u, u < 17 → so_fits s (so_in t) = true → so_fits t (so_in u) = true → u = 1 := by decide +kernel
theorem so_f2 : ∀ u, u < 17 → so_fits 1 (so_in u) = false := by decide +kernel
theorem so_f3 : ∀ u, u < 17 → so_fits 9 (so_in u) = true → u = 7 := by decide +kernel
theorem so_f4 : ∀ u, u < 17 → so_fits 7 (so_in u) = true → u = 1 := by decide +kernel
theorem so_f5 : ∀ u, u < 17 → so_fits 10 (so_in u) = true → u = 1 := by decide +kernel
theorem so_f6 : so_fits 9 1 = false ∧ so_fits 7 1 = false ∧ so_fits 10 1 = false := by decide +kernel
/-- what is in a master other than a SEGMENT is its child -/
theorem in_leaf {n : Nat} {E : Nat → Ev_E} {mi : Nat → Option Nat} (hn : n ≤ 60) (h : is_po n E mi) (hp : pl_ok n E mi) {k i : Nat} (hkn : k < n) (hs : (E k).1 ≠ 1) (hk : k < i) (hi : i < tr_end (el_lev E) n k) : mi i = some k := by
  have hb := (tr_end_spec hn h hkn).2.1
  obtain ⟨j, h1, h2, h3⟩ := in_mi hn h hk hi hkn
  by_cases z : j = k
  · rw [h1, z]
  · exfalso
    obtain ⟨j2, g1, g2, g3⟩ := in_mi hn h (show k < j by omega) (by omega) hkn
    have e1 := so_f1 _ (hp i (by omega)).1 _ (hp j (by omega)).1 _ (hp j2 (by omega)).1 ((hp i (by omega)).2.2 j h1) ((hp j (by omega)).2.2 j2 g1)
    by_cases y : j2 = k
    · rw [y] at e1; exact hs e1
    · obtain ⟨j3, f1, f2, f3⟩ := in_mi hn h (show k < j2 by omega) (by omega) hkn
      have e2 := (hp j2 (by omega)).2.2 j3 f1
      rw [e1, so_f2 _ (hp j3 (by omega)).1] at e2
      cases e2
/-- what is in a SEGMENT is its child or its child's child -/
theorem in_seg {n : Nat} {E : Nat → Ev_E} {mi : Nat → Option Nat} (hn : n ≤ 60) (h : is_po n E mi) (hp : pl_ok n E mi) {k i : Nat} (hkn : k < n) (hk : k < i) (hi : i < tr_end (el_lev E) n k) : mi i = some k ∨ ∃ j, mi i = some j ∧ mi j = some k ∧ k < j ∧ j < i := by
  have hb := (tr_end_spec hn h hkn).2.1
  obtain ⟨j, h1, h2, h3⟩ := in_mi hn h hk hi hkn
  by_cases z : j = k
  · exact Or.inl (by rw [h1, z])
  · refine Or.inr ⟨j, h1, ?_, by omega, h3⟩
    obtain ⟨j2, g1, g2, g3⟩ := in_mi hn h (show k < j by omega) (by omega) hkn
    have e1 := so_f1 _ (hp i (by omega)).1 _ (hp j (by omega)).1 _ (hp j2 (by omega)).1 ((hp i (by omega)).2.2 j h1) ((hp j (by omega)).2.2 j2 g1)
    by_cases y : j2 = k
    · rw [g1, y]
    · exfalso
      obtain ⟨j3, f1, f2, f3⟩ := in_mi hn h (show k < j2 by omega) (by omega) hkn
      have e2 := (hp j2 (by omega)).2.2 j3 f1
      rw [e1, so_f2 _ (hp j3 (by omega)).1] at e2
      cases e2
/-- a block's master and its master's -/
theorem bl_mi {n : Nat} {E : Nat → Ev_E} {mi : Nat → Option Nat} (h : is_po n E mi) (hp : pl_ok n E mi) {i : Nat} (hi : i < n) (h9 : (E i).1 = 9) : ∃ j k, mi i = some j ∧ mi j = some k ∧ (E j).1 = 7 ∧ (E k).1 = 1 ∧ k < j ∧ j < i := by
  obtain ⟨p1, p2, p3⟩ := hp i hi
  rw [h9] at p2 p3
  cases hm : mi i with
  | none => have := p2 hm; rw [so_f6.1] at this; cases this
  | some j =>
    have hj := ((h i hi).2.2.2 j hm).1
    have e1 := so_f3 _ (hp j (by omega)).1 (p3 j hm)
    obtain ⟨q1, q2, q3⟩ := hp j (by omega)
    rw [e1] at q2 q3
    cases hm2 : mi j with
    | none => have := q2 hm2; rw [so_f6.2.1] at this; cases this
    | some k =>
      have hk := ((h j (by omega)).2.2.2 k hm2).1
      exact ⟨j, k, rfl, hm2, e1, so_f4 _ (hp k (by omega)).1 (q3 k hm2), hk, hj⟩
theorem bl_in {n : Nat} {E : Nat → Ev_E} {mi : Nat → Option Nat} (hn : n ≤ 60) (h : is_po n E mi) (hp : pl_ok n E mi) {k i : Nat} (hkn : k < n) (h1 : (E k).1 = 1) (hi : i < n) (h9 : (E i).1 = 9) : (∃ j, mi i = some j ∧ mi j = some k) ↔ (k < i ∧ i < tr_end (el_lev E) n k) := by
  constructor
  · rintro ⟨j, a, b⟩
    have hj := ((h i hi).2.2.2 j a).1
    have h2 := mi_in1 hn h (show j < n by omega) b
    exact mi_in hn h hkn (by omega) h2.2.1 hi a
  · rintro ⟨a, b⟩
    rcases in_seg hn h hp hkn a b with z | ⟨j, y1, y2, y3, y4⟩
    · obtain ⟨j, k2, g1, g2, g3, g4, g5, g6⟩ := bl_mi h hp hi h9
      rw [z] at g1
      cases g1
      rw [h1] at g3; cases g3
    · exact ⟨j, y1, y2⟩
/-! scans -/
def sc_n (p : Nat → Bool) : Nat → Nat → Nat
  | 0, _ => 0
  | t + 1, i => (if p i = true then 1 else 0) + sc_n p t (i + 1)
def sc_f (p : Nat → Bool) : Nat → Nat → Option Nat
  | 0, _ => none
  | t + 1, i => if p i = true then some i else sc_f p t (i + 1)
def sc_c (p : Nat → Bool) : Nat → Nat → Nat → Option Nat
  | 0, _, _ => none
  | t + 1, i, l => if p i = true then (if l = 0 then some i else sc_c p t (i + 1) (l - 1)) else sc_c p t (i + 1) l
def sc_b (p : Nat → Bool) (x : Int64) : Nat → Nat → Nat → Option Nat
  | 0, _, _ => none
  | t + 1, i, c => if p i = true then (if lN c = x then some i else sc_b p x t (i + 1) (c + 1)) else sc_b p x t (i + 1) c
def sc_l (p : Nat → Bool) : Nat → Option Nat
  | 0 => none
  | c + 1 => if p c = true then some c else sc_l p c
theorem sc_n_sk (p : Nat → Bool) : ∀ (a b i : Nat), (∀ x, i ≤ x → x < i + a → p x = false) → sc_n p (a + b) i = sc_n p b (i + a)
  | 0, b, i, h => by rw [Nat.zero_add, Nat.add_zero]
  | a + 1, b, i, h => by
    rw [show a + 1 + b = (a + b) + 1 by omega, sc_n, if_neg (by rw [h i (Nat.le_refl _) (by omega)]; decide), sc_n_sk p a b (i + 1) (fun x h1 h2 => h x (by omega) (by omega)), Nat.zero_add, show i + 1 + a = i + (a + 1) by omega]
theorem sc_n_end (p : Nat → Bool) : ∀ (a b i : Nat), (∀ x, i + a ≤ x → x < i + a + b → p x = false) → sc_n p (a + b) i = sc_n p a i
  | 0, b, i, h => by
    have := sc_n_sk p b 0 i (fun x h1 h2 => h x (by omega) (by omega))
    rw [Nat.zero_add, show b = b + 0 from rfl, this]; rfl
  | a + 1, b, i, h => by
    rw [show a + 1 + b = (a + b) + 1 by omega, sc_n, sc_n, sc_n_end p a b (i + 1) (fun x h1 h2 => h x (by omega) (by omega))]
theorem sc_f_sk (p : Nat → Bool) : ∀ (a b i : Nat), (∀ x, i ≤ x → x < i + a → p x = false) → sc_f p (a + b) i = sc_f p b (i + a)
  | 0, b, i, h => by rw [Nat.zero_add, Nat.add_zero]
  | a + 1, b, i, h => by
    rw [show a + 1 + b = (a + b) + 1 by omega, sc_f, if_neg (by rw [h i (Nat.le_refl _) (by omega)]; decide), sc_f_sk p a b (i + 1) (fun x h1 h2 => h x (by omega) (by omega)), show i + 1 + a = i + (a + 1) by omega]
theorem sc_f_end (p : Nat → Bool) : ∀ (a b i : Nat), (∀ x, i + a ≤ x → x < i + a + b → p x = false) → sc_f p (a + b) i = sc_f p a i
  | 0, b, i, h => by
    have := sc_f_sk p b 0 i (fun x h1 h2 => h x (by omega) (by omega))
    rw [Nat.zero_add, show b = b + 0 from rfl, this]; rfl
  | a + 1, b, i, h => by
    rw [show a + 1 + b = (a + b) + 1 by omega, sc_f, sc_f, sc_f_end p a b (i + 1) (fun x h1 h2 => h x (by omega) (by omega))]
theorem sc_c_sk (p : Nat → Bool) : ∀ (a b i l : Nat), (∀ x, i ≤ x → x < i + a → p x = false) → sc_c p (a + b) i l = sc_c p b (i + a) l
  | 0, b, i, l, h => by rw [Nat.zero_add, Nat.add_zero]
  | a + 1, b, i, l, h => by
    rw [show a + 1 + b = (a + b) + 1 by omega, sc_c, if_neg (by rw [h i (Nat.le_refl _) (by omega)]; decide), sc_c_sk p a b (i + 1) l (fun x h1 h2 => h x (by omega) (by omega)), show i + 1 + a = i + (a + 1) by omega]
theorem sc_c_end (p : Nat → Bool) : ∀ (a b i l : Nat), (∀ x, i + a ≤ x → x < i + a + b → p x = false) → sc_c p (a + b) i l = sc_c p a i l
  | 0, b, i, l, h => by
    have := sc_c_sk p b 0 i l (fun x h1 h2 => h x (by omega) (by omega))
    rw [Nat.zero_add, show b = b + 0 from rfl, this]; rfl
  | a + 1, b, i, l, h => by
    rw [show a + 1 + b = (a + b) + 1 by omega, sc_c, sc_c, sc_c_end p a b (i + 1) (l - 1) (fun x h1 h2 => h x (by omega) (by omega)), sc_c_end p a b (i + 1) l (fun x h1 h2 => h x (by omega) (by omega))]
theorem sc_b_sk (p : Nat → Bool) (x0 : Int64) : ∀ (a b i l : Nat), (∀ x, i ≤ x → x < i + a → p x = false) → sc_b p x0 (a + b) i l = sc_b p x0 b (i + a) l
  | 0, b, i, l, h => by rw [Nat.zero_add, Nat.add_zero]
  | a + 1, b, i, l, h => by
    rw [show a + 1 + b = (a + b) + 1 by omega, sc_b, if_neg (by rw [h i (Nat.le_refl _) (by omega)]; decide), sc_b_sk p x0 a b (i + 1) l (fun x h1 h2 => h x (by omega) (by omega)), show i + 1 + a = i + (a + 1) by omega]
theorem sc_b_end (p : Nat → Bool) (x0 : Int64) : ∀ (a b i l : Nat), (∀ x, i + a ≤ x → x < i + a + b → p x = false) → sc_b p x0 (a + b) i l = sc_b p x0 a i l
  | 0, b, i, l, h => by
    have := sc_b_sk p x0 b 0 i l (fun x h1 h2 => h x (by omega) (by omega))
    rw [Nat.zero_add, show b = b + 0 from rfl, this]; rfl
  | a + 1, b, i, l, h => by
    rw [show a + 1 + b = (a + b) + 1 by omega, sc_b, sc_b, sc_b_end p x0 a b (i + 1) (l + 1) (fun x h1 h2 => h x (by omega) (by omega)), sc_b_end p x0 a b (i + 1) l (fun x h1 h2 => h x (by omega) (by omega))]
/-- a scan through all is a scan through the window outside of which there is nothing -/
theorem sc_win {α : Type} {F : Nat → Nat → α} {p : Nat → Bool} (sk : ∀ a b i, (∀ x, i ≤ x → x < i + a → p x = false) → F (a + b) i = F b (i + a)) (en : ∀ a b i, (∀ x, i + a ≤ x → x < i + a + b → p x = false) → F (a + b) i = F a i) {n a e : Nat} (hae : a ≤ e) (hen : e ≤ n) (hp : ∀ x, x < n → p x = true → a ≤ x ∧ x < e) : F n 0 = F (e - a) a := by
  have h0 : ∀ x, x < n → (x < a ∨ e ≤ x) → p x = false := fun x h1 h2 => by
    cases h : p x with
    | false => rfl
    | true => have := hp x h1 h; omega
  have h1 := sk a (n - a) 0 (fun x _ h2 => h0 x (by omega) (by omega))
  rw [show a + (n - a) = n by omega, Nat.zero_add] at h1
  rw [h1]
  have h2 := en (e - a) (n - e) a (fun x g1 g2 => h0 x (by omega) (by omega))
  rw [show e - a + (n - e) = n - a by omega] at h2
  exact h2
theorem sc_n_cg {p q : Nat → Bool} : ∀ (t i : Nat), (∀ x, i ≤ x → x < i + t → p x = q x) → sc_n p t i = sc_n q t i
  | 0, i, h => rfl
  | t + 1, i, h => by rw [sc_n, sc_n, h i (Nat.le_refl _) (by omega), sc_n_cg t (i + 1) (fun x h1 h2 => h x (by omega) (by omega))]
theorem sc_f_cg {p q : Nat → Bool} : ∀ (t i : Nat), (∀ x, i ≤ x → x < i + t → p x = q x) → sc_f p t i = sc_f q t i
  | 0, i, h => rfl
  | t + 1, i, h => by rw [sc_f, sc_f, h i (Nat.le_refl _) (by omega), sc_f_cg t (i + 1) (fun x h1 h2 => h x (by omega) (by omega))]
theorem sc_c_cg {p q : Nat → Bool} : ∀ (t i l : Nat), (∀ x, i ≤ x → x < i + t → p x = q x) → sc_c p t i l = sc_c q t i l
  | 0, i, l, h => rfl
  | t + 1, i, l, h => by rw [sc_c, sc_c, h i (Nat.le_refl _) (by omega), sc_c_cg t (i + 1) _ (fun x h1 h2 => h x (by omega) (by omega)), sc_c_cg t (i + 1) _ (fun x h1 h2 => h x (by omega) (by omega))]
theorem sc_b_cg {p q : Nat → Bool} (x0 : Int64) : ∀ (t i l : Nat), (∀ x, i ≤ x → x < i + t → p x = q x) → sc_b p x0 t i l = sc_b q x0 t i l
  | 0, i, l, h => rfl
  | t + 1, i, l, h => by rw [sc_b, sc_b, h i (Nat.le_refl _) (by omega), sc_b_cg x0 t (i + 1) _ (fun x h1 h2 => h x (by omega) (by omega)), sc_b_cg x0 t (i + 1) _ (fun x h1 h2 => h x (by omega) (by omega))]
theorem sc_l_end {p : Nat → Bool} {e : Nat} : ∀ n, e ≤ n → (∀ x, e ≤ x → x < n → p x = false) → sc_l p n = sc_l p e
  | 0, h, _ => by rw [show e = 0 by omega]
  | n + 1, h, hp => by
    by_cases z : e = n + 1
    · rw [z]
    · rw [sc_l, if_neg (by rw [hp n (by omega) (by omega)]; decide), sc_l_end n (by omega) (fun x h1 h2 => hp x h1 (by omega))]
theorem sc_l_no {p : Nat → Bool} : ∀ n, (∀ x, x < n → p x = false) → sc_l p n = none
  | 0, _ => rfl
  | n + 1, hp => by rw [sc_l, if_neg (by rw [hp n (by omega)]; decide), sc_l_no n (fun x h => hp x (by omega))]
theorem sc_f_is {p : Nat → Bool} : ∀ (t i : Nat) {x : Nat}, sc_f p t i = some x → i ≤ x ∧ x < i + t ∧ p x = true
  | 0, i, x, h => by cases h
  | t + 1, i, x, h => by
    rw [sc_f] at h
    split at h
    · rename_i z; cases h; exact ⟨Nat.le_refl _, by omega, z⟩
    · have := sc_f_is t (i + 1) h; exact ⟨by omega, by omega, this.2.2⟩
theorem sc_l_is {p : Nat → Bool} : ∀ (n : Nat) {x : Nat}, sc_l p n = some x → x < n ∧ p x = true
  | 0, x, h => by cases h
  | n + 1, x, h => by
    rw [sc_l] at h
    split at h
    · rename_i z; cases h; exact ⟨by omega, z⟩
    · have := sc_l_is n h; exact ⟨by omega, this.2⟩
theorem sc_n_le (p : Nat → Bool) : ∀ t i, sc_n p t i ≤ t
  | 0, _ => Nat.le_refl _
  | t + 1, i => by rw [sc_n]; have := sc_n_le p t (i + 1); split <;> omega
/-! the class's scans as these -/
theorem tr_cnt_sc (E : Nat → Ev_E) (a e : Nat) : ∀ t i, tr_cnt E a e t i = sc_n (fun x => decide ((E x).2.1 = some a)) t i
  | 0, i => rfl
  | t + 1, i => by rw [tr_cnt, sc_n, tr_cnt_sc E a e t (i + 1)]; simp
theorem tr_ch_sc (E : Nat → Ev_E) (a j : Nat) : ∀ t i c, c ≤ j → tr_ch E a j t i c = sc_c (fun x => decide ((E x).2.1 = some a)) t i (j - c)
  | 0, i, c, h => rfl
  | t + 1, i, c, h => by
    rw [tr_ch, sc_c]
    by_cases z : (E i).2.1 = some a
    · rw [if_pos z, if_pos (decide_eq_true z)]
      by_cases y : c = j
      · rw [if_pos y, if_pos (by omega)]
      · rw [if_neg y, if_neg (by omega), tr_ch_sc E a j t (i + 1) (c + 1) (by omega), show j - (c + 1) = j - c - 1 by omega]
    · rw [if_neg z, if_neg (by simpa using z), tr_ch_sc E a j t (i + 1) c h]
def sc_v (E : Nat → Ev_E) (o : Option Nat) : Int64 := match o with
  | none => 0
  | some i => (E i).2.2.1
theorem fi_fn_sc (E : Nat → Ev_E) (s : Nat) : ∀ t i, fi_fn E s t i = sc_v E (sc_f (fun x => decide ((E x).1 = s)) t i)
  | 0, i => rfl
  | t + 1, i => by
    rw [fi_fn, sc_f]
    by_cases z : (E i).1 = s
    · rw [if_pos z, if_pos (decide_eq_true z)]; rfl
    · rw [if_neg z, if_neg (by simpa using z), fi_fn_sc E s t (i + 1)]
theorem fi_bb_sc (E : Nat → Ev_E) (x : Int64) : ∀ t i c, fi_bb E x t i c = sc_b (fun y => decide ((E y).1 = 9)) x t i c
  | 0, i, c => rfl
  | t + 1, i, c => by
    rw [fi_bb, sc_b]
    by_cases z : (E i).1 = 9
    · rw [if_pos z, if_pos (decide_eq_true z), fi_bb_sc E x t (i + 1) (c + 1)]
    · rw [if_neg z, if_neg (by simpa using z), fi_bb_sc E x t (i + 1) c]
theorem fi_ck_sc (E : Nat → Ev_E) : ∀ t i, fi_ck E t i = sc_n (fun x => decide ((E x).1 = 9 ∧ ¬ (E x).2.2.2 7 = 0)) t i
  | 0, i => rfl
  | t + 1, i => by rw [fi_ck, sc_n, fi_ck_sc E t (i + 1)]; simp only [decide_eq_true_eq]
/-! what the reference's own conditions come to -/
def mp_c (mi : Nat → Option Nat) (k : Nat) (x : Nat) : Bool := decide (mi x = some k)
theorem cnt_mp {n : Nat} {E : Nat → Ev_E} {mi : Nat → Option Nat} {ad : Nat → Nat} (hn : n ≤ 60) (h : is_po n E mi) (hok : el_ok n ad E mi) (hin : ∀ i j, i < n → j < n → ad i = ad j → i = j) {k : Nat} (hk : k < n) : tr_cnt E (ad k) (tr_end (el_lev E) n k) (tr_end (el_lev E) n k - (k + 1)) (k + 1) = sc_n (mp_c mi k) n 0 := by
  obtain ⟨a, b, c, d⟩ := tr_end_spec hn h hk
  rw [tr_cnt_sc, sc_win (F := sc_n (mp_c mi k)) (sc_n_sk _) (sc_n_end _) (a := k + 1) a b (fun x h1 h2 => by have := mi_in1 hn h h1 (of_decide_eq_true h2); omega)]
  refine sc_n_cg _ _ (fun x h1 h2 => ?_)
  unfold mp_c
  have hx : x < n := by omega
  rw [(hok x hx).2.2.1]
  cases hm : mi x with
  | none => rfl
  | some j =>
    have := (hok x hx).2.2.2 j hm
    by_cases z : j = k
    · rw [z]; simp
    · show decide (some (ad j) = some (ad k)) = _
      rw [decide_eq_false (fun y => z (hin j k (by omega) hk (Option.some.inj y))), decide_eq_false (fun y => z (Option.some.inj y))]
theorem ch_mp {n : Nat} {E : Nat → Ev_E} {mi : Nat → Option Nat} {ad : Nat → Nat} (hn : n ≤ 60) (h : is_po n E mi) (hok : el_ok n ad E mi) (hin : ∀ i j, i < n → j < n → ad i = ad j → i = j) {k : Nat} (hk : k < n) (j : Nat) : tr_ch E (ad k) j (tr_end (el_lev E) n k - (k + 1)) (k + 1) 0 = sc_c (mp_c mi k) n 0 j := by
  obtain ⟨a, b, c, d⟩ := tr_end_spec hn h hk
  rw [tr_ch_sc _ _ _ _ _ _ (Nat.zero_le _), sc_win (F := fun t i => sc_c (mp_c mi k) t i j) (fun a b i => sc_c_sk _ a b i j) (fun a b i => sc_c_end _ a b i j) (p := mp_c mi k) (a := k + 1) a b (fun x h1 h2 => by have := mi_in1 hn h h1 (of_decide_eq_true h2); omega)]
  refine sc_c_cg _ _ _ (fun x h1 h2 => ?_)
  unfold mp_c
  have hx : x < n := by omega
  rw [(hok x hx).2.2.1]
  cases hm : mi x with
  | none => rfl
  | some q =>
    have := (hok x hx).2.2.2 q hm
    by_cases z : q = k
    · rw [z]; simp
    · show decide (some (ad q) = some (ad k)) = _
      rw [decide_eq_false (fun y => z (hin q k (by omega) hk (Option.some.inj y))), decide_eq_false (fun y => z (Option.some.inj y))]
def mp_f (E : Nat → Ev_E) (mi : Nat → Option Nat) (k s : Nat) (x : Nat) : Bool := decide (mi x = some k ∧ (E x).1 = s)
theorem fn_mp {n : Nat} {E : Nat → Ev_E} {mi : Nat → Option Nat} (hn : n ≤ 60) (h : is_po n E mi) (hp : pl_ok n E mi) {k : Nat} (hk : k < n) (h1 : (E k).1 ≠ 1) (s : Nat) : fi_num E n k s = sc_v E (sc_f (mp_f E mi k s) n 0) := by
  obtain ⟨a, b, c, d⟩ := tr_end_spec hn h hk
  rw [fi_num, fi_fn_sc, sc_win (F := sc_f (mp_f E mi k s)) (sc_f_sk _) (sc_f_end _) (a := k + 1) a b (fun x h1 h2 => by have := mi_in1 hn h h1 (of_decide_eq_true h2).1; omega)]
  congr 1
  refine sc_f_cg _ _ (fun x g1 g2 => ?_)
  unfold mp_f
  have := in_leaf hn h hp hk h1 (show k < x by omega) (by omega)
  simp [this]
/-- is it a block of the SEGMENT at k? -/
def mp_b (E : Nat → Ev_E) (mi : Nat → Option Nat) (k : Nat) (x : Nat) : Bool := decide ((E x).1 = 9) && (match mi x with
  | none => false
  | some j => decide (mi j = some k))
theorem mp_b_iff {n : Nat} {E : Nat → Ev_E} {mi : Nat → Option Nat} (hn : n ≤ 60) (h : is_po n E mi) (hp : pl_ok n E mi) {k i : Nat} (hkn : k < n) (h1 : (E k).1 = 1) (hi : i < n) : mp_b E mi k i = true ↔ ((E i).1 = 9 ∧ k < i ∧ i < tr_end (el_lev E) n k) := by
  unfold mp_b
  by_cases h9 : (E i).1 = 9
  · have hb := bl_in hn h hp hkn h1 hi h9
    rw [decide_eq_true h9, Bool.true_and]
    constructor
    · intro z
      refine ⟨h9, hb.mp ?_⟩
      cases hm : mi i with
      | none => rw [hm] at z; cases z
      | some j => rw [hm] at z; exact ⟨j, rfl, of_decide_eq_true z⟩
    · intro z
      obtain ⟨j, a, b⟩ := hb.mpr z.2
      rw [a]; exact decide_eq_true b
  · rw [decide_eq_false h9]
    simp [h9]
