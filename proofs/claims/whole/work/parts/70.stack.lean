/-! ===== the open masters in both ===== -/
def stk (A : Ev_A) (E : Nat → Ev_E) (mi : Nat → Option Nat) (c : Nat) : Nat → Option Nat → Prop
  | 0, o => o = none ∧ A.1 134 0 = -1 ∧ A.1 135 0 = nI c ∧ A.1 136 0 = 0
  | k + 1, o => ∃ j, o = some j ∧ A.1 134 (k + 1) = nI j ∧ A.1 135 (k + 1) = nI (rd_en E j) ∧ A.1 136 (k + 1) = b_i (rd_op E j) ∧ rd_en E j ≤ rd_e1 E c (mi j) ∧ (rd_op E j = true → rd_en E j = rd_e1 E c (mi j)) ∧ rd_en E j ≤ c ∧ stk A E mi c k (mi j)
theorem stk.top {A : Ev_A} {E : Nat → Ev_E} {mi : Nat → Option Nat} {c : Nat} : ∀ {k : Nat} {o : Option Nat}, stk A E mi c k o → A.1 134 k = o_i o ∧ A.1 135 k = nI (rd_e1 E c o) ∧ rd_e1 E c o ≤ c
  | 0, o, h => by obtain ⟨rfl, h1, h2, h3⟩ := h; exact ⟨h1, h2, Nat.le_refl _⟩
  | k + 1, o, h => by obtain ⟨j, rfl, h1, h2, h3, h4, h5, h6, h7⟩ := h; exact ⟨h1, h2, h6⟩
/-- the open masters by other arrays and contents that agree there -/
theorem stk.cg {A A' : Ev_A} {E E' : Nat → Ev_E} {mi mi' : Nat → Option Nat} {c n K : Nat} (hA : ∀ q, q = 134 ∨ q = 135 ∨ q = 136 → ∀ x, x ≤ K → A'.1 q x = A.1 q x) (hE : ∀ j, j < n → (E' j).2.2.2 9 = (E j).2.2.2 9 ∧ (E' j).2.2.2 10 = (E j).2.2.2 10 ∧ mi' j = mi j) (hlt : ∀ i j, i < n → mi i = some j → j < n) : ∀ {k : Nat} {o : Option Nat}, k ≤ K → (∀ j, o = some j → j < n) → stk A E mi c k o → stk A' E' mi' c k o
  | 0, o, hk, ho, h => by
    obtain ⟨rfl, h1, h2, h3⟩ := h
    exact ⟨rfl, by rw [hA 134 (by decide) 0 (by omega)]; exact h1, by rw [hA 135 (by decide) 0 (by omega)]; exact h2, by rw [hA 136 (by decide) 0 (by omega)]; exact h3⟩
  | k + 1, o, hk, ho, h => by
    obtain ⟨j, rfl, h1, h2, h3, h4, h5, h6, h7⟩ := h
    have hj := ho j rfl
    obtain ⟨e9, e10, em⟩ := hE j hj
    have hen : rd_en E' j = rd_en E j := by unfold rd_en; rw [e9]
    have hop : rd_op E' j = rd_op E j := by unfold rd_op; rw [e10]
    have he1 : rd_e1 E' c (mi' j) = rd_e1 E c (mi j) := by
      rw [em]
      cases hm : mi j with
      | none => rfl
      | some i => show rd_en E' i = rd_en E i; unfold rd_en; rw [(hE i (hlt j i hj hm)).1]
    refine ⟨j, rfl, by rw [hA 134 (by decide) _ (by omega)]; exact h1, by rw [hA 135 (by decide) _ (by omega), hen]; exact h2, by rw [hA 136 (by decide) _ (by omega), hop]; exact h3, by rw [hen, he1]; exact h4, fun z => by rw [hen, he1]; exact h5 (by rw [← hop]; exact z), by rw [hen]; exact h6, ?_⟩
    rw [em]
    exact stk.cg hA hE hlt (by omega) (fun i hi => hlt j i hj hi) h7
theorem so_f7 : ∀ s, s < 17 → ∀ t, t < 17 → ∀ u, u < 17 → so_fm s = 0 → so_fits s (so_in t) = true → so_fits t (so_in u) = false := by decide +kernel
/-- a master that may stand in an open one is not deeper than the second -/
theorem stk.dep {A : Ev_A} {n : Nat} {E : Nat → Ev_E} {mi : Nat → Option Nat} {c k s : Nat} {o : Option Nat} (h : stk A E mi c k o) (hk : k ≤ 2) (ho : ∀ j, o = some j → j < n) (hp : pl_ok n E mi) (hlt : ∀ i j, i < n → mi i = some j → j < n) (hs : s < 17) (hf : so_fm s = 0) (hfit : ∀ j, o = some j → so_fits s (so_in (E j).1) = true) : k ≤ 1 := by
  by_cases z : k ≤ 1
  · exact z
  · exfalso
    have hk2 : k = 2 := by omega
    subst hk2
    obtain ⟨j, rfl, h1, h2, h3, h4, h5, h6, h7⟩ := h
    obtain ⟨i, hi, -⟩ := h7
    have hj := ho j rfl
    have hin := hlt j i hj hi
    have h8 := so_f7 s hs _ (hp j hj).1 _ (hp i hin).1 hf (hfit j rfl)
    rw [(hp j hj).2.2 i hi] at h8
    cases h8
theorem vl_4 : ∀ b, b < 256 → vl b = 4 → b < 32 := by decide +kernel
theorem nb_tag {g : Nat → Nat} {p : Nat} (hg : ∀ i, i < p + 4 → p ≤ i → i < p + vl (g p) → g i < 256) (h0 : g p < 256) (h16 : ¬ g p < 16) : 0 < nb g p (vl (g p)) ∧ nb g p (vl (g p)) < 2 ^ 31 := by
  have h4 := (vl_16 _ h0).mp h16
  have h1 := vl_1 (g p)
  have hb := fun i (h : i < vl (g p)) => hg (p + i) (by omega) (by omega) (by omega)
  have : vl (g p) = 1 ∨ vl (g p) = 2 ∨ vl (g p) = 3 ∨ vl (g p) = 4 := by omega
  rcases this with h | h | h | h
  · rw [h]; show 0 < 0 * 256 + g (p + 0) ∧ 0 * 256 + g (p + 0) < 2 ^ 31
    rw [Nat.add_zero]; omega
  · have b1 := hb 1 (by omega)
    rw [h]; show 0 < (0 * 256 + g (p + 0)) * 256 + g (p + 1) ∧ (0 * 256 + g (p + 0)) * 256 + g (p + 1) < 2 ^ 31
    rw [Nat.add_zero]; omega
  · have b1 := hb 1 (by omega)
    have b2 := hb 2 (by omega)
    rw [h]; show 0 < ((0 * 256 + g (p + 0)) * 256 + g (p + 1)) * 256 + g (p + 2) ∧ ((0 * 256 + g (p + 0)) * 256 + g (p + 1)) * 256 + g (p + 2) < 2 ^ 31
    rw [Nat.add_zero]; omega
  · have b1 := hb 1 (by omega)
    have b2 := hb 2 (by omega)
    have b3 := hb 3 (by omega)
    have b0 := vl_4 _ h0 h
    rw [h]; show 0 < (((0 * 256 + g (p + 0)) * 256 + g (p + 1)) * 256 + g (p + 2)) * 256 + g (p + 3) ∧ (((0 * 256 + g (p + 0)) * 256 + g (p + 1)) * 256 + g (p + 2)) * 256 + g (p + 3) < 2 ^ 31
    rw [Nat.add_zero]; omega
theorem lo.c0 {A A' : Ev_A} {n sd : Nat} (h : lo A A' n sd) {i : Nat} (hi : i < n) : ro_c0 A' i A i := by
  have h1 : ∀ q, q ∈ rw_l → q ≠ 122 ∧ q ≠ 127 ∧ q ≠ 128 ∧ q ≠ 129 → A'.1 q i = A.1 q i := fun q hq hn => h.1 q hq i (by rw [lo.i1 q hn]; exact hi)
  refine ⟨h1 118 (by decide) (by decide), h.2.2 i hi, h1 121 (by decide) (by decide), h1 123 (by decide) (by decide), h1 124 (by decide) (by decide), fun _ => h1 125 (by decide) (by decide), h1 126 (by decide) (by decide), fun j hj => h.1 122 (by decide) _ (by show 16 * i + j < 16 * n; omega), fun j hj => ⟨h.1 127 (by decide) _ (by rw [lo.i8 127 (by decide)]; omega), h.1 128 (by decide) _ (by rw [lo.i8 128 (by decide)]; omega)⟩⟩
/-- what a reading of an element keeps of the rest -/
def r_keep (I I' : Nat → Int32) (A A' : Ev_A) : Prop := i_but I I' [0, 1, 7, 8, 9, 10] ∧ ∀ q, q ∉ rw_l → q ≠ 134 → q ≠ 135 → q ≠ 136 → A'.1 q = A.1 q
