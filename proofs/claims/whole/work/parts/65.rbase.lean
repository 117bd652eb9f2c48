/-! ===== the reference: readBlock ===== -/
def rw_l : List Nat := [118, 119, 121, 122, 123, 124, 125, 126, 127, 128, 129]
def lo_b (n sd c : Nat) : Nat := if c = 122 then 16 * n else if c = 127 ∨ c = 128 then 8 * n else if c = 129 then sd else n
/-- the rows below n and what was stored are as they were; so is all that has no rows -/
def lo (A A' : Ev_A) (n sd : Nat) : Prop := (∀ q, q ∈ rw_l → ∀ x, x < lo_b n sd q → A'.1 q x = A.1 q x) ∧ (∀ q, q ∉ rw_l → A'.1 q = A.1 q) ∧ ∀ x, x < n → A'.2 x = A.2 x
theorem lo.rf {A : Ev_A} {n sd : Nat} : lo A A n sd := ⟨fun _ _ _ _ => rfl, fun _ _ => rfl, fun _ _ => rfl⟩
theorem lo.tr {A B C : Ev_A} {n sd : Nat} (h : lo A B n sd) (k : lo B C n sd) : lo A C n sd := ⟨fun q hq x hx => (k.1 q hq x hx).trans (h.1 q hq x hx), fun q hq => (k.2.1 q hq).trans (h.2.1 q hq), fun x hx => (k.2.2 x hx).trans (h.2.2 x hx)⟩
theorem lo.st {A B : Ev_A} {n sd c j : Nat} {x : Int32} (h : lo A B n sd) (hc : c ∈ rw_l) (hj : lo_b n sd c ≤ j) : lo A (aset B c j x) n sd := by
  refine ⟨fun q hq y hy => ?_, fun q hq => ?_, h.2.2⟩
  · rw [aset_off _ _ _ _ _ _ (by
      by_cases z : q = c
      · subst z; exact Or.inr (by omega)
      · exact Or.inl z)]
    exact h.1 q hq y hy
  · rw [aset_ne _ _ _ (show q ≠ c from fun z => hq (by rw [z]; exact hc))]
    exact h.2.1 q hq
theorem lo.sv {A B : Ev_A} {n sd : Nat} {x : Int64} (h : lo A B n sd) : lo A (vset B n x) n sd := ⟨h.1, h.2.1, fun y hy => by show vp_updL B.2 n x y = _; rw [show vp_updL B.2 n x y = B.2 y from by simp [vp_updL, show ¬ y = n by omega]]; exact h.2.2 y hy⟩
/-- one array alone is another -/
theorem lo.b1 {A A' : Ev_A} {n sd c : Nat} (h : a_but A A' [c]) (hx : ∀ x, x < lo_b n sd c → A'.1 c x = A.1 c x) (hc : c ∈ rw_l) : lo A A' n sd := by
  refine ⟨fun q hq x hxq => ?_, fun q hq => h.1 q (fun z => hq (by rw [List.mem_singleton.mp z]; exact hc)), fun x _ => by rw [h.2]⟩
  by_cases z : q = c
  · subst z; exact hx x hxq
  · rw [h.1 q (fun y => z (List.mem_singleton.mp y))]
theorem t16 {x : Nat} (h : x < 65536) : ((nI x).toInt16.toInt32).toInt = if x < 32768 then (x : Int) else (x : Int) - 65536 := by
  rw [Int16.toInt_toInt32, Int32.toInt_toInt16, nI_toInt (by omega), Int.bmod_def]
  split <;> split <;> omega
theorem tm_lo {a b : Nat} (ha : a ≤ 127) (hb : b < 256) : nI a * 256 + nI b = (nI (a * 256 + b)).toInt16.toInt32 := by
  rw [show (256 : Int32) = nI 256 from rfl, nI_ml, nI_add]
  apply Int32.toInt_inj.mp
  rw [t16 (by omega), nI_toInt (by omega), if_pos (by omega)]
theorem tm_hi {a b : Nat} (ha : 127 < a) (ha2 : a < 256) (hb : b < 256) : (nI a - 256) * 256 + nI b = (nI (a * 256 + b)).toInt16.toInt32 := by
  apply Int32.toInt_inj.mp
  rw [t16 (by omega), if_neg (by omega), Int32.toInt_add, Int32.toInt_mul, show (256 : Int32) = nI 256 from rfl, nI_d (by omega) (by omega), nI_toInt (by omega), nI_toInt (by omega)]
  rw [show ((a : Int) - (256 : Nat)) * (256 : Nat) = (a : Int) * 256 - 65536 by omega]
  rw [show ((a : Int) * 256 - 65536).bmod (2 ^ 32) = (a : Int) * 256 - 65536 from Int.bmod_eq_of_le (by omega) (by omega), Int.bmod_eq_of_le (by omega) (by omega)]
  omega
theorem rz_sum {g : Nat → Nat} {la e : Nat} : ∀ (k i p prev sum : Nat) {q : List Nat × Nat}, p ≤ e → rz g la e k i p prev sum = some q → sum + q.1.sum = e - q.2 ∧ p ≤ q.2 ∧ q.2 ≤ e
  | 0, i, p, prev, sum, q, hpe, h => by
    rw [rz] at h
    split at h
    · cases h; rename_i z; simp; omega
    · cases h
  | k + 1, i, p, prev, sum, q, hpe, h => by
    rw [rz] at h
    cases hr : rz1 g la e i p prev with
    | none => rw [hr] at h; cases h
    | some r =>
      rw [hr] at h
      dsimp only at h
      have hp := rz1_p hpe hr
      split at h
      · cases hm : rz g la e k (i + 1) r.2 r.1 (sum + r.1) with
        | none => rw [hm] at h; cases h
        | some q2 =>
          rw [hm] at h
          cases h
          have h2 := rz_sum k (i + 1) r.2 r.1 (sum + r.1) hp.2 hm
          refine ⟨?_, by show p ≤ q2.2; omega, h2.2.2⟩
          show sum + (r.1 :: q2.1).sum = e - q2.2
          rw [List.sum_cons]; omega
      · cases h
theorem bz_sum {g : Nat → Nat} {la k p e : Nat} {q : List Nat × Nat} (hpe : p ≤ e) (h : bz g la k p e = some q) : q.1.sum = e - q.2 ∧ p ≤ q.2 ∧ q.2 ≤ e := by
  unfold bz at h
  split at h
  · cases h
  · split at h
    · split at h
      · rename_i z
        cases h
        refine ⟨?_, Nat.le_refl _, hpe⟩
        show (List.replicate k ((e - p) / k)).sum = e - p
        rw [List.sum_replicate_nat, Nat.mul_comm]
        have := Nat.div_add_mod (e - p) k
        rw [Nat.mul_comm] at this
        omega
      · cases h
    · have := rz_sum _ _ _ _ _ hpe h; exact ⟨by omega, this.2⟩
theorem sum_sm : ∀ (l : List Nat), l.sum = sm_N (fun j => l.getD j 0) l.length := by
  intro l
  have key : ∀ (l : List Nat) (k : Nat), k ≤ l.length → (l.take k).sum = sm_N (fun j => l.getD j 0) k := by
    intro l k
    induction k with
    | zero => intro _; rfl
    | succ k ih =>
      intro hk
      rw [sm_N, ← ih (by omega), List.take_succ, List.sum_append, List.getElem?_eq_getElem (by omega), List.getD_eq_getElem?_getD, List.getElem?_eq_getElem (by omega)]
      simp
  have := key l l.length (Nat.le_refl _)
  rw [List.take_length] at this
  exact this
def rbk (g : Nat → Nat) (p e : Nat) : Option (Ev_B × List Nat × Nat) := match bh g p e with
  | none => none
  | some R => (bz g R.2.2.2.1 R.2.2.2.2.1 R.2.2.2.2.2 e).map (fun q => (R, q.1, q.2))
def rbk_post (w : Ev_W) (I : Nat → Int32) (A : Ev_A) (o : Option (Ev_B × List Nat × Nat)) (n sd e : Nat) (g : Nat → Nat) (v : Option Value) (w' : Ev_W) : Prop := ∃ I' v' A', is_M w' I' v' A' ∧ mo_sm w w' ∧ i_but I I' [1, 7, 8, 9] ∧ lo A A' n sd ∧ A'.1 118 = A.1 118 ∧ A'.1 119 = A.1 119 ∧ match o with
  | none => v = some (.int 0) ∧ I' 1 = I 1
  | some Q => v = some (.int 1) ∧ I' 1 = nI (sd + (e - Q.2.2)) ∧ A'.1 121 n = nI Q.2.1.length ∧ A'.1 123 n = nI Q.1.1 ∧ A'.1 124 n = Q.1.2.1 ∧ A'.1 125 n = b_i Q.1.2.2.1 ∧ A'.1 126 n = nI Q.1.2.2.2.1 ∧ (∀ i, i < Q.2.1.length → A'.1 127 (8 * n + i) = nI (Q.2.1.getD i 0) ∧ A'.1 128 (8 * n + i) = nI (sd + sm_N (fun j => Q.2.1.getD j 0) i)) ∧ ∀ x, x < e - Q.2.2 → A'.1 129 (sd + x) = nI (g (Q.2.2 + x))
