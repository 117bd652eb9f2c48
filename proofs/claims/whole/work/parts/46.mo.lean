/-! ===== the reference: its cells ===== -/
/-- 0 count, 1 used, 2 hands, 3 handBytes, 4 ins, 5 outs, 6 fault, 7 at, 8 width, 9 ones, 10 depth -/
def mo_L (I : Nat → Int32) (v : Int64) : List Value := [.int (I 0), .ref 118, .ref 119, .ref 120, .ref 121, .ref 122, .ref 123, .ref 124, .ref 125, .ref 126, .ref 127, .ref 128, .ref 129, .int (I 1), .int (I 2), .ref 130, .ref 131, .int (I 3), .ref 132, .int (I 4), .ref 133, .int (I 5), .int (I 6), .int (I 7), .int (I 8), .long v, .int (I 9), .int (I 10), .ref 134, .ref 135, .ref 136, .ref 137, .ref 138]
/-- the arrays of the cells 118 to 138: what they hold and how much -/
def mo_ty : Nat → Option (Nat × Nat)
  | 118 => some (0, 61) | 119 => some (0, 61) | 121 => some (0, 61) | 122 => some (0, 976) | 123 => some (0, 61) | 124 => some (0, 61) | 125 => some (2, 61) | 126 => some (0, 61) | 127 => some (0, 488) | 128 => some (0, 488) | 129 => some (0, 1300) | 130 => some (0, 8) | 131 => some (0, 8) | 132 => some (0, 640) | 133 => some (0, 700) | 134 => some (0, 8) | 135 => some (0, 8) | 136 => some (2, 8) | 137 => some (0, 61) | 138 => some (0, 61) | _ => none
theorem mo_ty_c {c k n : Nat} (h : mo_ty c = some (k, n)) : 118 ≤ c ∧ c ≤ 138 ∧ c ≠ 120 ∧ n < 2 ^ 31 := by
  unfold mo_ty at h
  split at h <;> first | (cases h; decide) | (cases h)
abbrev Ev_A : Type := (Nat → Nat → Int32) × (Nat → Int64)
def is_M (w : Ev_W) (I : Nat → Int32) (v : Int64) (A : Ev_A) : Prop := w.2 117 = some (.inr (8, mo_L I v)) ∧ (∀ c k n, mo_ty c = some (k, n) → w.2 c = some (.inl (k, n, .inl (A.1 c)))) ∧ w.2 120 = some (.inl (1, 61, .inr (.inl A.2)))
def aset (A : Ev_A) (c j : Nat) (x : Int32) : Ev_A := (fun q => if q = c then upd (A.1 c) j x else A.1 q, A.2)
def vset (A : Ev_A) (j : Nat) (x : Int64) : Ev_A := (A.1, vp_updL A.2 j x)
/-- nothing changed but the reference's cells -/
def mo_sm (w w' : Ev_W) : Prop := w'.1 = w.1 ∧ ∀ q, q < 117 ∨ 138 < q → w'.2 q = w.2 q
theorem mo_sm.rf {w : Ev_W} : mo_sm w w := ⟨rfl, fun _ _ => rfl⟩
theorem mo_sm.tr {a b c : Ev_W} (h : mo_sm a b) (k : mo_sm b c) : mo_sm a c := ⟨k.1.trans h.1, fun q hq => (k.2 q hq).trans (h.2 q hq)⟩
theorem mo_sm.st {a b : Ev_W} {r : Nat} {x : Ev_K} (h : mo_sm a b) (hr : 117 ≤ r ∧ r ≤ 138) : mo_sm a (ev_set b r x) := ⟨h.1, fun q hq => by rw [ev_set_ne _ _ (by omega)]; exact h.2 q hq⟩
theorem aset_at (A : Ev_A) (c j : Nat) (x : Int32) : (aset A c j x).1 c = upd (A.1 c) j x := by simp [aset]
theorem aset_ne (A : Ev_A) {c q : Nat} (j : Nat) (x : Int32) (h : q ≠ c) : (aset A c j x).1 q = A.1 q := by simp [aset, h]
theorem aset_self (A : Ev_A) (c j : Nat) (x : Int32) : (aset A c j x).1 c j = x := by simp [aset, upd]
theorem aset_off (A : Ev_A) (c j q i : Nat) (x : Int32) (h : q ≠ c ∨ i ≠ j) : (aset A c j x).1 q i = A.1 q i := by
  by_cases z : q = c
  · subst z
    have : i ≠ j := by rcases h with h | h; exact absurd rfl h; exact h
    simp [aset, upd, this]
  · simp [aset, z]
theorem is_M.put {w : Ev_W} {I : Nat → Int32} {v : Int64} {A : Ev_A} (h : is_M w I v A) (I' : Nat → Int32) (v' : Int64) : is_M (ev_set w 117 (.inr (8, mo_L I' v'))) I' v' A := ⟨ev_set_self _ _ _, fun c k n hc => by rw [ev_set_ne _ _ (by have := mo_ty_c hc; omega)]; exact h.2.1 c k n hc, by rw [ev_set_ne _ _ (by decide)]; exact h.2.2⟩
theorem is_M.st {w : Ev_W} {I : Nat → Int32} {v : Int64} {A : Ev_A} (h : is_M w I v A) {c k n : Nat} (hc : mo_ty c = some (k, n)) (j : Nat) (x : Int32) : is_M (ev_set w c (.inl (k, n, .inl (upd (A.1 c) j x)))) I v (aset A c j x) := by
  have h1 := mo_ty_c hc
  refine ⟨by rw [ev_set_ne _ _ (by omega)]; exact h.1, fun q k' n' hq => ?_, by rw [ev_set_ne _ _ (by omega)]; exact h.2.2⟩
  by_cases z : q = c
  · subst z
    rw [hc] at hq
    cases hq
    rw [ev_set_self, aset_at]
  · rw [ev_set_ne _ _ z, aset_ne _ _ _ z]; exact h.2.1 q k' n' hq
theorem is_M.sv {w : Ev_W} {I : Nat → Int32} {v : Int64} {A : Ev_A} (h : is_M w I v A) (j : Nat) (x : Int64) : is_M (ev_set w 120 (.inl (1, 61, .inr (.inl (vp_updL A.2 j x))))) I v (vset A j x) := ⟨by rw [ev_set_ne _ _ (by decide)]; exact h.1, fun c k n hc => by rw [ev_set_ne _ _ (by have := mo_ty_c hc; omega)]; exact h.2.1 c k n hc, ev_set_self _ _ _⟩
section EvM
variable {G : Ev_G} {M : Ev_M} {d : Nat} {X : Ev_X} {bc bs pc : Nat} {ls : Ev_L} {st : List Value} {w w0 : Ev_W} {I : Nat → Int32} {v : Int64} {A : Ev_A}
theorem r_getm (hX : ev_C G M d X) {index k J : Nat} {x : Int32} (hd : decode M.2.2.1 pc = .ok (.getfield index, 3)) (hF : ev_F M.1 index 8 k) (hM : is_M w I v A) (hJ : I J = x) (hk : (mo_L I v)[k]? = some (.int (I J))) (kk : ev_W G M X bc bs (pc + 3) ls (.int x :: st) w) : ev_W G M X bc bs pc ls (.ref 117 :: st) w := r_getf hX hd hF hM.1 (by rw [hk, hJ]) kk
theorem r_putm (hX : ev_C G M d X) {index k J : Nat} {ty : FieldType} {x : Int32} (hd : decode M.2.2.1 pc = .ok (.putfield index, 3)) (hF : ev_FP M.1 index 8 k ty false) (hM : is_M w I v A) (hs : mo_sm w0 w) (hn : narrow ty (.int x) = .int x) (hv : fits ty (.int x) = true) (hk : k < (mo_L I v).length) (he : (mo_L I v).set k (.int x) = mo_L (upd I J x) v) (kk : ∀ w2, is_M w2 (upd I J x) v A → mo_sm w0 w2 → ev_W G M X bc bs (pc + 3) ls st w2) : ev_W G M X bc bs pc ls (.int x :: .ref 117 :: st) w := r_putf hX hd hF hM.1 (by decide) hn hv hk (by rw [he]; exact kk _ (hM.put _ _) (hs.st (by decide)))
theorem r_putv (hX : ev_C G M d X) {index k : Nat} {ty : FieldType} {x : Int64} (hd : decode M.2.2.1 pc = .ok (.putfield index, 3)) (hF : ev_FP M.1 index 8 k ty false) (hM : is_M w I v A) (hs : mo_sm w0 w) (hn : narrow ty (.long x) = .long x) (hv : fits ty (.long x) = true) (hk : k < (mo_L I v).length) (he : (mo_L I v).set k (.long x) = mo_L I x) (kk : ∀ w2, is_M w2 I x A → mo_sm w0 w2 → ev_W G M X bc bs (pc + 3) ls st w2) : ev_W G M X bc bs pc ls (.long x :: .ref 117 :: st) w := r_putf hX hd hF hM.1 (by decide) hn hv hk (by rw [he]; exact kk _ (hM.put _ _) (hs.st (by decide)))
theorem r_ialdm (hX : ev_C G M d X) {c n j : Nat} {i x : Int32} (hd : decode M.2.2.1 pc = .ok (.iaload, 1)) (hM : is_M w I v A) (hc : mo_ty c = some (0, n)) (hi : i = nI j) (hj : j < n) (hx : A.1 c j = x) (kk : ev_W G M X bc bs (pc + 1) ls (.int x :: st) w) : ev_W G M X bc bs pc ls (.int i :: .ref c :: st) w := by
  have h1 := mo_ty_c hc
  subst hi
  refine r_iald hX hd (hM.2.1 c 0 n hc) rfl (vp_in_nI hj (by omega)) ?_
  rw [nI_clamp (by omega), hx]
  exact kk
theorem r_zaldm (hX : ev_C G M d X) {c n j : Nat} {i x : Int32} (hd : decode M.2.2.1 pc = .ok (.baload, 1)) (hM : is_M w I v A) (hc : mo_ty c = some (2, n)) (hi : i = nI j) (hj : j < n) (hx : A.1 c j = x) (kk : ev_W G M X bc bs (pc + 1) ls (.int x :: st) w) : ev_W G M X bc bs pc ls (.int i :: .ref c :: st) w := by
  have h1 := mo_ty_c hc
  subst hi
  refine r_zald hX hd (hM.2.1 c 2 n hc) rfl (vp_in_nI hj (by omega)) ?_
  rw [nI_clamp (by omega), hx]
  exact kk
theorem r_laldm (hX : ev_C G M d X) {j : Nat} {i : Int32} {x : Int64} (hd : decode M.2.2.1 pc = .ok (.laload, 1)) (hM : is_M w I v A) (hi : i = nI j) (hj : j < 61) (hx : A.2 j = x) (kk : ev_W G M X bc bs (pc + 1) ls (.long x :: st) w) : ev_W G M X bc bs pc ls (.int i :: .ref 120 :: st) w := by
  subst hi
  refine r_lald hX hd hM.2.2 rfl (vp_in_nI hj (by decide)) ?_
  rw [nI_clamp (by omega), hx]
  exact kk
theorem r_iastm (hX : ev_C G M d X) {c n j : Nat} {i x : Int32} (hd : decode M.2.2.1 pc = .ok (.iastore, 1)) (hM : is_M w I v A) (hs : mo_sm w0 w) (hc : mo_ty c = some (0, n)) (hi : i = nI j) (hj : j < n) (kk : ∀ w2, is_M w2 I v (aset A c j x) → mo_sm w0 w2 → ev_W G M X bc bs (pc + 1) ls st w2) : ev_W G M X bc bs pc ls (.int x :: .int i :: .ref c :: st) w := by
  have h1 := mo_ty_c hc
  subst hi
  refine r_iast hX hd (hM.2.1 c 0 n hc) (by omega) rfl (vp_in_nI hj (by omega)) ?_
  rw [nI_clamp (by omega)]
  exact kk _ (hM.st hc j x) (hs.st (by omega))
theorem r_zastm (hX : ev_C G M d X) {c n j : Nat} {i x : Int32} (hd : decode M.2.2.1 pc = .ok (.bastore, 1)) (hM : is_M w I v A) (hs : mo_sm w0 w) (hc : mo_ty c = some (2, n)) (hi : i = nI j) (hj : j < n) (hx : x = 0 ∨ x = 1) (kk : ∀ w2, is_M w2 I v (aset A c j x) → mo_sm w0 w2 → ev_W G M X bc bs (pc + 1) ls st w2) : ev_W G M X bc bs pc ls (.int x :: .int i :: .ref c :: st) w := by
  have h1 := mo_ty_c hc
  subst hi
  refine r_zast hX hd (hM.2.1 c 2 n hc) (by omega) rfl (vp_in_nI hj (by omega)) ?_
  rw [nI_clamp (by omega), show x &&& 1 = x from by rcases hx with rfl | rfl <;> rfl]
  exact kk _ (hM.st hc j x) (hs.st (by omega))
theorem r_lastm (hX : ev_C G M d X) {j : Nat} {i : Int32} {x : Int64} (hd : decode M.2.2.1 pc = .ok (.lastore, 1)) (hM : is_M w I v A) (hs : mo_sm w0 w) (hi : i = nI j) (hj : j < 61) (kk : ∀ w2, is_M w2 I v (vset A j x) → mo_sm w0 w2 → ev_W G M X bc bs (pc + 1) ls st w2) : ev_W G M X bc bs pc ls (.long x :: .int i :: .ref 120 :: st) w := by
  subst hi
  refine r_last hX hd hM.2.2 (by decide) rfl (vp_in_nI hj (by decide)) ?_
  rw [nI_clamp (by omega)]
  exact kk _ (hM.sv j x) (hs.st (by decide))
end EvM
