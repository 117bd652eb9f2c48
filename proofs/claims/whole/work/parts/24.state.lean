/-! ===== the tree's state as one value ===== -/
/-- how many, how many made, the next cell; line, addresses, contents, parts, masters by places -/
abbrev Ev_S : Type := Nat × Nat × Nat × (Nat → Option Nat) × (Nat → Nat) × (Nat → Ev_E) × (Nat → Nat → Int32) × (Nat → Option Nat)
abbrev sn (S : Ev_S) : Nat := S.1
abbrev sm (S : Ev_S) : Nat := S.2.1
abbrev sx (S : Ev_S) : Nat := S.2.2.1
abbrev sL (S : Ev_S) : Nat → Option Nat := S.2.2.2.1
abbrev sa (S : Ev_S) : Nat → Nat := S.2.2.2.2.1
abbrev sE (S : Ev_S) : Nat → Ev_E := S.2.2.2.2.2.1
abbrev sP (S : Ev_S) : Nat → Nat → Int32 := S.2.2.2.2.2.2.1
abbrev si (S : Ev_S) : Nat → Option Nat := S.2.2.2.2.2.2.2
def is_S (w : Ev_W) (S : Ev_S) (As : Nat → Option Nat) (sf : Nat → Int32) (sd : Nat) : Prop :=
  is_Tr w (sn S) (sL S) As sf sd ∧ is_Es w (sm S) (sL S) (sa S) (sE S) (sP S) ∧ el_ok (sn S) (sa S) (sE S) (si S) ∧ sn S ≤ sm S ∧ sm S ≤ 60 ∧ (∀ i, sm S ≤ i → i < 60 → sL S i = none) ∧ w.1 = sx S ∧ 139 ≤ sx S
def mi_ins (p n : Nat) (mo : Option Nat) (mi : Nat → Option Nat) : Nat → Option Nat := fun i => if i < p then mi i else if i = p then mo else if i ≤ n then (mi (i - 1)).map (fun j => if j < p then j else j + 1) else mi i
/-- the contents of a new element -/
def ad_E (S : Ev_S) (mo : Option Nat) (s : Nat) (tg : Int32) (x : Int64) : Ev_E := el_am (el_b (el_n (tr_e (sm S) (sn S) (sE S) tr_e0) (nI (mk_p (sE S) (sn S) mo))) s tg (mo.map (sa S)) (mk_lv (sE S) mo)) x
def ad_e (S : Ev_S) : Nat := tr_e (sm S) (sn S) (sa S) (sx S)
/-- the tree with one element more, of these contents and parts, in the master at mo -/
def ad_S (S : Ev_S) (mo : Option Nat) (E1 : Ev_E) (pf : Nat → Int32) : Ev_S :=
  (sn S + 1, (if sn S < sm S then sm S else sn S + 1), (if sn S < sm S then sx S else sx S + 2), tr_ins (mk_p (sE S) (sn S) mo) (sn S) (some (ad_e S)) (sL S), tr_ins (mk_p (sE S) (sn S) mo) (sn S) (ad_e S) (sa S), tr_insE (mk_p (sE S) (sn S) mo) (sn S) E1 (sE S), tr_ins (mk_p (sE S) (sn S) mo) (sn S) pf (sP S), mi_ins (mk_p (sE S) (sn S) mo) (sn S) mo (si S))
theorem ins_lo {α : Type} {p n i : Nat} {x : α} {f : Nat → α} (h : i < p) : tr_ins p n x f i = f i := by simp only [tr_ins, if_pos h]
theorem ins_at {α : Type} {p n : Nat} {x : α} {f : Nat → α} : tr_ins p n x f p = x := by simp [tr_ins]
theorem ins_hi {α : Type} {p n i : Nat} {x : α} {f : Nat → α} (h : p < i) (h2 : i ≤ n) : tr_ins p n x f i = f (i - 1) := by simp only [tr_ins, if_neg (show ¬ i < p by omega), if_neg (show ¬ i = p by omega), if_pos h2]
theorem insE_lo {p n i : Nat} {x : Ev_E} {f : Nat → Ev_E} (h : i < p) : tr_insE p n x f i = f i := by simp only [tr_insE, if_pos h]
theorem insE_at {p n : Nat} {x : Ev_E} {f : Nat → Ev_E} : tr_insE p n x f p = x := by simp [tr_insE]
theorem insE_hi {p n i : Nat} {x : Ev_E} {f : Nat → Ev_E} (h : p < i) (h2 : i ≤ n) : tr_insE p n x f i = el_n (f (i - 1)) (nI i) := by simp only [tr_insE, if_neg (show ¬ i < p by omega), if_neg (show ¬ i = p by omega), if_pos h2]
theorem miI_lo {p n i : Nat} {mo : Option Nat} {f : Nat → Option Nat} (h : i < p) : mi_ins p n mo f i = f i := by simp only [mi_ins, if_pos h]
theorem miI_at {p n : Nat} {mo : Option Nat} {f : Nat → Option Nat} : mi_ins p n mo f p = mo := by simp [mi_ins]
theorem miI_hi {p n i : Nat} {mo : Option Nat} {f : Nat → Option Nat} (h : p < i) (h2 : i ≤ n) : mi_ins p n mo f i = (f (i - 1)).map (fun j => if j < p then j else j + 1) := by simp only [mi_ins, if_neg (show ¬ i < p by omega), if_neg (show ¬ i = p by omega), if_pos h2]
theorem mk_pk {E : Nat → Ev_E} {n : Nat} {mo : Option Nat} {j : Nat} (hj : mo = some j) : j < mk_p E n mo := by subst hj; exact tr_go_ge _ _ _ _ _
/-- an insertion keeps numbers, sorts and masters -/
theorem ok_ins {n p : Nat} {ad : Nat → Nat} {E : Nat → Ev_E} {mi : Nat → Option Nat} {e : Nat} {E1 : Ev_E} {mo : Option Nat} (h : el_ok n ad E mi) (hp : p ≤ n) (h1 : E1.2.2.2 2 = nI p) (h2 : E1.1 < 17) (h3 : E1.2.1 = mo.map ad) (h4 : ∀ j, mo = some j → j < p) : el_ok (n + 1) (tr_ins p n e ad) (tr_insE p n E1 E) (mi_ins p n mo mi) := by
  have key : ∀ j, j < n → tr_ins p n e ad (if j < p then j else j + 1) = ad j := fun j hj => by
    by_cases z : j < p
    · rw [if_pos z, ins_lo z]
    · rw [if_neg z, ins_hi (by omega) (by omega)]; rfl
  intro i hi
  by_cases z1 : i < p
  · obtain ⟨a1, a2, a3, a4⟩ := h i (by omega)
    rw [insE_lo z1, miI_lo z1]
    refine ⟨a1, a2, ?_, a4⟩
    rw [a3]
    cases hm : mi i with
    | none => rfl
    | some j => have := a4 j hm; show some (ad j) = some _; rw [ins_lo (by omega)]
  · by_cases z2 : i = p
    · subst z2
      rw [insE_at, miI_at]
      refine ⟨h1, h2, ?_, h4⟩
      rw [h3]
      cases mo with
      | none => rfl
      | some j => have := h4 j rfl; show some (ad j) = some _; rw [ins_lo (by omega)]
    · obtain ⟨a1, a2, a3, a4⟩ := h (i - 1) (by omega)
      rw [insE_hi (by omega) (by omega), miI_hi (by omega) (by omega)]
      refine ⟨by simp [el_n, upd], a2, ?_, ?_⟩
      · show (E (i - 1)).2.1 = _
        rw [a3]
        cases hm : mi (i - 1) with
        | none => rfl
        | some j => have := a4 j hm; show some (ad j) = some _; rw [key j (by omega)]
      · intro j hj
        cases hm : mi (i - 1) with
        | none => rw [hm] at hj; cases hj
        | some q =>
          rw [hm] at hj
          have := a4 q hm
          have hj : (if q < p then q else q + 1) = j := Option.some.inj hj
          split at hj <;> omega
theorem is_S.add {w w1 w' : Ev_W} {S : Ev_S} {As : Nat → Option Nat} {sf sf' : Nat → Int32} {sd sd' : Nat} {mo : Option Nat} {s : Nat} {tg : Int32} {E1 : Ev_E} {pf : Nat → Int32} {l : List Nat} (h : is_S w S As sf sd) (hmo : ∀ j, mo = some j → j < sn S) (hs : s < 17)
    (hadd : tr_added w w1 (sn S) (sm S) (mk_p (sE S) (sn S) mo) (sL S) As sf sd (sa S) (sE S) (sP S) s tg (mo.map (sa S)) (mk_lv (sE S) mo)) (hn : sn S < 60)
    (hT : is_Tr w' (sn S + 1) (tr_ins (mk_p (sE S) (sn S) mo) (sn S) (some (ad_e S)) (sL S)) As sf' sd') (hsm : ev_sm w1 w' (l ++ [ad_e S, ad_e S + 1])) (hl : ∀ q, q ∈ l → q < 139) (he : w'.2 (ad_e S) = some (el_C (ad_e S) E1)) (hpf : w'.2 (ad_e S + 1) = some (.inl (0, 16, .inl pf))) (h1 : E1.2.2.2 2 = nI (mk_p (sE S) (sn S) mo)) (h2 : E1.1 < 17) (h3 : E1.2.1 = mo.map (sa S)) :
    is_S w' (ad_S S mo E1 pf) As sf' sd' := by
  obtain ⟨a1, a2, a3, a4, a5, a6, a7, a8⟩ := h
  have hpn : mk_p (sE S) (sn S) mo ≤ sn S := mk_pn hmo
  have hpk : ∀ j, mo = some j → j < mk_p (sE S) (sn S) mo := fun j hj => mk_pk hj
  have hee : tr_e (sm S) (sn S) (sa S) w.1 = ad_e S := by rw [a7]; rfl
  obtain ⟨b1, b2, b3, b4⟩ := hadd
  rw [hee] at b1 b2
  unfold is_S ad_S
  generalize mk_p (sE S) (sn S) mo = p at *
  show is_Tr w' (sn S + 1) (tr_ins p (sn S) (some (ad_e S)) (sL S)) As sf' sd' ∧ is_Es w' (if sn S < sm S then sm S else sn S + 1) (tr_ins p (sn S) (some (ad_e S)) (sL S)) (tr_ins p (sn S) (ad_e S) (sa S)) (tr_insE p (sn S) E1 (sE S)) (tr_ins p (sn S) pf (sP S)) ∧ el_ok (sn S + 1) (tr_ins p (sn S) (ad_e S) (sa S)) (tr_insE p (sn S) E1 (sE S)) (mi_ins p (sn S) mo (si S)) ∧ sn S + 1 ≤ (if sn S < sm S then sm S else sn S + 1) ∧ (if sn S < sm S then sm S else sn S + 1) ≤ 60 ∧ (∀ i, (if sn S < sm S then sm S else sn S + 1) ≤ i → i < 60 → tr_ins p (sn S) (some (ad_e S)) (sL S) i = none) ∧ w'.1 = (if sn S < sm S then sx S else sx S + 2) ∧ 139 ≤ (if sn S < sm S then sx S else sx S + 2)
  have hm1 : sn S + 1 ≤ (if sn S < sm S then sm S else sn S + 1) := by split <;> omega
  have hep := b2.1 p (by omega)
  rw [ins_at, ins_at] at hep
  refine ⟨hT, ⟨fun i hi => ?_, b2.2⟩, ok_ins a3 hpn h1 h2 h3 hpk, hm1, by split <;> omega, fun i hi hi2 => ?_, ?_, ?_⟩
  · obtain ⟨c1, c2, c3, c4⟩ := b2.1 i hi
    by_cases z : i = p
    · subst z
      rw [insE_at, ins_at, ins_at, ins_at]
      exact ⟨rfl, hep.2.1, he, hpf⟩
    · have hne : tr_ins p (sn S) (ad_e S) (sa S) i ≠ ad_e S := fun q => z (b2.2 i p hi (by omega) (by rw [ins_at]; exact q))
      have hne2 : tr_ins p (sn S) (ad_e S) (sa S) i ≠ ad_e S + 1 := fun q => by
        rw [q, hep.2.2.2] at c3; cases c3
      have hne3 : tr_ins p (sn S) (ad_e S) (sa S) i + 1 ≠ ad_e S := fun q => by
        rw [q, hep.2.2.1] at c4; cases c4
      have hE : ∀ x, tr_insE p (sn S) x (sE S) i = tr_insE p (sn S) E1 (sE S) i := fun x => by simp only [tr_insE, if_neg z]
      have hF : ∀ x : Nat → Int32, tr_ins p (sn S) x (sP S) i = tr_ins p (sn S) pf (sP S) i := fun x => by simp only [tr_ins, if_neg z]
      refine ⟨c1, c2, ?_, ?_⟩
      · rw [hsm.2 _ (by simp; exact ⟨fun q => by have := hl _ q; omega, hne, hne2⟩), c3, hE]
      · rw [hsm.2 _ (by simp; exact ⟨fun q => by have := hl _ q; omega, hne3, fun q => hne (by omega)⟩), c4, hF]
  · have h9 : sn S < i ∧ sm S ≤ i := by split at hi <;> omega
    simp only [tr_ins, if_neg (show ¬ i < p by omega), if_neg (show ¬ i = p by omega), if_neg (show ¬ i ≤ sn S by omega)]
    exact a6 i h9.2 hi2
  · rw [hsm.1, b4, a7]
  · split <;> omega
