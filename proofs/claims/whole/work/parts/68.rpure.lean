/-! ===== what was read, in both ===== -/
def rd_D (sd p e : Nat) (fm : Int32) (l : Ev_Lf) : Ev_D := (if fm = 2 ∨ fm = 3 then l.2.1.length else e - p, (match l.2.2.2 with | none => 0 | some q => e - q), (fun j => l.2.1.getD j 0), sd)
theorem rz_len {g : Nat → Nat} {la e : Nat} : ∀ (k i p prev sum : Nat) {q : List Nat × Nat}, rz g la e k i p prev sum = some q → q.1.length = k + 1
  | 0, i, p, prev, sum, q, h => by
    rw [rz] at h
    split at h
    · cases h; rfl
    · cases h
  | k + 1, i, p, prev, sum, q, h => by
    rw [rz] at h
    cases hr : rz1 g la e i p prev with
    | none => rw [hr] at h; cases h
    | some r =>
      rw [hr] at h
      dsimp only at h
      split at h
      · cases hm : rz g la e k (i + 1) r.2 r.1 (sum + r.1) with
        | none => rw [hm] at h; cases h
        | some q2 =>
          rw [hm] at h
          cases h
          show (r.1 :: q2.1).length = _
          rw [List.length_cons, rz_len k (i + 1) r.2 r.1 (sum + r.1) hm]
      · cases h
theorem bz_len {g : Nat → Nat} {la k p e : Nat} {q : List Nat × Nat} (h : bz g la k p e = some q) : q.1.length = k ∧ 1 ≤ k ∧ k ≤ 8 := by
  unfold bz at h
  split at h
  · cases h
  · rename_i hk
    split at h
    · split at h
      · cases h; exact ⟨List.length_replicate, by omega, by omega⟩
      · cases h
    · have := rz_len _ _ _ _ _ h; exact ⟨by omega, by omega, by omega⟩
theorem getD_sum : ∀ (l : List Nat) (i : Nat), l.getD i 0 ≤ l.sum
  | [], i => by simp
  | x :: t, 0 => by simp
  | x :: t, i + 1 => by
    have := getD_sum t i
    simp only [List.getD_cons_succ, List.sum_cons]
    omega
theorem bh_in {g : Nat → Nat} {p e : Nat} {R : Ev_B} (h : bh g p e = some R) (hg : ∀ i, i < e → g i < 256) : 1 ≤ R.1 ∧ R.1 ≤ 126 ∧ -32768 ≤ R.2.1.toInt ∧ R.2.1.toInt ≤ 32767 ∧ R.2.2.2.1 ≤ 3 ∧ p ≤ R.2.2.2.2.2 ∧ R.2.2.2.2.2 ≤ e := by
  unfold bh at h
  cases hv : vi g p e with
  | none => rw [hv] at h; cases h
  | some r =>
    rw [hv] at h
    dsimp only at h
    split at h
    · rename_i z
      cases h
      have hv1 := vi_of hv
      have hb1 := hg (p + r.2) (by omega)
      have hb2 := hg (p + r.2 + 1) (by omega)
      have ht : nb g (p + r.2) 2 < 65536 := by
        show (0 * 256 + g (p + r.2 + 0)) * 256 + g (p + r.2 + 1) < 65536
        rw [Nat.add_zero]; omega
      have h16 := t16 ht
      refine ⟨z.1, z.2.1, ?_, ?_, ?_, ?_, ?_⟩
      · show -32768 ≤ ((nI (nb g (p + r.2) 2)).toInt16.toInt32).toInt
        rw [h16]; split <;> omega
      · show ((nI (nb g (p + r.2) 2)).toInt16.toInt32).toInt ≤ 32767
        rw [h16]; split <;> omega
      · show g (p + r.2 + 2) / 2 % 4 ≤ 3; omega
      · show p ≤ (if g (p + r.2 + 2) / 2 % 4 = 0 then p + r.2 + 3 else if p + r.2 + 3 < e then p + r.2 + 4 else p + r.2 + 3); split <;> (try split) <;> omega
      · have := z.2.2.1
        show (if g (p + r.2 + 2) / 2 % 4 = 0 then p + r.2 + 3 else if p + r.2 + 3 < e then p + r.2 + 4 else p + r.2 + 3) ≤ e; split <;> (try split) <;> omega
    · cases h
/-- an element that was read has the data that are said for its kind, in the class -/
theorem lf_elD {g : Nat → Nat} {p e me sd : Nat} {E0 : Ev_E} {pf : Nat → Int32} {l : Ev_Lf} (hpe : p ≤ e) (he : e ≤ 640) (hg : ∀ i, i < e → g i < 256) (h1 : E0.1 = so_of (E0.2.2.2 0)) (h2 : 0 < (E0.2.2.2 0).toInt) (hl : lfd g p e me (so_fm E0.1) = some l) (ht : so_fm E0.1 = 2 → l.2.1.length ≤ 16) (hf0 : ¬ so_fm E0.1 = 0) : el_D (lf_E E0 sd e l) (pa_f l.2.1 pf) (rd_D sd p e (so_fm E0.1) l) (lf_sd sd e l) := by
  have h17 : E0.1 < 17 := by rw [h1]; exact so_of_lt _
  have e1 := lf_E_1 E0 sd e l
  have e0 := lf_E_f E0 sd e l 0 (by omega)
  unfold el_D
  rw [e1.1, e0]
  generalize hfm : so_fm E0.1 = fm at *
  refine ⟨h1, h2, ?_⟩
  rcases so_fm_c _ h17 with h | h | h | h | h | h | h <;> rw [hfm] at h <;> subst h
  · exact absurd rfl hf0
  · exact ⟨fun z => by simp at z, fun z => by simp at z, fun z => by simp at z, fun z => by simp at z, fun z => by simp at z, fun z => by simp at z⟩
  · rw [lfd, if_neg (by decide), if_pos rfl] at hl
    cases htx : tx g (e - p) p false 0 with
    | none => rw [htx] at hl; cases hl
    | some t =>
      rw [htx] at hl
      have hl : l = (lN t.length, t, none, none) := (Option.some.inj hl).symm
      subst hl
      have ht := ht rfl
      exact ⟨fun _ => ⟨rfl, by show t.length ≤ 640; have : t.length ≤ 16 := ht; omega⟩, fun _ => ht, fun z => by simp at z, fun z => by simp at z, fun z => by simp at z, fun z => by simp at z⟩
  · rw [lfd, if_neg (by decide), if_neg (by decide), if_pos rfl] at hl
    cases hb : bh g p e with
    | none => rw [hb] at hl; cases hl
    | some R =>
      rw [hb] at hl
      dsimp only at hl
      have hbi := bh_in hb hg
      cases hz : bz g R.2.2.2.1 R.2.2.2.2.1 R.2.2.2.2.2 e with
      | none => rw [hz] at hl; cases hl
      | some q =>
        rw [hz] at hl
        have hl : l = (lN q.1.length, q.1, some (R.1, R.2.1, R.2.2.1, R.2.2.2.1), some q.2) := (Option.some.inj hl).symm
        subst hl
        have hlen := bz_len hz
        have hsum := bz_sum hbi.2.2.2.2.2.2 hz
        refine ⟨fun _ => ⟨rfl, by show q.1.length ≤ 640; omega⟩, fun z => by simp at z, fun _ => ⟨by show 1 ≤ q.1.length; omega, by show q.1.length ≤ 8; omega, fun i hi => ?_, ?_, ?_, ?_, hbi.2.2.1, hbi.2.2.2.1, ?_, ?_, ?_⟩, fun z => by simp at z, fun _ => ⟨rfl, rfl, by show sd + (e - q.2) ≤ sd + (e - q.2); omega⟩, fun z => by simp at z⟩
        · have hi : i < q.1.length := hi
          have := getD_sum q.1 i
          exact ⟨by show pa_f q.1 pf i = nI (q.1.getD i 0); rw [pa_f, if_pos hi], by show q.1.getD i 0 ≤ 640; omega⟩
        · show e - q.2 = sm_N (fun j => q.1.getD j 0) q.1.length
          rw [← sum_sm, hsum.1]
        · show 1 ≤ (nI R.1).toInt; rw [nI_toInt (by omega)]; omega
        · show (nI R.1).toInt ≤ 126; rw [nI_toInt (by omega)]; omega
        · show b_i R.2.2.1 = 0 ∨ b_i R.2.2.1 = 1; cases R.2.2.1; exact Or.inl rfl; exact Or.inr rfl
        · show 0 ≤ (nI R.2.2.2.1).toInt; rw [nI_toInt (by omega)]; omega
        · show (nI R.2.2.2.1).toInt ≤ 3; rw [nI_toInt (by omega)]; omega
  · rw [lfd, if_neg (by decide), if_neg (by decide), if_neg (by decide), if_pos rfl] at hl
    split at hl
    · cases hl
      exact ⟨fun z => by simp at z, fun z => by simp at z, fun z => by simp at z, fun z => by simp at z, fun z => by simp at z, fun _ => rfl⟩
    · cases hl
  · rw [lfd, if_neg (by decide), if_neg (by decide), if_neg (by decide), if_neg (by decide), if_neg (by decide)] at hl
    cases hl
    exact ⟨fun _ => ⟨rfl, by show e - p ≤ 640; omega⟩, fun z => by simp at z, fun z => by simp at z, fun z => by simp at z, fun z => by simp at z, fun z => by simp at z⟩
  · rw [lfd, if_neg (by decide), if_neg (by decide), if_neg (by decide), if_neg (by decide), if_pos rfl] at hl
    cases hl
    exact ⟨fun _ => ⟨rfl, by show e - p ≤ 640; omega⟩, fun z => by simp at z, fun z => by simp at z, fun _ => rfl, fun _ => ⟨rfl, rfl, by show sd + (e - p) ≤ sd + (e - p); omega⟩, fun z => by simp at z⟩
/-- and the reference's row for it -/
theorem rr_mq {A' : Ev_A} {g : Nat → Nat} {n p e me sd : Nat} {E0 : Ev_E} {pf : Nat → Int32} {l : Ev_Lf} (h17 : E0.1 < 17) (ht : A'.1 118 n = E0.2.2.2 0) (hl : lfd g p e me (so_fm E0.1) = some l) (h : rr A' n (so_fm E0.1) p e sd l) (hf0 : ¬ so_fm E0.1 = 0) : mq A' n (lf_E E0 sd e l) (pa_f l.2.1 pf) (rd_D sd p e (so_fm E0.1) l) := by
  have e1 := lf_E_1 E0 sd e l
  have e0 := lf_E_f E0 sd e l 0 (by omega)
  obtain ⟨r1, r2, r3, r4, r5⟩ := h
  unfold mq
  rw [e1.1, e0]
  generalize hfm : so_fm E0.1 = fm at *
  refine ⟨ht, fun z => ?_, fun z => ?_, fun z i hi => ?_, fun z => ?_, fun z => ?_⟩
  · subst z
    rw [lfd, if_pos rfl] at hl
    split at hl
    · cases hl; exact r1 rfl
    · cases hl
  · rcases z with rfl | rfl | rfl | rfl
    · exact (r2 rfl).2.1
    · exact (r3 rfl).1
    · exact r4 (Or.inl rfl)
    · exact r4 (Or.inr rfl)
  · subst z
    have hi : i < l.2.1.length := hi
    rw [(r2 rfl).2.2 i hi, pa_f, if_pos hi]
  · subst z
    obtain ⟨g1, ⟨d, q, hd, hq, g2, g3, g4, g5⟩, g6⟩ := r3 rfl
    have hE : lf_E E0 sd e l = el_s (el_am (el_d E0 (nI d.1) d.2.1 (b_i d.2.2.1) (nI d.2.2.2)) l.1) (nI sd) (nI (e - q)) := by
      unfold lf_E; rw [hq]; dsimp only; unfold lf_d; rw [hd]
    rw [hE]
    exact ⟨g2, g3, g4, g5, fun i hi => g6 i hi⟩
  · subst z; exact r5 rfl
