/-! ===== the reference: kinds and places of elements ===== -/
theorem so_go_c (tg : Int32) : ∀ k i : Nat, i + k = 17 → (∃ s, i ≤ s ∧ s < 17 ∧ tg = so_tg s ∧ so_go tg k i = s) ∨ (so_go tg k i = 16 ∧ ∀ s, i ≤ s → s < 17 → tg ≠ so_tg s)
  | 0, i, h => Or.inr ⟨rfl, fun s h1 h2 => by omega⟩
  | k + 1, i, h => by
    unfold so_go
    by_cases z : ((ev_fl[0]).2.2.2).getD i 0 = tg
    · rw [if_pos z]; exact Or.inl ⟨i, Nat.le_refl _, by omega, z.symm, rfl⟩
    · rw [if_neg z]
      rcases so_go_c tg k (i + 1) (by omega) with ⟨s, h1, h2, h3, h4⟩ | ⟨h1, h2⟩
      · exact Or.inl ⟨s, by omega, h2, h3, h4⟩
      · refine Or.inr ⟨h1, fun s h3 h4 h5 => ?_⟩
        by_cases q : s = i
        · subst q; exact z h5.symm
        · exact h2 s (by omega) h4 h5
theorem so_of_tg (tg : Int32) : (∃ s, s < 16 ∧ tg = so_tg s ∧ so_of tg = s) ∨ (so_of tg = 16 ∧ ∀ s, s < 16 → tg ≠ so_tg s) := by
  rcases so_go_c tg 17 0 rfl with ⟨s, h1, h2, h3, h4⟩ | ⟨h1, h2⟩
  · by_cases q : s = 16
    · subst q; subst h3
      exact Or.inr ⟨h4, by decide⟩
    · exact Or.inl ⟨s, by omega, h3, h4⟩
  · exact Or.inr ⟨h1, fun s hs => h2 s (by omega) (by omega)⟩
theorem lk_def {l : List (Int × Int)} {d : Int} {x : Int32} (hl : (l.all fun q => (List.range 16).any fun s => q.1 == (so_tg s).toInt) = true) (hne : ∀ s, s < 16 → x ≠ so_tg s) : Op.lookupswitch.offset l d x.toInt = d := by
  induction l with
  | nil => rfl
  | cons a t ih =>
    obtain ⟨b, o⟩ := a
    rw [List.all_cons, Bool.and_eq_true] at hl
    obtain ⟨s, hs, e⟩ := List.any_eq_true.mp hl.1
    have hs := List.mem_range.mp hs
    have e : b = (so_tg s).toInt := by simpa using e
    rw [Op.lookupswitch.offset_cons, if_neg (fun z => hne s hs (Int32.toInt_inj.mp (by rw [← e, z]))), ih hl.2]
theorem lt16 {s : Nat} (h : s < 16) : s = 0 ∨ s = 1 ∨ s = 2 ∨ s = 3 ∨ s = 4 ∨ s = 5 ∨ s = 6 ∨ s = 7 ∨ s = 8 ∨ s = 9 ∨ s = 10 ∨ s = 11 ∨ s = 12 ∨ s = 13 ∨ s = 14 ∨ s = 15 := by omega
theorem c_Mo_kindOf {G : Ev_G} {w : Ev_W} (id : Int32) : ev_Met G M_Mo_kindOf 0 0 0 [.int id] w (fun v w' => v = some (.int (so_fm (so_of id))) ∧ w' = w) := by
  refine ev_Met.of md_Mo_kindOf (Nat.le_of_ble_eq_true rfl) (fun X hX hR => ?_)
  rcases so_of_tg id with ⟨s, hs, rfl, hso⟩ | ⟨hso, hne⟩
  · rcases lt16 hs with rfl | rfl | rfl | rfl | rfl | rfl | rfl | rfl | rfl | rfl | rfl | rfl | rfl | rfl | rfl | rfl
    · refine q_iload hX 0 d_Mo_kindOf_0 rfl (by first | rfl | assumption) ?_
      refine r_lookup (off := 139) hX 140 d_Mo_kindOf_1 (by decide) (by decide) (by decide) ?_
      refine r_iconst (v := 0) hX d_Mo_kindOf_140 (by decide) ?_
      refine r_iret hX hR d_Mo_kindOf_141 rfl (by first | rfl | assumption) ?_
      exact ⟨by rw [hso]; rfl, rfl⟩
    · refine q_iload hX 0 d_Mo_kindOf_0 rfl (by first | rfl | assumption) ?_
      refine r_lookup (off := 139) hX 140 d_Mo_kindOf_1 (by decide) (by decide) (by decide) ?_
      refine r_iconst (v := 0) hX d_Mo_kindOf_140 (by decide) ?_
      refine r_iret hX hR d_Mo_kindOf_141 rfl (by first | rfl | assumption) ?_
      exact ⟨by rw [hso]; rfl, rfl⟩
    · refine q_iload hX 0 d_Mo_kindOf_0 rfl (by first | rfl | assumption) ?_
      refine r_lookup (off := 141) hX 142 d_Mo_kindOf_1 (by decide) (by decide) (by decide) ?_
      refine r_iconst (v := 1) hX d_Mo_kindOf_142 (by decide) ?_
      refine r_iret hX hR d_Mo_kindOf_143 rfl (by first | rfl | assumption) ?_
      exact ⟨by rw [hso]; rfl, rfl⟩
    · refine q_iload hX 0 d_Mo_kindOf_0 rfl (by first | rfl | assumption) ?_
      refine r_lookup (off := 143) hX 144 d_Mo_kindOf_1 (by decide) (by decide) (by decide) ?_
      refine r_iconst (v := 2) hX d_Mo_kindOf_144 (by decide) ?_
      refine r_iret hX hR d_Mo_kindOf_145 rfl (by first | rfl | assumption) ?_
      exact ⟨by rw [hso]; rfl, rfl⟩
    · refine q_iload hX 0 d_Mo_kindOf_0 rfl (by first | rfl | assumption) ?_
      refine r_lookup (off := 139) hX 140 d_Mo_kindOf_1 (by decide) (by decide) (by decide) ?_
      refine r_iconst (v := 0) hX d_Mo_kindOf_140 (by decide) ?_
      refine r_iret hX hR d_Mo_kindOf_141 rfl (by first | rfl | assumption) ?_
      exact ⟨by rw [hso]; rfl, rfl⟩
    · refine q_iload hX 0 d_Mo_kindOf_0 rfl (by first | rfl | assumption) ?_
      refine r_lookup (off := 141) hX 142 d_Mo_kindOf_1 (by decide) (by decide) (by decide) ?_
      refine r_iconst (v := 1) hX d_Mo_kindOf_142 (by decide) ?_
      refine r_iret hX hR d_Mo_kindOf_143 rfl (by first | rfl | assumption) ?_
      exact ⟨by rw [hso]; rfl, rfl⟩
    · refine q_iload hX 0 d_Mo_kindOf_0 rfl (by first | rfl | assumption) ?_
      refine r_lookup (off := 143) hX 144 d_Mo_kindOf_1 (by decide) (by decide) (by decide) ?_
      refine r_iconst (v := 2) hX d_Mo_kindOf_144 (by decide) ?_
      refine r_iret hX hR d_Mo_kindOf_145 rfl (by first | rfl | assumption) ?_
      exact ⟨by rw [hso]; rfl, rfl⟩
    · refine q_iload hX 0 d_Mo_kindOf_0 rfl (by first | rfl | assumption) ?_
      refine r_lookup (off := 139) hX 140 d_Mo_kindOf_1 (by decide) (by decide) (by decide) ?_
      refine r_iconst (v := 0) hX d_Mo_kindOf_140 (by decide) ?_
      refine r_iret hX hR d_Mo_kindOf_141 rfl (by first | rfl | assumption) ?_
      exact ⟨by rw [hso]; rfl, rfl⟩
    · refine q_iload hX 0 d_Mo_kindOf_0 rfl (by first | rfl | assumption) ?_
      refine r_lookup (off := 141) hX 142 d_Mo_kindOf_1 (by decide) (by decide) (by decide) ?_
      refine r_iconst (v := 1) hX d_Mo_kindOf_142 (by decide) ?_
      refine r_iret hX hR d_Mo_kindOf_143 rfl (by first | rfl | assumption) ?_
      exact ⟨by rw [hso]; rfl, rfl⟩
    · refine q_iload hX 0 d_Mo_kindOf_0 rfl (by first | rfl | assumption) ?_
      refine r_lookup (off := 145) hX 146 d_Mo_kindOf_1 (by decide) (by decide) (by decide) ?_
      refine r_iconst (v := 3) hX d_Mo_kindOf_146 (by decide) ?_
      refine r_iret hX hR d_Mo_kindOf_147 rfl (by first | rfl | assumption) ?_
      exact ⟨by rw [hso]; rfl, rfl⟩
    · refine q_iload hX 0 d_Mo_kindOf_0 rfl (by first | rfl | assumption) ?_
      refine r_lookup (off := 139) hX 140 d_Mo_kindOf_1 (by decide) (by decide) (by decide) ?_
      refine r_iconst (v := 0) hX d_Mo_kindOf_140 (by decide) ?_
      refine r_iret hX hR d_Mo_kindOf_141 rfl (by first | rfl | assumption) ?_
      exact ⟨by rw [hso]; rfl, rfl⟩
    · refine q_iload hX 0 d_Mo_kindOf_0 rfl (by first | rfl | assumption) ?_
      refine r_lookup (off := 141) hX 142 d_Mo_kindOf_1 (by decide) (by decide) (by decide) ?_
      refine r_iconst (v := 1) hX d_Mo_kindOf_142 (by decide) ?_
      refine r_iret hX hR d_Mo_kindOf_143 rfl (by first | rfl | assumption) ?_
      exact ⟨by rw [hso]; rfl, rfl⟩
    · refine q_iload hX 0 d_Mo_kindOf_0 rfl (by first | rfl | assumption) ?_
      refine r_lookup (off := 141) hX 142 d_Mo_kindOf_1 (by decide) (by decide) (by decide) ?_
      refine r_iconst (v := 1) hX d_Mo_kindOf_142 (by decide) ?_
      refine r_iret hX hR d_Mo_kindOf_143 rfl (by first | rfl | assumption) ?_
      exact ⟨by rw [hso]; rfl, rfl⟩
    · refine q_iload hX 0 d_Mo_kindOf_0 rfl (by first | rfl | assumption) ?_
      refine r_lookup (off := 141) hX 142 d_Mo_kindOf_1 (by decide) (by decide) (by decide) ?_
      refine r_iconst (v := 1) hX d_Mo_kindOf_142 (by decide) ?_
      refine r_iret hX hR d_Mo_kindOf_143 rfl (by first | rfl | assumption) ?_
      exact ⟨by rw [hso]; rfl, rfl⟩
    · refine q_iload hX 0 d_Mo_kindOf_0 rfl (by first | rfl | assumption) ?_
      refine r_lookup (off := 147) hX 148 d_Mo_kindOf_1 (by decide) (by decide) (by decide) ?_
      refine r_iconst (v := 4) hX d_Mo_kindOf_148 (by decide) ?_
      refine r_iret hX hR d_Mo_kindOf_149 rfl (by first | rfl | assumption) ?_
      exact ⟨by rw [hso]; rfl, rfl⟩
    · refine q_iload hX 0 d_Mo_kindOf_0 rfl (by first | rfl | assumption) ?_
      refine r_lookup (off := 149) hX 150 d_Mo_kindOf_1 (by decide) (by decide) (by decide) ?_
      refine r_iconst (v := 5) hX d_Mo_kindOf_150 (by decide) ?_
      refine r_iret hX hR d_Mo_kindOf_151 rfl (by first | rfl | assumption) ?_
      exact ⟨by rw [hso]; rfl, rfl⟩
  · refine q_iload hX 0 d_Mo_kindOf_0 rfl (by first | rfl | assumption) ?_
    refine r_lookup (off := 151) hX 152 d_Mo_kindOf_1 (by decide) (lk_def (by decide) hne) (by decide) ?_
    refine r_bipush (v := 6) hX d_Mo_kindOf_152 (by decide) ?_
    refine r_iret hX hR d_Mo_kindOf_154 rfl (by first | rfl | assumption) ?_
    exact ⟨by rw [hso]; rfl, rfl⟩
/-- may an element of the sort s stand in one whose ID is ms (0: at the top)? -/
def mo_st (s : Nat) (ms : Int32) : Bool := if ms = 0 then so_fits s 1 else so_fits s (so_in (so_of ms))
theorem mo_st_1 {s : Nat} (p : Nat → Bool) (h0 : so_fits s 1 = false) (h1 : ∀ u, u < 16 → so_fits s (so_in u) = p u) (h2 : so_fits s (so_in 16) = false) (ms : Int32) : (∃ u, u < 16 ∧ ms = so_tg u ∧ mo_st s ms = p u) ∨ ((∀ u, u < 16 → ms ≠ so_tg u) ∧ mo_st s ms = false) := by
  unfold mo_st
  rcases so_of_tg ms with ⟨u, hu, rfl, e⟩ | ⟨e, hne⟩
  · refine Or.inl ⟨u, hu, rfl, ?_⟩
    rw [if_neg (by have : ∀ u, u < 16 → so_tg u ≠ 0 := by decide
                   exact this u hu), e, h1 u hu]
  · refine Or.inr ⟨hne, ?_⟩
    by_cases z : ms = 0
    · rw [if_pos z, h0]
    · rw [if_neg z, e, h2]
theorem so_tg_inj : ∀ u, u < 16 → ∀ t, t < 16 → so_tg u = so_tg t → u = t := by decide +kernel
theorem mo_st_B {s t : Nat} (ht : t < 16) (h0 : so_fits s 1 = false) (h1 : ∀ u, u < 16 → so_fits s (so_in u) = decide (u = t)) (h2 : so_fits s (so_in 16) = false) (ms : Int32) : mo_st s ms = decide (ms = so_tg t) := by
  rcases mo_st_1 (fun u => decide (u = t)) h0 h1 h2 ms with ⟨u, hu, rfl, e⟩ | ⟨hne, e⟩
  · rw [e]
    by_cases z : u = t
    · subst z; simp
    · rw [decide_eq_false z, decide_eq_false (fun q => z (so_tg_inj u hu t ht q))]
  · rw [e, decide_eq_false (hne t ht)]
theorem mo_st_A {s : Nat} (hs : s = 0 ∨ s = 1) (ms : Int32) : mo_st s ms = decide (ms = 0) := by
  unfold mo_st
  by_cases z : ms = 0
  · rw [if_pos z, decide_eq_true z]; rcases hs with rfl | rfl <;> rfl
  · rw [if_neg z, decide_eq_false z]
    have h : ∀ u, u < 17 → so_fits 0 (so_in u) = false ∧ so_fits 1 (so_in u) = false := by decide
    rcases hs with rfl | rfl
    · exact (h _ (so_of_lt ms)).1
    · exact (h _ (so_of_lt ms)).2
theorem mo_st_C (ms : Int32) : mo_st 14 ms = decide (ms = so_tg 0 ∨ ms = so_tg 4 ∨ ms = so_tg 10) := by
  rcases mo_st_1 (s := 14) (fun u => decide (u = 0 ∨ u = 4 ∨ u = 10)) (by decide) (by decide) (by decide) ms with ⟨u, hu, rfl, e⟩ | ⟨hne, e⟩
  · rw [e]
    have h : ∀ u, u < 16 → decide (u = 0 ∨ u = 4 ∨ u = 10) = decide (so_tg u = so_tg 0 ∨ so_tg u = so_tg 4 ∨ so_tg u = so_tg 10) := by decide +kernel
    exact h u hu
  · rw [e, decide_eq_false (fun z => by rcases z with z | z | z; exact hne 0 (by decide) z; exact hne 4 (by decide) z; exact hne 10 (by decide) z)]
theorem mo_st_D {s : Nat} (hs : s = 15 ∨ s = 16) (ms : Int32) : mo_st s ms = decide (ms = 0 ∨ so_fm (so_of ms) = 0) := by
  unfold mo_st
  by_cases z : ms = 0
  · rw [if_pos z, decide_eq_true (Or.inl z)]; rcases hs with rfl | rfl <;> rfl
  · rw [if_neg z]
    have h : ∀ u, u < 17 → so_fits 15 (so_in u) = decide (so_fm u = 0) ∧ so_fits 16 (so_in u) = decide (so_fm u = 0) := by decide
    have h2 := h _ (so_of_lt ms)
    have h3 : decide (ms = 0 ∨ so_fm (so_of ms) = 0) = decide (so_fm (so_of ms) = 0) := by simp [z]
    rw [h3]
    rcases hs with rfl | rfl
    · exact h2.1
    · exact h2.2
theorem c_Mo_stands {G : Ev_G} {w : Ev_W} (id ms : Int32) : ev_Met G M_Mo_stands 1 0 0 [.int id, .int ms] w (fun v w' => v = some (.int (b_i (mo_st (so_of id) ms))) ∧ w' = w) := by
  refine ev_Met.of md_Mo_stands (Nat.le_of_ble_eq_true rfl) (fun X hX hR => ?_)
  rcases so_of_tg id with ⟨s, hs, rfl, hso⟩ | ⟨hso, hne⟩
  · rcases lt16 hs with rfl | rfl | rfl | rfl | rfl | rfl | rfl | rfl | rfl | rfl | rfl | rfl | rfl | rfl | rfl | rfl
    · refine q_iload hX 0 d_Mo_stands_0 rfl (by first | rfl | assumption) ?_
      refine r_lookup (off := 131) hX 132 d_Mo_stands_1 (by decide) (by decide) (by decide) ?_
      refine q_iload hX 1 d_Mo_stands_132 rfl (by first | rfl | assumption) ?_
      refine r_if_ne hX 140 d_Mo_stands_133 (by decide) (fun c133 => ?_) (fun c133 => ?_)
      · refine r_iconst (v := 0) hX d_Mo_stands_140 (by decide) ?_
        refine r_iret hX hR d_Mo_stands_141 rfl (by first | rfl | assumption) ?_
        exact ⟨by rw [hso, mo_st_A (by decide), decide_eq_false c133]; rfl, rfl⟩
      · refine r_iconst (v := 1) hX d_Mo_stands_136 (by decide) ?_
        refine r_goto hX 141 d_Mo_stands_137 (by decide) ?_
        refine r_iret hX hR d_Mo_stands_141 rfl (by first | rfl | assumption) ?_
        exact ⟨by rw [hso, mo_st_A (by decide), decide_eq_true c133]; rfl, rfl⟩
    · refine q_iload hX 0 d_Mo_stands_0 rfl (by first | rfl | assumption) ?_
      refine r_lookup (off := 131) hX 132 d_Mo_stands_1 (by decide) (by decide) (by decide) ?_
      refine q_iload hX 1 d_Mo_stands_132 rfl (by first | rfl | assumption) ?_
      refine r_if_ne hX 140 d_Mo_stands_133 (by decide) (fun c133 => ?_) (fun c133 => ?_)
      · refine r_iconst (v := 0) hX d_Mo_stands_140 (by decide) ?_
        refine r_iret hX hR d_Mo_stands_141 rfl (by first | rfl | assumption) ?_
        exact ⟨by rw [hso, mo_st_A (by decide), decide_eq_false c133]; rfl, rfl⟩
      · refine r_iconst (v := 1) hX d_Mo_stands_136 (by decide) ?_
        refine r_goto hX 141 d_Mo_stands_137 (by decide) ?_
        refine r_iret hX hR d_Mo_stands_141 rfl (by first | rfl | assumption) ?_
        exact ⟨by rw [hso, mo_st_A (by decide), decide_eq_true c133]; rfl, rfl⟩
    · refine q_iload hX 0 d_Mo_stands_0 rfl (by first | rfl | assumption) ?_
      refine r_lookup (off := 141) hX 142 d_Mo_stands_1 (by decide) (by decide) (by decide) ?_
      refine q_iload hX 1 d_Mo_stands_142 rfl (by first | rfl | assumption) ?_
      refine r_ldc hX d_Mo_stands_143 m_681 ?_
      refine r_icmp_ne hX 152 d_Mo_stands_145 (by decide) (fun c145 => ?_) (fun c145 => ?_)
      · refine r_iconst (v := 0) hX d_Mo_stands_152 (by decide) ?_
        refine r_iret hX hR d_Mo_stands_153 rfl (by first | rfl | assumption) ?_
        exact ⟨by rw [hso, mo_st_B (t := 0) (by decide) (by decide) (by decide) (by decide), decide_eq_false (show ¬ ms = so_tg 0 from c145)]; rfl, rfl⟩
      · refine r_iconst (v := 1) hX d_Mo_stands_148 (by decide) ?_
        refine r_goto hX 153 d_Mo_stands_149 (by decide) ?_
        refine r_iret hX hR d_Mo_stands_153 rfl (by first | rfl | assumption) ?_
        exact ⟨by rw [hso, mo_st_B (t := 0) (by decide) (by decide) (by decide) (by decide), decide_eq_true (show ms = so_tg 0 from c145)]; rfl, rfl⟩
    · refine q_iload hX 0 d_Mo_stands_0 rfl (by first | rfl | assumption) ?_
      refine r_lookup (off := 141) hX 142 d_Mo_stands_1 (by decide) (by decide) (by decide) ?_
      refine q_iload hX 1 d_Mo_stands_142 rfl (by first | rfl | assumption) ?_
      refine r_ldc hX d_Mo_stands_143 m_681 ?_
      refine r_icmp_ne hX 152 d_Mo_stands_145 (by decide) (fun c145 => ?_) (fun c145 => ?_)
      · refine r_iconst (v := 0) hX d_Mo_stands_152 (by decide) ?_
        refine r_iret hX hR d_Mo_stands_153 rfl (by first | rfl | assumption) ?_
        exact ⟨by rw [hso, mo_st_B (t := 0) (by decide) (by decide) (by decide) (by decide), decide_eq_false (show ¬ ms = so_tg 0 from c145)]; rfl, rfl⟩
      · refine r_iconst (v := 1) hX d_Mo_stands_148 (by decide) ?_
        refine r_goto hX 153 d_Mo_stands_149 (by decide) ?_
        refine r_iret hX hR d_Mo_stands_153 rfl (by first | rfl | assumption) ?_
        exact ⟨by rw [hso, mo_st_B (t := 0) (by decide) (by decide) (by decide) (by decide), decide_eq_true (show ms = so_tg 0 from c145)]; rfl, rfl⟩
    · refine q_iload hX 0 d_Mo_stands_0 rfl (by first | rfl | assumption) ?_
      refine r_lookup (off := 153) hX 154 d_Mo_stands_1 (by decide) (by decide) (by decide) ?_
      refine q_iload hX 1 d_Mo_stands_154 rfl (by first | rfl | assumption) ?_
      refine r_ldc hX d_Mo_stands_155 m_682 ?_
      refine r_icmp_ne hX 164 d_Mo_stands_157 (by decide) (fun c157 => ?_) (fun c157 => ?_)
      · refine r_iconst (v := 0) hX d_Mo_stands_164 (by decide) ?_
        refine r_iret hX hR d_Mo_stands_165 rfl (by first | rfl | assumption) ?_
        exact ⟨by rw [hso, mo_st_B (t := 1) (by decide) (by decide) (by decide) (by decide), decide_eq_false (show ¬ ms = so_tg 1 from c157)]; rfl, rfl⟩
      · refine r_iconst (v := 1) hX d_Mo_stands_160 (by decide) ?_
        refine r_goto hX 165 d_Mo_stands_161 (by decide) ?_
        refine r_iret hX hR d_Mo_stands_165 rfl (by first | rfl | assumption) ?_
        exact ⟨by rw [hso, mo_st_B (t := 1) (by decide) (by decide) (by decide) (by decide), decide_eq_true (show ms = so_tg 1 from c157)]; rfl, rfl⟩
    · refine q_iload hX 0 d_Mo_stands_0 rfl (by first | rfl | assumption) ?_
      refine r_lookup (off := 165) hX 166 d_Mo_stands_1 (by decide) (by decide) (by decide) ?_
      refine q_iload hX 1 d_Mo_stands_166 rfl (by first | rfl | assumption) ?_
      refine r_sipush (v := 174) hX d_Mo_stands_167 (by decide) ?_
      refine r_icmp_ne hX 177 d_Mo_stands_170 (by decide) (fun c170 => ?_) (fun c170 => ?_)
      · refine r_iconst (v := 0) hX d_Mo_stands_177 (by decide) ?_
        refine r_iret hX hR d_Mo_stands_178 rfl (by first | rfl | assumption) ?_
        exact ⟨by rw [hso, mo_st_B (t := 4) (by decide) (by decide) (by decide) (by decide), decide_eq_false (show ¬ ms = so_tg 4 from c170)]; rfl, rfl⟩
      · refine r_iconst (v := 1) hX d_Mo_stands_173 (by decide) ?_
        refine r_goto hX 178 d_Mo_stands_174 (by decide) ?_
        refine r_iret hX hR d_Mo_stands_178 rfl (by first | rfl | assumption) ?_
        exact ⟨by rw [hso, mo_st_B (t := 4) (by decide) (by decide) (by decide) (by decide), decide_eq_true (show ms = so_tg 4 from c170)]; rfl, rfl⟩
    · refine q_iload hX 0 d_Mo_stands_0 rfl (by first | rfl | assumption) ?_
      refine r_lookup (off := 165) hX 166 d_Mo_stands_1 (by decide) (by decide) (by decide) ?_
      refine q_iload hX 1 d_Mo_stands_166 rfl (by first | rfl | assumption) ?_
      refine r_sipush (v := 174) hX d_Mo_stands_167 (by decide) ?_
      refine r_icmp_ne hX 177 d_Mo_stands_170 (by decide) (fun c170 => ?_) (fun c170 => ?_)
      · refine r_iconst (v := 0) hX d_Mo_stands_177 (by decide) ?_
        refine r_iret hX hR d_Mo_stands_178 rfl (by first | rfl | assumption) ?_
        exact ⟨by rw [hso, mo_st_B (t := 4) (by decide) (by decide) (by decide) (by decide), decide_eq_false (show ¬ ms = so_tg 4 from c170)]; rfl, rfl⟩
      · refine r_iconst (v := 1) hX d_Mo_stands_173 (by decide) ?_
        refine r_goto hX 178 d_Mo_stands_174 (by decide) ?_
        refine r_iret hX hR d_Mo_stands_178 rfl (by first | rfl | assumption) ?_
        exact ⟨by rw [hso, mo_st_B (t := 4) (by decide) (by decide) (by decide) (by decide), decide_eq_true (show ms = so_tg 4 from c170)]; rfl, rfl⟩
    · refine q_iload hX 0 d_Mo_stands_0 rfl (by first | rfl | assumption) ?_
      refine r_lookup (off := 153) hX 154 d_Mo_stands_1 (by decide) (by decide) (by decide) ?_
      refine q_iload hX 1 d_Mo_stands_154 rfl (by first | rfl | assumption) ?_
      refine r_ldc hX d_Mo_stands_155 m_682 ?_
      refine r_icmp_ne hX 164 d_Mo_stands_157 (by decide) (fun c157 => ?_) (fun c157 => ?_)
      · refine r_iconst (v := 0) hX d_Mo_stands_164 (by decide) ?_
        refine r_iret hX hR d_Mo_stands_165 rfl (by first | rfl | assumption) ?_
        exact ⟨by rw [hso, mo_st_B (t := 1) (by decide) (by decide) (by decide) (by decide), decide_eq_false (show ¬ ms = so_tg 1 from c157)]; rfl, rfl⟩
      · refine r_iconst (v := 1) hX d_Mo_stands_160 (by decide) ?_
        refine r_goto hX 165 d_Mo_stands_161 (by decide) ?_
        refine r_iret hX hR d_Mo_stands_165 rfl (by first | rfl | assumption) ?_
        exact ⟨by rw [hso, mo_st_B (t := 1) (by decide) (by decide) (by decide) (by decide), decide_eq_true (show ms = so_tg 1 from c157)]; rfl, rfl⟩
    · refine q_iload hX 0 d_Mo_stands_0 rfl (by first | rfl | assumption) ?_
      refine r_lookup (off := 178) hX 179 d_Mo_stands_1 (by decide) (by decide) (by decide) ?_
      refine q_iload hX 1 d_Mo_stands_179 rfl (by first | rfl | assumption) ?_
      refine r_ldc hX d_Mo_stands_180 m_683 ?_
      refine r_icmp_ne hX 189 d_Mo_stands_182 (by decide) (fun c182 => ?_) (fun c182 => ?_)
      · refine r_iconst (v := 0) hX d_Mo_stands_189 (by decide) ?_
        refine r_iret hX hR d_Mo_stands_190 rfl (by first | rfl | assumption) ?_
        exact ⟨by rw [hso, mo_st_B (t := 7) (by decide) (by decide) (by decide) (by decide), decide_eq_false (show ¬ ms = so_tg 7 from c182)]; rfl, rfl⟩
      · refine r_iconst (v := 1) hX d_Mo_stands_185 (by decide) ?_
        refine r_goto hX 190 d_Mo_stands_186 (by decide) ?_
        refine r_iret hX hR d_Mo_stands_190 rfl (by first | rfl | assumption) ?_
        exact ⟨by rw [hso, mo_st_B (t := 7) (by decide) (by decide) (by decide) (by decide), decide_eq_true (show ms = so_tg 7 from c182)]; rfl, rfl⟩
    · refine q_iload hX 0 d_Mo_stands_0 rfl (by first | rfl | assumption) ?_
      refine r_lookup (off := 178) hX 179 d_Mo_stands_1 (by decide) (by decide) (by decide) ?_
      refine q_iload hX 1 d_Mo_stands_179 rfl (by first | rfl | assumption) ?_
      refine r_ldc hX d_Mo_stands_180 m_683 ?_
      refine r_icmp_ne hX 189 d_Mo_stands_182 (by decide) (fun c182 => ?_) (fun c182 => ?_)
      · refine r_iconst (v := 0) hX d_Mo_stands_189 (by decide) ?_
        refine r_iret hX hR d_Mo_stands_190 rfl (by first | rfl | assumption) ?_
        exact ⟨by rw [hso, mo_st_B (t := 7) (by decide) (by decide) (by decide) (by decide), decide_eq_false (show ¬ ms = so_tg 7 from c182)]; rfl, rfl⟩
      · refine r_iconst (v := 1) hX d_Mo_stands_185 (by decide) ?_
        refine r_goto hX 190 d_Mo_stands_186 (by decide) ?_
        refine r_iret hX hR d_Mo_stands_190 rfl (by first | rfl | assumption) ?_
        exact ⟨by rw [hso, mo_st_B (t := 7) (by decide) (by decide) (by decide) (by decide), decide_eq_true (show ms = so_tg 7 from c182)]; rfl, rfl⟩
    · refine q_iload hX 0 d_Mo_stands_0 rfl (by first | rfl | assumption) ?_
      refine r_lookup (off := 153) hX 154 d_Mo_stands_1 (by decide) (by decide) (by decide) ?_
      refine q_iload hX 1 d_Mo_stands_154 rfl (by first | rfl | assumption) ?_
      refine r_ldc hX d_Mo_stands_155 m_682 ?_
      refine r_icmp_ne hX 164 d_Mo_stands_157 (by decide) (fun c157 => ?_) (fun c157 => ?_)
      · refine r_iconst (v := 0) hX d_Mo_stands_164 (by decide) ?_
        refine r_iret hX hR d_Mo_stands_165 rfl (by first | rfl | assumption) ?_
        exact ⟨by rw [hso, mo_st_B (t := 1) (by decide) (by decide) (by decide) (by decide), decide_eq_false (show ¬ ms = so_tg 1 from c157)]; rfl, rfl⟩
      · refine r_iconst (v := 1) hX d_Mo_stands_160 (by decide) ?_
        refine r_goto hX 165 d_Mo_stands_161 (by decide) ?_
        refine r_iret hX hR d_Mo_stands_165 rfl (by first | rfl | assumption) ?_
        exact ⟨by rw [hso, mo_st_B (t := 1) (by decide) (by decide) (by decide) (by decide), decide_eq_true (show ms = so_tg 1 from c157)]; rfl, rfl⟩
    · refine q_iload hX 0 d_Mo_stands_0 rfl (by first | rfl | assumption) ?_
      refine r_lookup (off := 190) hX 191 d_Mo_stands_1 (by decide) (by decide) (by decide) ?_
      refine q_iload hX 1 d_Mo_stands_191 rfl (by first | rfl | assumption) ?_
      refine r_sipush (v := 187) hX d_Mo_stands_192 (by decide) ?_
      refine r_icmp_ne hX 202 d_Mo_stands_195 (by decide) (fun c195 => ?_) (fun c195 => ?_)
      · refine r_iconst (v := 0) hX d_Mo_stands_202 (by decide) ?_
        refine r_iret hX hR d_Mo_stands_203 rfl (by first | rfl | assumption) ?_
        exact ⟨by rw [hso, mo_st_B (t := 10) (by decide) (by decide) (by decide) (by decide), decide_eq_false (show ¬ ms = so_tg 10 from c195)]; rfl, rfl⟩
      · refine r_iconst (v := 1) hX d_Mo_stands_198 (by decide) ?_
        refine r_goto hX 203 d_Mo_stands_199 (by decide) ?_
        refine r_iret hX hR d_Mo_stands_203 rfl (by first | rfl | assumption) ?_
        exact ⟨by rw [hso, mo_st_B (t := 10) (by decide) (by decide) (by decide) (by decide), decide_eq_true (show ms = so_tg 10 from c195)]; rfl, rfl⟩
    · refine q_iload hX 0 d_Mo_stands_0 rfl (by first | rfl | assumption) ?_
      refine r_lookup (off := 190) hX 191 d_Mo_stands_1 (by decide) (by decide) (by decide) ?_
      refine q_iload hX 1 d_Mo_stands_191 rfl (by first | rfl | assumption) ?_
      refine r_sipush (v := 187) hX d_Mo_stands_192 (by decide) ?_
      refine r_icmp_ne hX 202 d_Mo_stands_195 (by decide) (fun c195 => ?_) (fun c195 => ?_)
      · refine r_iconst (v := 0) hX d_Mo_stands_202 (by decide) ?_
        refine r_iret hX hR d_Mo_stands_203 rfl (by first | rfl | assumption) ?_
        exact ⟨by rw [hso, mo_st_B (t := 10) (by decide) (by decide) (by decide) (by decide), decide_eq_false (show ¬ ms = so_tg 10 from c195)]; rfl, rfl⟩
      · refine r_iconst (v := 1) hX d_Mo_stands_198 (by decide) ?_
        refine r_goto hX 203 d_Mo_stands_199 (by decide) ?_
        refine r_iret hX hR d_Mo_stands_203 rfl (by first | rfl | assumption) ?_
        exact ⟨by rw [hso, mo_st_B (t := 10) (by decide) (by decide) (by decide) (by decide), decide_eq_true (show ms = so_tg 10 from c195)]; rfl, rfl⟩
    · refine q_iload hX 0 d_Mo_stands_0 rfl (by first | rfl | assumption) ?_
      refine r_lookup (off := 190) hX 191 d_Mo_stands_1 (by decide) (by decide) (by decide) ?_
      refine q_iload hX 1 d_Mo_stands_191 rfl (by first | rfl | assumption) ?_
      refine r_sipush (v := 187) hX d_Mo_stands_192 (by decide) ?_
      refine r_icmp_ne hX 202 d_Mo_stands_195 (by decide) (fun c195 => ?_) (fun c195 => ?_)
      · refine r_iconst (v := 0) hX d_Mo_stands_202 (by decide) ?_
        refine r_iret hX hR d_Mo_stands_203 rfl (by first | rfl | assumption) ?_
        exact ⟨by rw [hso, mo_st_B (t := 10) (by decide) (by decide) (by decide) (by decide), decide_eq_false (show ¬ ms = so_tg 10 from c195)]; rfl, rfl⟩
      · refine r_iconst (v := 1) hX d_Mo_stands_198 (by decide) ?_
        refine r_goto hX 203 d_Mo_stands_199 (by decide) ?_
        refine r_iret hX hR d_Mo_stands_203 rfl (by first | rfl | assumption) ?_
        exact ⟨by rw [hso, mo_st_B (t := 10) (by decide) (by decide) (by decide) (by decide), decide_eq_true (show ms = so_tg 10 from c195)]; rfl, rfl⟩
    · refine q_iload hX 0 d_Mo_stands_0 rfl (by first | rfl | assumption) ?_
      refine r_lookup (off := 203) hX 204 d_Mo_stands_1 (by decide) (by decide) (by decide) ?_
      refine q_iload hX 1 d_Mo_stands_204 rfl (by first | rfl | assumption) ?_
      refine r_ldc hX d_Mo_stands_205 m_681 ?_
      refine r_icmp_eq hX 224 d_Mo_stands_207 (by decide) (fun c207 => ?_) (fun c207 => ?_)
      · refine r_iconst (v := 1) hX d_Mo_stands_224 (by decide) ?_
        refine r_goto hX 229 d_Mo_stands_225 (by decide) ?_
        refine r_iret hX hR d_Mo_stands_229 rfl (by first | rfl | assumption) ?_
        exact ⟨by rw [hso, mo_st_C, decide_eq_true (show ms = so_tg 0 ∨ ms = so_tg 4 ∨ ms = so_tg 10 from Or.inl c207)]; rfl, rfl⟩
      · refine q_iload hX 1 d_Mo_stands_210 rfl (by first | rfl | assumption) ?_
        refine r_sipush (v := 174) hX d_Mo_stands_211 (by decide) ?_
        refine r_icmp_eq hX 224 d_Mo_stands_214 (by decide) (fun c214 => ?_) (fun c214 => ?_)
        · refine r_iconst (v := 1) hX d_Mo_stands_224 (by decide) ?_
          refine r_goto hX 229 d_Mo_stands_225 (by decide) ?_
          refine r_iret hX hR d_Mo_stands_229 rfl (by first | rfl | assumption) ?_
          exact ⟨by rw [hso, mo_st_C, decide_eq_true (show ms = so_tg 0 ∨ ms = so_tg 4 ∨ ms = so_tg 10 from Or.inr (Or.inl c214))]; rfl, rfl⟩
        · refine q_iload hX 1 d_Mo_stands_217 rfl (by first | rfl | assumption) ?_
          refine r_sipush (v := 187) hX d_Mo_stands_218 (by decide) ?_
          refine r_icmp_ne hX 228 d_Mo_stands_221 (by decide) (fun c221 => ?_) (fun c221 => ?_)
          · refine r_iconst (v := 0) hX d_Mo_stands_228 (by decide) ?_
            refine r_iret hX hR d_Mo_stands_229 rfl (by first | rfl | assumption) ?_
            exact ⟨by rw [hso, mo_st_C, decide_eq_false (fun z : ms = so_tg 0 ∨ ms = so_tg 4 ∨ ms = so_tg 10 => by rcases z with z | z | z; exact c207 z; exact c214 z; exact c221 z)]; rfl, rfl⟩
          · refine r_iconst (v := 1) hX d_Mo_stands_224 (by decide) ?_
            refine r_goto hX 229 d_Mo_stands_225 (by decide) ?_
            refine r_iret hX hR d_Mo_stands_229 rfl (by first | rfl | assumption) ?_
            exact ⟨by rw [hso, mo_st_C, decide_eq_true (show ms = so_tg 0 ∨ ms = so_tg 4 ∨ ms = so_tg 10 from Or.inr (Or.inr c221))]; rfl, rfl⟩
    · refine q_iload hX 0 d_Mo_stands_0 rfl (by first | rfl | assumption) ?_
      refine r_lookup (off := 229) hX 230 d_Mo_stands_1 (by decide) (by decide) (by decide) ?_
      refine q_iload hX 1 d_Mo_stands_230 rfl (by first | rfl | assumption) ?_
      refine r_if_eq hX 241 d_Mo_stands_231 (by decide) (fun c231 => ?_) (fun c231 => ?_)
      · refine r_iconst (v := 1) hX d_Mo_stands_241 (by decide) ?_
        refine r_goto hX 246 d_Mo_stands_242 (by decide) ?_
        refine r_iret hX hR d_Mo_stands_246 rfl (by first | rfl | assumption) ?_
        exact ⟨by rw [hso, mo_st_D (by decide), decide_eq_true (Or.inl c231)]; rfl, rfl⟩
      · refine q_iload hX 1 d_Mo_stands_234 rfl (by first | rfl | assumption) ?_
        refine r_callS (as := [_]) hX d_Mo_stands_235 lk_Mo_82 rfl (Nat.le_of_ble_eq_true rfl) (by decide) 0 0 (Nat.le_refl _) (Nat.le_refl _) (c_Mo_kindOf (G := G) ms) (fun v w1 hq => ?_)
        obtain ⟨rfl, hw⟩ := hq
        rw [hw]
        refine r_if_ne hX 245 d_Mo_stands_238 (by decide) (fun c238 => ?_) (fun c238 => ?_)
        · refine r_iconst (v := 0) hX d_Mo_stands_245 (by decide) ?_
          refine r_iret hX hR d_Mo_stands_246 rfl (by first | rfl | assumption) ?_
          exact ⟨by rw [hso, mo_st_D (by decide), decide_eq_false (fun z => by rcases z with z | z; exact c231 z; exact c238 z)]; rfl, rfl⟩
        · refine r_iconst (v := 1) hX d_Mo_stands_241 (by decide) ?_
          refine r_goto hX 246 d_Mo_stands_242 (by decide) ?_
          refine r_iret hX hR d_Mo_stands_246 rfl (by first | rfl | assumption) ?_
          exact ⟨by rw [hso, mo_st_D (by decide), decide_eq_true (Or.inr c238)]; rfl, rfl⟩
  · refine q_iload hX 0 d_Mo_stands_0 rfl (by first | rfl | assumption) ?_
    refine r_lookup (off := 229) hX 230 d_Mo_stands_1 (by decide) (lk_def (by decide) hne) (by decide) ?_
    refine q_iload hX 1 d_Mo_stands_230 rfl (by first | rfl | assumption) ?_
    refine r_if_eq hX 241 d_Mo_stands_231 (by decide) (fun c231 => ?_) (fun c231 => ?_)
    · refine r_iconst (v := 1) hX d_Mo_stands_241 (by decide) ?_
      refine r_goto hX 246 d_Mo_stands_242 (by decide) ?_
      refine r_iret hX hR d_Mo_stands_246 rfl (by first | rfl | assumption) ?_
      exact ⟨by rw [hso, mo_st_D (by decide), decide_eq_true (Or.inl c231)]; rfl, rfl⟩
    · refine q_iload hX 1 d_Mo_stands_234 rfl (by first | rfl | assumption) ?_
      refine r_callS (as := [_]) hX d_Mo_stands_235 lk_Mo_82 rfl (Nat.le_of_ble_eq_true rfl) (by decide) 0 0 (Nat.le_refl _) (Nat.le_refl _) (c_Mo_kindOf (G := G) ms) (fun v w1 hq => ?_)
      obtain ⟨rfl, hw⟩ := hq
      rw [hw]
      refine r_if_ne hX 245 d_Mo_stands_238 (by decide) (fun c238 => ?_) (fun c238 => ?_)
      · refine r_iconst (v := 0) hX d_Mo_stands_245 (by decide) ?_
        refine r_iret hX hR d_Mo_stands_246 rfl (by first | rfl | assumption) ?_
        exact ⟨by rw [hso, mo_st_D (by decide), decide_eq_false (fun z => by rcases z with z | z; exact c231 z; exact c238 z)]; rfl, rfl⟩
      · refine r_iconst (v := 1) hX d_Mo_stands_241 (by decide) ?_
        refine r_goto hX 246 d_Mo_stands_242 (by decide) ?_
        refine r_iret hX hR d_Mo_stands_246 rfl (by first | rfl | assumption) ?_
        exact ⟨by rw [hso, mo_st_D (by decide), decide_eq_true (Or.inr c238)]; rfl, rfl⟩
