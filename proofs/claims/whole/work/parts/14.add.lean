/-! ===== Tree.add ===== -/
theorem r_wf {G : Ev_G} {M : Ev_M} {X : Ev_X} {bc bs pc : Nat} {ls : Ev_L} {st : List Value} {w : Ev_W} (k : (∀ q : Nat, w.1 ≤ q → w.2 q = none) → ev_W G M X bc bs pc ls st w) : ev_W G M X bc bs pc ls st w := by
  intro H locs a cells slots hH hl hL hc hs
  refine k (fun q hq => ?_) H locs a cells slots hH hl hL hc hs
  have hlo := hH.lo
  cases hc : w.2 q with
  | none => rfl
  | some c =>
    have h1 := (hH.2.2.2 _ _ hc).lt
    have h2 := hH.2.1
    simp only [ev_rho] at h1
    rw [if_neg (by omega)] at h1
    omega
def tr_ins {α : Type} (p n : Nat) (x : α) (f : Nat → α) : Nat → α := fun i => if i < p then f i else if i = p then x else if i ≤ n then f (i - 1) else f i
/-- the contents behind an insertion at p: those behind it have new numbers -/
def tr_insE (p n : Nat) (x : Ev_E) (E : Nat → Ev_E) : Nat → Ev_E := fun i => if i < p then E i else if i = p then x else if i ≤ n then el_n (E (i - 1)) (nI i) else E i
def tr_e {α : Type} (m n : Nat) (f : Nat → α) (x : α) : α := if n < m then f n else x
def tr_e0 : Ev_E := (16, none, 0, fun _ => 0)
/-- what a new element at place p makes of the tree -/
def tr_added (w w' : Ev_W) (n m p : Nat) (L As : Nat → Option Nat) (sf : Nat → Int32) (sd : Nat) (ad : Nat → Nat) (E : Nat → Ev_E) (PF : Nat → Nat → Int32) (so : Nat) (tg : Int32) (ma : Option Nat) (lev : Int32) : Prop :=
  is_Tr w' (n + 1) (tr_ins p n (some (tr_e m n ad w.1)) L) As sf sd ∧ is_Es w' (if n < m then m else n + 1) (tr_ins p n (some (tr_e m n ad w.1)) L) (tr_ins p n (tr_e m n ad w.1) ad) (tr_insE p n (el_b (el_n (tr_e m n E tr_e0) (nI p)) so tg ma lev) E) (tr_ins p n (tr_e m n PF (fun _ => 0)) PF) ∧ (∀ q : Nat, q < 139 → q ≠ 108 → q ≠ 109 → w'.2 q = w.2 q) ∧ w'.1 = if n < m then w.1 else w.1 + 2
theorem tr_fin {w w0 wB : Ev_W} {n m p sd e : Nat} {L As : Nat → Option Nat} {sf : Nat → Int32} {ad : Nat → Nat} {E : Nat → Ev_E} {PF : Nat → Nat → Int32} {E0 : Ev_E} {pf0 : Nat → Int32} {so : Nat} {tg : Int32} {ma : Option Nat} {lev : Int32} (hes : is_Es w m L ad E PF) (hm : n ≤ m) (hpn : p ≤ n)
    (hE0 : ∀ j, j < m → j ≠ n → w0.2 (ad j) = some (el_C (ad j) (E j)) ∧ w0.2 (ad j + 1) = some (.inl (0, 16, .inl (PF j))) ∧ ad j ≠ e) (he0 : w0.2 e = some (el_C e E0)) (hp0 : w0.2 (e + 1) = some (.inl (0, 16, .inl pf0))) (hea : 139 ≤ e) (hee : e = tr_e m n ad w.1) (hE0e : E0 = tr_e m n E tr_e0) (hpf0 : pf0 = tr_e m n PF (fun _ => 0)) (hq0 : ∀ q : Nat, q < 139 → w0.2 q = w.2 q) (hw0 : w0.1 = if n < m then w.1 else w.1 + 2)
    (b1 : wB.2 108 = some (.inr (4, [.ref 109, .ref 110, .int (nI (n + 1)), .ref 111, .int (nI sd)]))) (b2 : wB.2 109 = some (.inl (3, 60, .inr (.inr (va_up (fun i => if p < i ∧ i ≤ n then L (i - 1) else L i) p (some e)))))) (b3 : wB.2 110 = some (.inl (3, 60, .inr (.inr As)))) (b4 : wB.2 111 = some (.inl (0, 1200, .inl sf)))
    (b5 : wB.2 e = some (el_C e (el_b (el_n E0 (nI p)) so tg ma lev))) (b6 : ∀ j, j < n → wB.2 (ad j) = some (el_C (ad j) (if p ≤ j then el_n (E j) (nI (j + 1)) else E j))) (b7 : ∀ q : Nat, q ≠ 108 → q ≠ 109 → q ≠ e → (∀ j, j < n → q ≠ ad j) → wB.2 q = w0.2 q) (b8 : wB.1 = w0.1) : tr_added w wB n m p L As sf sd ad E PF so tg ma lev := by
  have hL : va_up (fun i => if p < i ∧ i ≤ n then L (i - 1) else L i) p (some e) = tr_ins p n (some e) L := by
    funext i
    unfold va_up tr_ins
    dsimp only
    by_cases h1 : i < p
    · rw [if_neg (by omega), if_pos h1, if_neg (by omega)]
    · by_cases h2 : i = p
      · rw [if_pos h2, if_neg h1, if_pos h2]
      · rw [if_neg h2, if_neg h1, if_neg h2]
        by_cases h3 : i ≤ n
        · rw [if_pos ⟨by omega, h3⟩, if_pos h3]
        · rw [if_neg (by omega), if_neg h3]
  -- a part's cell isn't an element's
  have hpe : ∀ j, j < m → j ≠ n → ad j + 1 ≠ e := fun j h1 h2 z => by
    have := (hE0 j h1 h2).2.1
    rw [z, he0] at this
    cases this
  have hpp : ∀ j, j < m → j ≠ n → ∀ i, i < n → ad j + 1 ≠ ad i := fun j h1 h2 i h3 z => by
    have := (hE0 j h1 h2).2.1
    rw [z, (hE0 i (by omega) (by omega)).1] at this
    cases this
  have hep : ∀ i, i < n → e + 1 ≠ ad i := fun i h3 z => by
    have := hp0
    rw [z, (hE0 i (by omega) (by omega)).1] at this
    cases this
  have part : ∀ j, j < m → j ≠ n → wB.2 (ad j + 1) = some (.inl (0, 16, .inl (PF j))) := fun j h1 h2 => by
    have := (hes.1 j h1).2.1
    rw [b7 _ (by omega) (by omega) (hpe j h1 h2) (hpp j h1 h2)]
    exact (hE0 j h1 h2).2.1
  unfold tr_added
  rw [← hee, ← hE0e, ← hpf0]
  refine ⟨⟨b1, by rw [b2, hL], b3, b4⟩, ⟨fun i hi => ?_, fun i j hi hj hij => ?_⟩, fun q h1 h2 h3 => ?_, by rw [b8, hw0]⟩
  · by_cases h1 : i < p
    · obtain ⟨u1, u2, u3, u4⟩ := hes.1 i (by omega)
      simp only [tr_ins, tr_insE, if_pos h1]
      exact ⟨u1, u2, by rw [b6 i (by omega), if_neg (by omega)], part i (by omega) (by omega)⟩
    · by_cases h2 : i = p
      · simp only [tr_ins, tr_insE, if_neg h1, if_pos h2]
        exact ⟨by first | trivial | rfl, hea, b5, by rw [b7 _ (by omega) (by omega) (by omega) hep]; exact hp0⟩
      · by_cases h3 : i ≤ n
        · obtain ⟨u1, u2, u3, u4⟩ := hes.1 (i - 1) (by omega)
          simp only [tr_ins, tr_insE, if_neg h1, if_neg h2, if_pos h3]
          exact ⟨u1, u2, by rw [b6 (i - 1) (by omega), if_pos (by omega), show i - 1 + 1 = i by omega], part (i - 1) (by omega) (by omega)⟩
        · have him : i < m := by
            by_cases z : n < m
            · rw [if_pos z] at hi; exact hi
            · rw [if_neg z] at hi; omega
          obtain ⟨u1, u2, u3, u4⟩ := hes.1 i him
          simp only [tr_ins, tr_insE, if_neg h1, if_neg h2, if_neg h3]
          refine ⟨u1, u2, ?_, part i him (by omega)⟩
          rw [b7 _ (by omega) (by omega) (hE0 i him (by omega)).2.2 (fun j hj z => by have := hes.2 i j him (by omega) z; omega)]
          exact (hE0 i him (by omega)).1
  · have key : ∀ i, i < (if n < m then m else n + 1) → i ≠ p → ∃ k, k < m ∧ k ≠ n ∧ tr_ins p n e ad i = ad k ∧ k = (if i < p then i else if i ≤ n then i - 1 else i) := fun i hi hip => by
      by_cases h1 : i < p
      · exact ⟨i, by omega, by omega, by simp only [tr_ins, if_pos h1], by rw [if_pos h1]⟩
      · by_cases h3 : i ≤ n
        · exact ⟨i - 1, by omega, by omega, by simp only [tr_ins, if_neg h1, if_neg hip, if_pos h3], by rw [if_neg h1, if_pos h3]⟩
        · have him : i < m := by
            by_cases z : n < m
            · rw [if_pos z] at hi; exact hi
            · rw [if_neg z] at hi; omega
          exact ⟨i, him, by omega, by simp only [tr_ins, if_neg h1, if_neg hip, if_neg h3], by rw [if_neg h1, if_neg h3]⟩
    have atp : tr_ins p n e ad p = e := by simp [tr_ins]
    by_cases hip : i = p
    · by_cases hjp : j = p
      · omega
      · obtain ⟨k, q1, q2, q3, q4⟩ := key j hj hjp
        rw [hip, atp, q3] at hij
        exact absurd hij.symm (hE0 k q1 q2).2.2
    · obtain ⟨k, q1, q2, q3, q4⟩ := key i hi hip
      by_cases hjp : j = p
      · rw [hjp, atp, q3] at hij
        exact absurd hij (hE0 k q1 q2).2.2
      · obtain ⟨k', r1, r2, r3, r4⟩ := key j hj hjp
        rw [q3, r3] at hij
        have := hes.2 k k' q1 r1 hij
        rw [q4, r4] at this
        split at this <;> split at this <;> (try split at this) <;> (try split at this) <;> omega
  · rw [b7 q h2 h3 (by omega) (fun j hj => by have := (hes.1 j (by omega)).2.1; omega)]
    exact hq0 q h1
theorem nw_Tr_9 : ev_N R_Tr 9 3 17 [.null, .int 0, .null, .int 0, .int 0, .long 0, .null, .int 0, .int 0, .int 0, .int 0, .int 0, .int 0, .int 0, .int 0, .int 0, .int 0] := ⟨_, _, t_El, rfl, u_El_in, t_El_ok, m_111, m_243, m_73, by decide +kernel, fun G => rfl⟩
set_option maxHeartbeats 4000000 in
theorem c_Tr_addN {G : Ev_G} {w : Ev_W} {n sd : Nat} {L As : Nat → Option Nat} {sf : Nat → Int32} {m : Nat} {ad : Nat → Nat} {E : Nat → Ev_E} {PF : Nat → Nat → Int32} (htr : is_Tr w n L As sf sd) (hn : n ≤ 60) (hsd : sd ≤ 1200) (hes : is_Es w m L ad E PF) (hm : n ≤ m) (hm60 : m ≤ 60) (hfree : ∀ i, m ≤ i → i < 60 → L i = none) (hw139 : 139 ≤ w.1) (so : Nat) (tg : Int32) : ev_Met G M_Tr_add 2 2 33 [.ref 108, .null, .ref so, .int tg] w (fun v w' => (n = 60 ∧ v = some .null ∧ w' = w) ∨ (n < 60 ∧ v = some (.ref (tr_e m n ad w.1)) ∧ tr_added w w' n m n L As sf sd ad E PF so tg none 0)) := by
  refine ev_Met.of md_Tr_add (Nat.le_of_ble_eq_true rfl) (fun X hX hR => ?_)
  obtain ⟨p, hp⟩ : ∃ p, p = n := ⟨_, rfl⟩
  have hpn : p ≤ n := by rw [hp]; exact Nat.le_refl _
  have hpk : True := trivial
  have fin : ∀ (e : Nat) (E0 : Ev_E) (pf0 : Nat → Int32) (w0 : Ev_W), is_Tr w0 n L As sf sd → n < 60 → (∀ j, j < m → j ≠ n → w0.2 (ad j) = some (el_C (ad j) (E j)) ∧ w0.2 (ad j + 1) = some (.inl (0, 16, .inl (PF j))) ∧ ad j ≠ e) → w0.2 e = some (el_C e E0) → w0.2 (e + 1) = some (.inl (0, 16, .inl pf0)) → 139 ≤ e → e = tr_e m n ad w.1 → E0 = tr_e m n E tr_e0 → pf0 = tr_e m n PF (fun _ => 0) → (∀ q : Nat, q < 139 → w0.2 q = w.2 q) → (w0.1 = if n < m then w.1 else w.1 + 2) →
      ∀ (ls : Ev_L), ls.1 0 = some (.ref 108) → ls.1 1 = some (.null) → ls.1 2 = some (.ref so) → ls.1 3 = some (.int tg) → ev_W G M_Tr_add X 0 0 45 ls [.ref e] w0 := by
    intro e E0 pf0 w0 hT0 hn60 hE0 he0 hp0 hea hee hE0e hpf0 hq0 hw0 ls l0 l1 l2 l3
    have hadd : ∀ j, j < n → w0.2 (ad j) = some (el_C (ad j) (E j)) ∧ w0.2 (ad j + 1) = some (.inl (0, 16, .inl (PF j))) ∧ ad j ≠ e := fun j hj => hE0 j (by omega) (by omega)
    have loop : ∀ (f k : Nat) (ls : Ev_L) (w1 : Ev_W), p + f = k → k ≤ n → is_Tr w1 n (fun i => if k < i ∧ i ≤ n then L (i - 1) else L i) As sf sd → (∀ j, j < n → w1.2 (ad j) = some (el_C (ad j) (if k ≤ j then el_n (E j) (nI (j + 1)) else E j))) → (∀ q : Nat, q ≠ 109 → (∀ j, j < n → q ≠ ad j) → w1.2 q = w0.2 q) → w1.1 = w0.1 → ls.1 0 = some (.ref 108) → ls.1 1 = some (.null) → ls.1 2 = some (.ref so) → ls.1 3 = some (.int tg) → ls.1 4 = some (.ref e) → ls.1 5 = some (.int (nI p)) → ls.1 6 = some (.int (nI k)) → ev_W G M_Tr_add X 0 0 71 ls [] w1 := by
      intro f
      induction f with
      | zero =>
        intro k ls w1 e1 e2 hT1 hE1 hQ1 hw1 l0 l1 l2 l3 l4 l5 l6
        have hkp : k = p := by omega
        rw [hkp] at hT1 hE1 l6
        have he1 : w1.2 e = some (el_C e E0) := by rw [hQ1 e (by omega) (fun j hj => Ne.symm (hadd j hj).2.2)]; exact he0
        refine r_iload hX d_Tr_add_71 (by first | rfl | assumption) ?_
        refine r_iload hX d_Tr_add_73 (by first | rfl | assumption) ?_
        refine r_icmp_le hX 99 d_Tr_add_75 (by decide) (fun _ => ?_) (fun c75 => absurd (nI_le (Nat.le_refl _) (by omega)) c75)
        refine q_aload hX 0 d_Tr_add_99 rfl (by first | rfl | assumption) ?_
        refine r_iload hX d_Tr_add_100 (by first | rfl | assumption) ?_
        refine r_aload hX d_Tr_add_102 (by first | rfl | assumption) ?_
        refine r_callV (as := [_, _]) hX d_Tr_add_104 lk_Tr_62 hT1.1 rfl rfl (Nat.le_of_ble_eq_true rfl) (by decide) 0 0 (Nat.le_refl _) (Nat.le_refl _) (c_Tr_putInLine (G := G) hT1 hn hsd he1 hea p (by omega)) (fun v w2 hq => ?_)
        obtain ⟨rfl, hT9, hE9, hs9⟩ := hq
        refine q_aload hX 0 d_Tr_add_107 rfl (by first | rfl | assumption) ?_
        refine r_dup hX d_Tr_add_108 rfl ?_
        refine r_getf hX d_Tr_add_109 fl_Tr_24 hT9.1 rfl ?_
        refine r_iconst (v := 1) hX d_Tr_add_112 (by decide) ?_
        refine r_iadd hX d_Tr_add_113 ?_
        refine r_putf hX d_Tr_add_114 fp_Tr_24 hT9.1 (by first | assumption | decide | omega) rfl rfl (Nat.le_of_ble_eq_true rfl) ?_
        have hn1 : nI n + 1 = nI (n + 1) := nI_1 n
        rw [hn1]
        generalize hW9 : ev_set w2 108 _ = w9
        have hA : w9.2 e = some (el_C e (el_n E0 (nI p))) := by rw [← hW9, ev_set_ne _ _ (by omega)]; exact hE9
        have hQ9 : ∀ q : Nat, q ≠ 108 → q ≠ 109 → q ≠ e → w9.2 q = w1.2 q := fun q h1 h2 h3 => by
          rw [← hW9, ev_set_ne _ _ h1, hs9.2 q (by simp [h2, h3])]
        have hea100 : 100 ≤ e := by omega
        refine r_aload hX d_Tr_add_117 (by first | rfl | assumption) ?_
        refine q_aload hX 2 d_Tr_add_119 rfl (by first | rfl | assumption) ?_
        refine q_iload hX 3 d_Tr_add_120 rfl (by first | rfl | assumption) ?_
        refine q_aloadN hX 1 d_Tr_add_121 rfl (by first | rfl | assumption) ?_
        have hbe := c_El_begin (G := G) (w := w9) (a := e) (E := el_n E0 (nI p)) hA hea100 so tg none 0 rfl
        refine r_callV (as := [_, _, _]) hX d_Tr_add_122 lk_Tr_66 hA rfl rfl (Nat.le_of_ble_eq_true rfl) (by decide) 0 0 (Nat.le_refl _) (Nat.le_refl _) (hbe) (fun v wB hq => ?_)
        obtain ⟨rfl, hB, hsB⟩ := hq
        refine r_aload hX d_Tr_add_125 (by first | rfl | assumption) ?_
        refine r_aret (o := some e) hX hR d_Tr_add_127 rfl (Or.inl ⟨_, rfl⟩) ?_
        refine Or.inr ⟨hn60, by rw [← hee]; rfl, ?_⟩
        have hfin : tr_added w wB n m p L As sf sd ad E PF so tg none 0 := by
          refine tr_fin hes hm hpn hE0 he0 hp0 hea hee hE0e hpf0 hq0 hw0 (e := e) ?_ ?_ ?_ ?_ hB ?_ ?_ ?_
          · rw [hsB.2 108 (by simp; omega), ← hW9, ev_set_self]; rfl
          · rw [hsB.2 109 (by simp; omega), ← hW9, ev_set_ne _ _ (by decide)]; exact hT9.2.1
          · rw [hsB.2 110 (by simp; omega), ← hW9, ev_set_ne _ _ (by decide)]; exact hT9.2.2.1
          · rw [hsB.2 111 (by simp; omega), ← hW9, ev_set_ne _ _ (by decide)]; exact hT9.2.2.2
          · intro j hj
            have := (hes.1 j (by omega)).2.1
            rw [hsB.2 (ad j) (by simp; exact (hadd j hj).2.2), hQ9 _ (by omega) (by omega) (hadd j hj).2.2]
            exact hE1 j hj
          · intro q h1 h2 h3 h4
            rw [hsB.2 q (by simp; exact h3), hQ9 q h1 h2 h3]
            exact hQ1 q h2 h4
          · rw [hsB.1, ← hW9]; show w2.1 = _; rw [hs9.1, hw1]
        rw [hp] at hfin
        exact hfin
      | succ f ih =>
        intro k ls w1 e1 e2 hT1 hE1 hQ1 hw1 l0 l1 l2 l3 l4 l5 l6
        obtain ⟨u1, u2, u3, u4⟩ := hes.1 (k - 1) (by omega)
        have hk1 : nI k - 1 = nI (k - 1) := by rw [show k = (k - 1) + 1 by omega, nI_pred]; rfl
        have hcl : (nI (k - 1)).toNatClampNeg = k - 1 := nI_clamp (by omega)
        have hkl : w1.2 (ad (k - 1)) = some (el_C (ad (k - 1)) (E (k - 1))) := by rw [hE1 (k - 1) (by omega), if_neg (by omega)]
        refine r_iload hX d_Tr_add_71 (by first | rfl | assumption) ?_
        refine r_iload hX d_Tr_add_73 (by first | rfl | assumption) ?_
        refine r_icmp_le hX 99 d_Tr_add_75 (by decide) (fun c75 => absurd c75 (nI_ge (by omega) (by omega))) (fun _ => ?_)
        refine q_aload hX 0 d_Tr_add_78 rfl (by first | rfl | assumption) ?_
        refine r_iload hX d_Tr_add_79 (by first | rfl | assumption) ?_
        refine q_aload hX 0 d_Tr_add_81 rfl (by first | rfl | assumption) ?_
        refine r_getf hX d_Tr_add_82 fl_Tr_11 hT1.1 rfl ?_
        refine r_iload hX d_Tr_add_85 (by first | rfl | assumption) ?_
        refine r_iconst (v := 1) hX d_Tr_add_87 (by decide) ?_
        refine r_isub hX d_Tr_add_88 ?_
        refine r_aald hX d_Tr_add_89 hT1.2.1 rfl (by rw [hk1]; exact vp_in_nI (by omega) (by decide)) ?_
        rw [hk1, hcl, if_neg (by omega), u1]
        refine r_callV (as := [_, _]) hX d_Tr_add_90 lk_Tr_62 hT1.1 rfl rfl (Nat.le_of_ble_eq_true rfl) (by decide) 0 0 (Nat.le_refl _) (Nat.le_refl _) (c_Tr_putInLine (G := G) hT1 hn hsd hkl u2 k (by omega)) (fun v w2 hq => ?_)
        obtain ⟨rfl, hT9, hE9, hs9⟩ := hq
        refine r_iinc hX d_Tr_add_93 (by first | rfl | assumption) ?_
        refine r_goto hX 71 d_Tr_add_96 (by decide) ?_
        refine ih (k - 1) _ w2 (by omega) (by omega) ?_ ?_ ?_ (by rw [hs9.1, hw1]) l0 l1 l2 l3 l4 l5 (by show some (Value.int (nI k + Int32.ofInt (-1))) = _; rw [i_dec, hk1])
        · have hf : va_up (fun i => if k < i ∧ i ≤ n then L (i - 1) else L i) k (some (ad (k - 1))) = (fun i => if k - 1 < i ∧ i ≤ n then L (i - 1) else L i) := by
            funext i
            unfold va_up
            dsimp only
            by_cases z : i = k
            · subst z; rw [if_pos rfl, if_pos ⟨by omega, by omega⟩, u1]
            · rw [if_neg z]
              by_cases z2 : k < i ∧ i ≤ n
              · rw [if_pos z2, if_pos ⟨by omega, z2.2⟩]
              · rw [if_neg z2, if_neg (by omega)]
          rw [← hf]; exact hT9
        · intro j hj
          by_cases z : j = k - 1
          · subst z
            rw [hE9, if_pos (Nat.le_refl _), show k - 1 + 1 = k by omega]
          · have := (hes.1 j (by omega)).2.1
            rw [hs9.2 (ad j) (by simp; exact ⟨by omega, fun z2 => z (hes.2 j (k - 1) (by omega) (by omega) z2)⟩), hE1 j hj]
            by_cases z3 : k ≤ j
            · rw [if_pos z3, if_pos (by omega)]
            · rw [if_neg z3, if_neg (by omega)]
        · intro q h1 h2
          rw [hs9.2 q (by simp; exact ⟨h1, h2 (k - 1) (by omega)⟩)]
          exact hQ1 q h1 h2
    refine r_astore hX d_Tr_add_45 (by decide) ?_
    refine q_aloadN hX 1 d_Tr_add_47 rfl (by first | rfl | assumption) ?_
    refine r_ifnonnullN hX d_Tr_add_48 ?_
    refine q_aload hX 0 d_Tr_add_51 rfl (by first | rfl | assumption) ?_
    refine r_getf hX d_Tr_add_52 fl_Tr_24 hT0.1 rfl ?_
    refine r_goto hX 63 d_Tr_add_55 (by decide) ?_
    refine r_istore hX d_Tr_add_63 (by decide) ?_
    refine q_aload hX 0 d_Tr_add_65 rfl (by first | rfl | assumption) ?_
    refine r_getf hX d_Tr_add_66 fl_Tr_24 hT0.1 rfl ?_
    refine r_istore hX d_Tr_add_69 (by decide) ?_
    refine loop (n - p) n _ w0 (by omega) (Nat.le_refl _) ?_ (fun j hj => by rw [(hadd j hj).1, if_neg (by omega)]) (fun q _ _ => rfl) rfl l0 l1 l2 l3 rfl (by rw [hp]; rfl) rfl
    have hf : (fun i => if n < i ∧ i ≤ n then L (i - 1) else L i) = L := by funext i; rw [if_neg (by omega)]
    rw [hf]; exact hT0
  refine q_aload hX 0 d_Tr_add_0 rfl (by first | rfl | assumption) ?_
  refine r_getf hX d_Tr_add_1 fl_Tr_24 htr.1 rfl ?_
  refine q_aload hX 0 d_Tr_add_4 rfl (by first | rfl | assumption) ?_
  refine r_getf hX d_Tr_add_5 fl_Tr_11 htr.1 rfl ?_
  refine r_alen hX d_Tr_add_8 htr.2.1 rfl ?_
  refine r_icmp_lt hX 14 d_Tr_add_9 (by decide) (fun c9 => ?_) (fun c9 => ?_)
  · have hn60 : n < 60 := by rw [i_lt, nI_toInt (by omega), show (nI 60).toInt = 60 from rfl] at c9; omega
    have hcl : (nI n).toNatClampNeg = n := nI_clamp (by omega)
    by_cases hnm : n < m
    · obtain ⟨u1, u2, u3, u4⟩ := hes.1 n hnm
      refine q_aload hX 0 d_Tr_add_14 rfl (by first | rfl | assumption) ?_
      refine r_getf hX d_Tr_add_15 fl_Tr_11 htr.1 rfl ?_
      refine q_aload hX 0 d_Tr_add_18 rfl (by first | rfl | assumption) ?_
      refine r_getf hX d_Tr_add_19 fl_Tr_24 htr.1 rfl ?_
      refine r_aald hX d_Tr_add_22 htr.2.1 rfl (vp_in_nI hn60 (by decide)) ?_
      rw [hcl, u1]
      refine r_ifnonnull hX 36 d_Tr_add_23 (by decide) ?_
      refine q_aload hX 0 d_Tr_add_36 rfl (by first | rfl | assumption) ?_
      refine r_getf hX d_Tr_add_37 fl_Tr_11 htr.1 rfl ?_
      refine q_aload hX 0 d_Tr_add_40 rfl (by first | rfl | assumption) ?_
      refine r_getf hX d_Tr_add_41 fl_Tr_24 htr.1 rfl ?_
      refine r_aald hX d_Tr_add_44 htr.2.1 rfl (vp_in_nI hn60 (by decide)) ?_
      rw [hcl, u1]
      refine r_less (bc' := 0) (bs' := 0) (Nat.zero_le _) (Nat.zero_le _) ?_
      exact fin (ad n) (E n) (PF n) w htr hn60 (fun j h1 h2 => ⟨(hes.1 j h1).2.2.1, (hes.1 j h1).2.2.2, fun z => h2 (hes.2 j n h1 hnm z)⟩) u3 u4 u2 (by rw [tr_e, if_pos hnm]) (by rw [tr_e, if_pos hnm]) (by rw [tr_e, if_pos hnm]) (fun _ _ => rfl) (by rw [if_pos hnm]) _ rfl rfl rfl rfl
    · skip
      refine q_aload hX 0 d_Tr_add_14 rfl (by first | rfl | assumption) ?_
      refine r_getf hX d_Tr_add_15 fl_Tr_11 htr.1 rfl ?_
      refine q_aload hX 0 d_Tr_add_18 rfl (by first | rfl | assumption) ?_
      refine r_getf hX d_Tr_add_19 fl_Tr_24 htr.1 rfl ?_
      refine r_aald hX d_Tr_add_22 htr.2.1 rfl (vp_in_nI hn60 (by decide)) ?_
      rw [hcl, hfree n (by omega) hn60]
      refine r_ifnonnullN hX d_Tr_add_23 ?_
      refine r_wf (fun hwf => ?_)
      refine r_new (bc' := 1) (bs' := 16) (N := 17) (ci := 3) (fs := [.null, .int 0, .null, .int 0, .int 0, .long 0, .null, .int 0, .int 0, .int 0, .int 0, .int 0, .int 0, .int 0, .int 0, .int 0, .int 0]) hX d_Tr_add_26 nw_Tr_9 (by decide) (by decide) (fun hlo hfr => ?_)
      refine r_dup hX d_Tr_add_29 rfl ?_
      refine r_callIN (as := []) hX d_Tr_add_30 lk_Tr_61 rfl (Nat.le_of_ble_eq_true rfl) (by decide) 0 0 (by decide) (by decide) (c_El_init (G := G) (a := w.1) (w := ev_new w _) (ev_new_self _ _) (by omega) rfl) (fun v w1 hq => ?_)
      obtain ⟨rfl, q1, q2, q3, q4⟩ := hq
      refine r_goto hX 45 d_Tr_add_33 (by decide) ?_
      have hold : ∀ j, j < m → ad j ≠ w.1 ∧ ad j ≠ w.1 + 1 ∧ ad j + 1 ≠ w.1 ∧ ad j + 1 ≠ w.1 + 1 := fun j hj => by
        have h3 := (hes.1 j hj).2.2.1
        have h4 := (hes.1 j hj).2.2.2
        refine ⟨fun z => ?_, fun z => ?_, fun z => ?_, fun z => ?_⟩
        · rw [z, hwf _ (Nat.le_refl _)] at h3; cases h3
        · rw [z, hwf _ (by omega)] at h3; cases h3
        · rw [z, hwf _ (Nat.le_refl _)] at h4; cases h4
        · rw [z, hwf _ (by omega)] at h4; cases h4
      have hkeep : ∀ q, q ≠ w.1 → q ≠ w.1 + 1 → w1.2 q = w.2 q := fun q h1 h2 => by rw [q4 q h1 h2, ev_new_ne _ _ h1]
      refine fin w.1 tr_e0 (fun _ => 0) w1 ⟨?_, ?_, ?_, ?_⟩ hn60 (fun j h1 h2 => ?_) q2 q3 hw139 (by rw [tr_e, if_neg (by omega)]) (by rw [tr_e, if_neg (by omega)]) (by rw [tr_e, if_neg (by omega)]) (fun q hq => hkeep q (by omega) (by omega)) (by rw [if_neg (by omega), q1]; rfl) _ rfl rfl rfl rfl
      · rw [hkeep _ (by omega) (by omega)]; exact htr.1
      · rw [hkeep _ (by omega) (by omega)]; exact htr.2.1
      · rw [hkeep _ (by omega) (by omega)]; exact htr.2.2.1
      · rw [hkeep _ (by omega) (by omega)]; exact htr.2.2.2
      · obtain ⟨o1, o2, o3, o4⟩ := hold j h1
        exact ⟨by rw [hkeep _ o1 o2]; exact (hes.1 j h1).2.2.1, by rw [hkeep _ o3 o4]; exact (hes.1 j h1).2.2.2, o1⟩
  · refine r_null hX d_Tr_add_12 ?_
    refine r_aret (o := none) hX hR d_Tr_add_13 rfl (Or.inl ⟨_, rfl⟩) ?_
    exact Or.inl ⟨by rw [i_lt, nI_toInt (by omega), show (nI 60).toInt = 60 from rfl] at c9; omega, rfl, rfl⟩
set_option maxHeartbeats 4000000 in
theorem c_Tr_addS {G : Ev_G} {w : Ev_W} {n sd : Nat} {L As : Nat → Option Nat} {sf : Nat → Int32} {m : Nat} {ad : Nat → Nat} {E : Nat → Ev_E} {PF : Nat → Nat → Int32} (htr : is_Tr w n L As sf sd) (hn : n ≤ 60) (hsd : sd ≤ 1200) (hes : is_Es w m L ad E PF) (hm : n ≤ m) (hm60 : m ≤ 60) (hfree : ∀ i, m ≤ i → i < 60 → L i = none) (hw139 : 139 ≤ w.1) {kM : Nat} (hkM : kM < n) (hnum : (E kM).2.2.2 2 = nI kM) (so : Nat) (tg : Int32) : ev_Met G M_Tr_add 2 2 33 [.ref 108, .ref (ad kM), .ref so, .int tg] w (fun v w' => (n = 60 ∧ v = some .null ∧ w' = w) ∨ (n < 60 ∧ v = some (.ref (tr_e m n ad w.1)) ∧ tr_added w w' n m (tr_end (el_lev E) n kM) L As sf sd ad E PF so tg (some (ad kM)) ((E kM).2.2.2 1 + 1))) := by
  refine ev_Met.of md_Tr_add (Nat.le_of_ble_eq_true rfl) (fun X hX hR => ?_)
  obtain ⟨p, hp⟩ : ∃ p, p = (tr_end (el_lev E) n kM) := ⟨_, rfl⟩
  have hpn : p ≤ n := by rw [hp]; exact tr_go_le _ _ _ _ _ (by omega)
  have hpk : kM < p := by rw [hp]; exact tr_go_ge (el_lev E) n (el_lev E kM) (n - (kM + 1)) (kM + 1)
  have fin : ∀ (e : Nat) (E0 : Ev_E) (pf0 : Nat → Int32) (w0 : Ev_W), is_Tr w0 n L As sf sd → n < 60 → (∀ j, j < m → j ≠ n → w0.2 (ad j) = some (el_C (ad j) (E j)) ∧ w0.2 (ad j + 1) = some (.inl (0, 16, .inl (PF j))) ∧ ad j ≠ e) → w0.2 e = some (el_C e E0) → w0.2 (e + 1) = some (.inl (0, 16, .inl pf0)) → 139 ≤ e → e = tr_e m n ad w.1 → E0 = tr_e m n E tr_e0 → pf0 = tr_e m n PF (fun _ => 0) → (∀ q : Nat, q < 139 → w0.2 q = w.2 q) → (w0.1 = if n < m then w.1 else w.1 + 2) →
      ∀ (ls : Ev_L), ls.1 0 = some (.ref 108) → ls.1 1 = some (.ref (ad kM)) → ls.1 2 = some (.ref so) → ls.1 3 = some (.int tg) → ev_W G M_Tr_add X 0 0 45 ls [.ref e] w0 := by
    intro e E0 pf0 w0 hT0 hn60 hE0 he0 hp0 hea hee hE0e hpf0 hq0 hw0 ls l0 l1 l2 l3
    have hadd : ∀ j, j < n → w0.2 (ad j) = some (el_C (ad j) (E j)) ∧ w0.2 (ad j + 1) = some (.inl (0, 16, .inl (PF j))) ∧ ad j ≠ e := fun j hj => hE0 j (by omega) (by omega)
    have loop : ∀ (f k : Nat) (ls : Ev_L) (w1 : Ev_W), p + f = k → k ≤ n → is_Tr w1 n (fun i => if k < i ∧ i ≤ n then L (i - 1) else L i) As sf sd → (∀ j, j < n → w1.2 (ad j) = some (el_C (ad j) (if k ≤ j then el_n (E j) (nI (j + 1)) else E j))) → (∀ q : Nat, q ≠ 109 → (∀ j, j < n → q ≠ ad j) → w1.2 q = w0.2 q) → w1.1 = w0.1 → ls.1 0 = some (.ref 108) → ls.1 1 = some (.ref (ad kM)) → ls.1 2 = some (.ref so) → ls.1 3 = some (.int tg) → ls.1 4 = some (.ref e) → ls.1 5 = some (.int (nI p)) → ls.1 6 = some (.int (nI k)) → ev_W G M_Tr_add X 0 0 71 ls [] w1 := by
      intro f
      induction f with
      | zero =>
        intro k ls w1 e1 e2 hT1 hE1 hQ1 hw1 l0 l1 l2 l3 l4 l5 l6
        have hkp : k = p := by omega
        rw [hkp] at hT1 hE1 l6
        have he1 : w1.2 e = some (el_C e E0) := by rw [hQ1 e (by omega) (fun j hj => Ne.symm (hadd j hj).2.2)]; exact he0
        refine r_iload hX d_Tr_add_71 (by first | rfl | assumption) ?_
        refine r_iload hX d_Tr_add_73 (by first | rfl | assumption) ?_
        refine r_icmp_le hX 99 d_Tr_add_75 (by decide) (fun _ => ?_) (fun c75 => absurd (nI_le (Nat.le_refl _) (by omega)) c75)
        refine q_aload hX 0 d_Tr_add_99 rfl (by first | rfl | assumption) ?_
        refine r_iload hX d_Tr_add_100 (by first | rfl | assumption) ?_
        refine r_aload hX d_Tr_add_102 (by first | rfl | assumption) ?_
        refine r_callV (as := [_, _]) hX d_Tr_add_104 lk_Tr_62 hT1.1 rfl rfl (Nat.le_of_ble_eq_true rfl) (by decide) 0 0 (Nat.le_refl _) (Nat.le_refl _) (c_Tr_putInLine (G := G) hT1 hn hsd he1 hea p (by omega)) (fun v w2 hq => ?_)
        obtain ⟨rfl, hT9, hE9, hs9⟩ := hq
        refine q_aload hX 0 d_Tr_add_107 rfl (by first | rfl | assumption) ?_
        refine r_dup hX d_Tr_add_108 rfl ?_
        refine r_getf hX d_Tr_add_109 fl_Tr_24 hT9.1 rfl ?_
        refine r_iconst (v := 1) hX d_Tr_add_112 (by decide) ?_
        refine r_iadd hX d_Tr_add_113 ?_
        refine r_putf hX d_Tr_add_114 fp_Tr_24 hT9.1 (by first | assumption | decide | omega) rfl rfl (Nat.le_of_ble_eq_true rfl) ?_
        have hn1 : nI n + 1 = nI (n + 1) := nI_1 n
        rw [hn1]
        generalize hW9 : ev_set w2 108 _ = w9
        have hA : w9.2 e = some (el_C e (el_n E0 (nI p))) := by rw [← hW9, ev_set_ne _ _ (by omega)]; exact hE9
        have hQ9 : ∀ q : Nat, q ≠ 108 → q ≠ 109 → q ≠ e → w9.2 q = w1.2 q := fun q h1 h2 h3 => by
          rw [← hW9, ev_set_ne _ _ h1, hs9.2 q (by simp [h2, h3])]
        have hea100 : 100 ≤ e := by omega
        refine r_aload hX d_Tr_add_117 (by first | rfl | assumption) ?_
        refine q_aload hX 2 d_Tr_add_119 rfl (by first | rfl | assumption) ?_
        refine q_iload hX 3 d_Tr_add_120 rfl (by first | rfl | assumption) ?_
        refine q_aload hX 1 d_Tr_add_121 rfl (by first | rfl | assumption) ?_
        have hbe := c_El_begin (G := G) (w := w9) (a := e) (E := el_n E0 (nI p)) hA hea100 so tg (some (ad kM)) ((E kM).2.2.2 1 + 1) ⟨(hadd kM hkM).2.2, E kM, (by rw [hQ9 _ (by have := (hes.1 kM (by omega)).2.1; omega) (by have := (hes.1 kM (by omega)).2.1; omega) (hadd kM hkM).2.2, hE1 kM hkM, if_neg (by omega)]), rfl⟩
        refine r_callV (as := [_, _, _]) hX d_Tr_add_122 lk_Tr_66 hA rfl rfl (Nat.le_of_ble_eq_true rfl) (by decide) 0 0 (Nat.le_refl _) (Nat.le_refl _) (hbe) (fun v wB hq => ?_)
        obtain ⟨rfl, hB, hsB⟩ := hq
        refine r_aload hX d_Tr_add_125 (by first | rfl | assumption) ?_
        refine r_aret (o := some e) hX hR d_Tr_add_127 rfl (Or.inl ⟨_, rfl⟩) ?_
        refine Or.inr ⟨hn60, by rw [← hee]; rfl, ?_⟩
        have hfin : tr_added w wB n m p L As sf sd ad E PF so tg (some (ad kM)) ((E kM).2.2.2 1 + 1) := by
          refine tr_fin hes hm hpn hE0 he0 hp0 hea hee hE0e hpf0 hq0 hw0 (e := e) ?_ ?_ ?_ ?_ hB ?_ ?_ ?_
          · rw [hsB.2 108 (by simp; omega), ← hW9, ev_set_self]; rfl
          · rw [hsB.2 109 (by simp; omega), ← hW9, ev_set_ne _ _ (by decide)]; exact hT9.2.1
          · rw [hsB.2 110 (by simp; omega), ← hW9, ev_set_ne _ _ (by decide)]; exact hT9.2.2.1
          · rw [hsB.2 111 (by simp; omega), ← hW9, ev_set_ne _ _ (by decide)]; exact hT9.2.2.2
          · intro j hj
            have := (hes.1 j (by omega)).2.1
            rw [hsB.2 (ad j) (by simp; exact (hadd j hj).2.2), hQ9 _ (by omega) (by omega) (hadd j hj).2.2]
            exact hE1 j hj
          · intro q h1 h2 h3 h4
            rw [hsB.2 q (by simp; exact h3), hQ9 q h1 h2 h3]
            exact hQ1 q h2 h4
          · rw [hsB.1, ← hW9]; show w2.1 = _; rw [hs9.1, hw1]
        rw [hp] at hfin
        exact hfin
      | succ f ih =>
        intro k ls w1 e1 e2 hT1 hE1 hQ1 hw1 l0 l1 l2 l3 l4 l5 l6
        obtain ⟨u1, u2, u3, u4⟩ := hes.1 (k - 1) (by omega)
        have hk1 : nI k - 1 = nI (k - 1) := by rw [show k = (k - 1) + 1 by omega, nI_pred]; rfl
        have hcl : (nI (k - 1)).toNatClampNeg = k - 1 := nI_clamp (by omega)
        have hkl : w1.2 (ad (k - 1)) = some (el_C (ad (k - 1)) (E (k - 1))) := by rw [hE1 (k - 1) (by omega), if_neg (by omega)]
        refine r_iload hX d_Tr_add_71 (by first | rfl | assumption) ?_
        refine r_iload hX d_Tr_add_73 (by first | rfl | assumption) ?_
        refine r_icmp_le hX 99 d_Tr_add_75 (by decide) (fun c75 => absurd c75 (nI_ge (by omega) (by omega))) (fun _ => ?_)
        refine q_aload hX 0 d_Tr_add_78 rfl (by first | rfl | assumption) ?_
        refine r_iload hX d_Tr_add_79 (by first | rfl | assumption) ?_
        refine q_aload hX 0 d_Tr_add_81 rfl (by first | rfl | assumption) ?_
        refine r_getf hX d_Tr_add_82 fl_Tr_11 hT1.1 rfl ?_
        refine r_iload hX d_Tr_add_85 (by first | rfl | assumption) ?_
        refine r_iconst (v := 1) hX d_Tr_add_87 (by decide) ?_
        refine r_isub hX d_Tr_add_88 ?_
        refine r_aald hX d_Tr_add_89 hT1.2.1 rfl (by rw [hk1]; exact vp_in_nI (by omega) (by decide)) ?_
        rw [hk1, hcl, if_neg (by omega), u1]
        refine r_callV (as := [_, _]) hX d_Tr_add_90 lk_Tr_62 hT1.1 rfl rfl (Nat.le_of_ble_eq_true rfl) (by decide) 0 0 (Nat.le_refl _) (Nat.le_refl _) (c_Tr_putInLine (G := G) hT1 hn hsd hkl u2 k (by omega)) (fun v w2 hq => ?_)
        obtain ⟨rfl, hT9, hE9, hs9⟩ := hq
        refine r_iinc hX d_Tr_add_93 (by first | rfl | assumption) ?_
        refine r_goto hX 71 d_Tr_add_96 (by decide) ?_
        refine ih (k - 1) _ w2 (by omega) (by omega) ?_ ?_ ?_ (by rw [hs9.1, hw1]) l0 l1 l2 l3 l4 l5 (by show some (Value.int (nI k + Int32.ofInt (-1))) = _; rw [i_dec, hk1])
        · have hf : va_up (fun i => if k < i ∧ i ≤ n then L (i - 1) else L i) k (some (ad (k - 1))) = (fun i => if k - 1 < i ∧ i ≤ n then L (i - 1) else L i) := by
            funext i
            unfold va_up
            dsimp only
            by_cases z : i = k
            · subst z; rw [if_pos rfl, if_pos ⟨by omega, by omega⟩, u1]
            · rw [if_neg z]
              by_cases z2 : k < i ∧ i ≤ n
              · rw [if_pos z2, if_pos ⟨by omega, z2.2⟩]
              · rw [if_neg z2, if_neg (by omega)]
          rw [← hf]; exact hT9
        · intro j hj
          by_cases z : j = k - 1
          · subst z
            rw [hE9, if_pos (Nat.le_refl _), show k - 1 + 1 = k by omega]
          · have := (hes.1 j (by omega)).2.1
            rw [hs9.2 (ad j) (by simp; exact ⟨by omega, fun z2 => z (hes.2 j (k - 1) (by omega) (by omega) z2)⟩), hE1 j hj]
            by_cases z3 : k ≤ j
            · rw [if_pos z3, if_pos (by omega)]
            · rw [if_neg z3, if_neg (by omega)]
        · intro q h1 h2
          rw [hs9.2 q (by simp; exact ⟨h1, h2 (k - 1) (by omega)⟩)]
          exact hQ1 q h1 h2
    refine r_astore hX d_Tr_add_45 (by decide) ?_
    refine q_aload hX 1 d_Tr_add_47 rfl (by first | rfl | assumption) ?_
    refine r_ifnonnull hX 58 d_Tr_add_48 (by decide) ?_
    refine q_aload hX 0 d_Tr_add_58 rfl (by first | rfl | assumption) ?_
    refine q_aload hX 1 d_Tr_add_59 rfl (by first | rfl | assumption) ?_
    have hes0 : is_Es w0 n L ad E PF := ⟨fun i hi => ⟨(hes.1 i (by omega)).1, (hes.1 i (by omega)).2.1, (hadd i hi).1, (hadd i hi).2.1⟩, fun i j hi hj => hes.2 i j (by omega) (by omega)⟩
    refine r_callV (as := [_]) hX d_Tr_add_60 lk_Tr_37 hT0.1 rfl rfl (Nat.le_of_ble_eq_true rfl) (by decide) 0 0 (Nat.le_refl _) (Nat.le_refl _) (c_Tr_endOf (G := G) hT0 hn hsd hes0 (Nat.le_refl _) hkM hnum) (fun v w1 hq => ?_)
    obtain ⟨rfl, hw⟩ := hq
    rw [hw]
    refine r_istore hX d_Tr_add_63 (by decide) ?_
    refine q_aload hX 0 d_Tr_add_65 rfl (by first | rfl | assumption) ?_
    refine r_getf hX d_Tr_add_66 fl_Tr_24 hT0.1 rfl ?_
    refine r_istore hX d_Tr_add_69 (by decide) ?_
    refine loop (n - p) n _ w0 (by omega) (Nat.le_refl _) ?_ (fun j hj => by rw [(hadd j hj).1, if_neg (by omega)]) (fun q _ _ => rfl) rfl l0 l1 l2 l3 rfl (by rw [hp]; rfl) rfl
    have hf : (fun i => if n < i ∧ i ≤ n then L (i - 1) else L i) = L := by funext i; rw [if_neg (by omega)]
    rw [hf]; exact hT0
  refine q_aload hX 0 d_Tr_add_0 rfl (by first | rfl | assumption) ?_
  refine r_getf hX d_Tr_add_1 fl_Tr_24 htr.1 rfl ?_
  refine q_aload hX 0 d_Tr_add_4 rfl (by first | rfl | assumption) ?_
  refine r_getf hX d_Tr_add_5 fl_Tr_11 htr.1 rfl ?_
  refine r_alen hX d_Tr_add_8 htr.2.1 rfl ?_
  refine r_icmp_lt hX 14 d_Tr_add_9 (by decide) (fun c9 => ?_) (fun c9 => ?_)
  · have hn60 : n < 60 := by rw [i_lt, nI_toInt (by omega), show (nI 60).toInt = 60 from rfl] at c9; omega
    have hcl : (nI n).toNatClampNeg = n := nI_clamp (by omega)
    by_cases hnm : n < m
    · obtain ⟨u1, u2, u3, u4⟩ := hes.1 n hnm
      refine q_aload hX 0 d_Tr_add_14 rfl (by first | rfl | assumption) ?_
      refine r_getf hX d_Tr_add_15 fl_Tr_11 htr.1 rfl ?_
      refine q_aload hX 0 d_Tr_add_18 rfl (by first | rfl | assumption) ?_
      refine r_getf hX d_Tr_add_19 fl_Tr_24 htr.1 rfl ?_
      refine r_aald hX d_Tr_add_22 htr.2.1 rfl (vp_in_nI hn60 (by decide)) ?_
      rw [hcl, u1]
      refine r_ifnonnull hX 36 d_Tr_add_23 (by decide) ?_
      refine q_aload hX 0 d_Tr_add_36 rfl (by first | rfl | assumption) ?_
      refine r_getf hX d_Tr_add_37 fl_Tr_11 htr.1 rfl ?_
      refine q_aload hX 0 d_Tr_add_40 rfl (by first | rfl | assumption) ?_
      refine r_getf hX d_Tr_add_41 fl_Tr_24 htr.1 rfl ?_
      refine r_aald hX d_Tr_add_44 htr.2.1 rfl (vp_in_nI hn60 (by decide)) ?_
      rw [hcl, u1]
      refine r_less (bc' := 0) (bs' := 0) (Nat.zero_le _) (Nat.zero_le _) ?_
      exact fin (ad n) (E n) (PF n) w htr hn60 (fun j h1 h2 => ⟨(hes.1 j h1).2.2.1, (hes.1 j h1).2.2.2, fun z => h2 (hes.2 j n h1 hnm z)⟩) u3 u4 u2 (by rw [tr_e, if_pos hnm]) (by rw [tr_e, if_pos hnm]) (by rw [tr_e, if_pos hnm]) (fun _ _ => rfl) (by rw [if_pos hnm]) _ rfl rfl rfl rfl
    · skip
      refine q_aload hX 0 d_Tr_add_14 rfl (by first | rfl | assumption) ?_
      refine r_getf hX d_Tr_add_15 fl_Tr_11 htr.1 rfl ?_
      refine q_aload hX 0 d_Tr_add_18 rfl (by first | rfl | assumption) ?_
      refine r_getf hX d_Tr_add_19 fl_Tr_24 htr.1 rfl ?_
      refine r_aald hX d_Tr_add_22 htr.2.1 rfl (vp_in_nI hn60 (by decide)) ?_
      rw [hcl, hfree n (by omega) hn60]
      refine r_ifnonnullN hX d_Tr_add_23 ?_
      refine r_wf (fun hwf => ?_)
      refine r_new (bc' := 1) (bs' := 16) (N := 17) (ci := 3) (fs := [.null, .int 0, .null, .int 0, .int 0, .long 0, .null, .int 0, .int 0, .int 0, .int 0, .int 0, .int 0, .int 0, .int 0, .int 0, .int 0]) hX d_Tr_add_26 nw_Tr_9 (by decide) (by decide) (fun hlo hfr => ?_)
      refine r_dup hX d_Tr_add_29 rfl ?_
      refine r_callIN (as := []) hX d_Tr_add_30 lk_Tr_61 rfl (Nat.le_of_ble_eq_true rfl) (by decide) 0 0 (by decide) (by decide) (c_El_init (G := G) (a := w.1) (w := ev_new w _) (ev_new_self _ _) (by omega) rfl) (fun v w1 hq => ?_)
      obtain ⟨rfl, q1, q2, q3, q4⟩ := hq
      refine r_goto hX 45 d_Tr_add_33 (by decide) ?_
      have hold : ∀ j, j < m → ad j ≠ w.1 ∧ ad j ≠ w.1 + 1 ∧ ad j + 1 ≠ w.1 ∧ ad j + 1 ≠ w.1 + 1 := fun j hj => by
        have h3 := (hes.1 j hj).2.2.1
        have h4 := (hes.1 j hj).2.2.2
        refine ⟨fun z => ?_, fun z => ?_, fun z => ?_, fun z => ?_⟩
        · rw [z, hwf _ (Nat.le_refl _)] at h3; cases h3
        · rw [z, hwf _ (by omega)] at h3; cases h3
        · rw [z, hwf _ (Nat.le_refl _)] at h4; cases h4
        · rw [z, hwf _ (by omega)] at h4; cases h4
      have hkeep : ∀ q, q ≠ w.1 → q ≠ w.1 + 1 → w1.2 q = w.2 q := fun q h1 h2 => by rw [q4 q h1 h2, ev_new_ne _ _ h1]
      refine fin w.1 tr_e0 (fun _ => 0) w1 ⟨?_, ?_, ?_, ?_⟩ hn60 (fun j h1 h2 => ?_) q2 q3 hw139 (by rw [tr_e, if_neg (by omega)]) (by rw [tr_e, if_neg (by omega)]) (by rw [tr_e, if_neg (by omega)]) (fun q hq => hkeep q (by omega) (by omega)) (by rw [if_neg (by omega), q1]; rfl) _ rfl rfl rfl rfl
      · rw [hkeep _ (by omega) (by omega)]; exact htr.1
      · rw [hkeep _ (by omega) (by omega)]; exact htr.2.1
      · rw [hkeep _ (by omega) (by omega)]; exact htr.2.2.1
      · rw [hkeep _ (by omega) (by omega)]; exact htr.2.2.2
      · obtain ⟨o1, o2, o3, o4⟩ := hold j h1
        exact ⟨by rw [hkeep _ o1 o2]; exact (hes.1 j h1).2.2.1, by rw [hkeep _ o3 o4]; exact (hes.1 j h1).2.2.2, o1⟩
  · refine r_null hX d_Tr_add_12 ?_
    refine r_aret (o := none) hX hR d_Tr_add_13 rfl (Or.inl ⟨_, rfl⟩) ?_
    exact Or.inl ⟨by rw [i_lt, nI_toInt (by omega), show (nI 60).toInt = 60 from rfl] at c9; omega, rfl, rfl⟩
