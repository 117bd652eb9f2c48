/-! ===== the reference: first, moment, isBlockOf, seek, jump ===== -/
theorem mdl.mi31 {I : Nat → Int32} {A : Ev_A} {S : Ev_S} {D : Nat → Ev_D} {sf : Nat → Int32} {sd : Nat} (hm : mdl I A S D sf sd) {i : Nat} (hi : i < sn S) : ∀ x, si S i = some x → x < i ∧ x < 2 ^ 31 := fun x hx => by
  have h1 := ((hm.2.2.2.2.1 i hi).2.2.2 x hx).1
  have h2 := hm.2.1
  omega
theorem mdl.tg {I : Nat → Int32} {A : Ev_A} {S : Ev_S} {D : Nat → Ev_D} {sf : Nat → Int32} {sd : Nat} (hm : mdl I A S D sf sd) {i s : Nat} (hi : i < sn S) (hs : s < 16) : A.1 118 i = so_tg s ↔ (sE S i).1 = s := by
  obtain ⟨h1, h2, h3⟩ := hm.2.2.2.2.2.2.1 i hi
  rw [h2.1, h1.1]
  exact tg_iff hs
theorem mdl.ms {I : Nat → Int32} {A : Ev_A} {S : Ev_S} {D : Nat → Ev_D} {sf : Nat → Int32} {sd : Nat} (hm : mdl I A S D sf sd) {i j : Nat} (hi : i < sn S) (hj : j < 2 ^ 31) : A.1 119 i = nI j ↔ si S i = some j := by
  rw [(hm.2.2.2.2.2.2.1 i hi).2.2]
  exact o_i_eq hj (fun x hx => (hm.mi31 hi x hx).2)
theorem c_Mo_first {G : Ev_G} {w : Ev_W} {I : Nat → Int32} {v0 : Int64} {A : Ev_A} (hM : is_M w I v0 A) {S : Ev_S} {D : Nat → Ev_D} {sf : Nat → Int32} {sd : Nat} (hm : mdl I A S D sf sd) {j s : Nat} (hj : j < 2 ^ 31) (hs : s < 16) (hs1 : so_fm s = 1) : ev_Met G M_Mo_first 0 0 0 [.ref 117, .int (nI j), .int (so_tg s)] w (fun v w' => v = some (.long (sc_v (sE S) (sc_f (mp_f (sE S) (si S) j s) (sn S) 0))) ∧ w' = w) := by
  refine ev_Met.of md_Mo_first (Nat.le_of_ble_eq_true rfl) (fun X hX hR => ?_)
  obtain ⟨hc, hn, hu, hsd, hpo, hpl, hrow, hhp⟩ := id hm
  have loop : ∀ (t i : Nat) (ls : Ev_L), i + t = sn S → sc_f (mp_f (sE S) (si S) j s) t i = sc_f (mp_f (sE S) (si S) j s) (sn S) 0 → ls.1 0 = some (.ref 117) → ls.1 1 = some (.int (nI j)) → ls.1 2 = some (.int (so_tg s)) → ls.1 3 = some (.int (nI i)) → ev_W G M_Mo_first X 0 0 2 ls [] w := by
    intro t
    induction t with
    | zero =>
      intro i ls e1 e2 l0 l1 l2 l3
      refine q_iload hX 3 d_Mo_first_2 rfl (by first | rfl | assumption) ?_
      refine q_aload hX 0 d_Mo_first_3 rfl (by first | rfl | assumption) ?_
      refine r_getm (J := 0) (x := nI (sn S)) hX d_Mo_first_4 fl_Mo_86 hM hc rfl ?_
      refine r_icmp_ge hX 43 d_Mo_first_7 (by decide) (fun _ => ?_) (fun c7 => absurd (nI_le (by omega) (by omega)) c7)
      refine r_lconst (v := 0) hX d_Mo_first_43 (by decide) ?_
      refine r_lret hX hR d_Mo_first_44 rfl ?_
      exact ⟨by rw [← e2]; rfl, rfl⟩
    | succ t ih =>
      intro i ls e1 e2 l0 l1 l2 l3
      have hi : i < sn S := by omega
      have h1 := hm.ms hi hj
      have h2 := hm.tg hi hs
      refine q_iload hX 3 d_Mo_first_2 rfl (by first | rfl | assumption) ?_
      refine q_aload hX 0 d_Mo_first_3 rfl (by first | rfl | assumption) ?_
      refine r_getm (J := 0) (x := nI (sn S)) hX d_Mo_first_4 fl_Mo_86 hM hc rfl ?_
      refine r_icmp_ge hX 43 d_Mo_first_7 (by decide) (fun c7 => absurd c7 (nI_ge (by omega) (by omega))) (fun _ => ?_)
      refine q_aload hX 0 d_Mo_first_10 rfl (by first | rfl | assumption) ?_
      refine r_getf hX d_Mo_first_11 fl_Mo_13 hM.1 rfl ?_
      refine q_iload hX 3 d_Mo_first_14 rfl (by first | rfl | assumption) ?_
      refine r_ialdm (c := 119) (x := _) hX d_Mo_first_15 hM rfl rfl (by omega) rfl ?_
      refine q_iload hX 1 d_Mo_first_16 rfl (by first | rfl | assumption) ?_
      refine r_icmp_ne hX 37 d_Mo_first_17 (by decide) (fun c17 => ?_) (fun c17 => ?_)
      · refine r_iinc hX d_Mo_first_37 (by first | rfl | assumption) ?_
        refine r_goto hX 2 d_Mo_first_40 (by decide) ?_
        exact ih (i + 1) _ (by omega) (by rw [← e2, sc_f, if_neg (fun z => c17 (h1.mpr (of_decide_eq_true z).1))]) l0 l1 l2 (by show some (Value.int (nI i + Int32.ofInt 1)) = _; rw [show Int32.ofInt 1 = 1 from rfl, nI_1])
      · refine q_aload hX 0 d_Mo_first_20 rfl (by first | rfl | assumption) ?_
        refine r_getf hX d_Mo_first_21 fl_Mo_7 hM.1 rfl ?_
        refine q_iload hX 3 d_Mo_first_24 rfl (by first | rfl | assumption) ?_
        refine r_ialdm (c := 118) (x := _) hX d_Mo_first_25 hM rfl rfl (by omega) rfl ?_
        refine q_iload hX 2 d_Mo_first_26 rfl (by first | rfl | assumption) ?_
        refine r_icmp_ne hX 37 d_Mo_first_27 (by decide) (fun c27 => ?_) (fun c27 => ?_)
        · refine r_iinc hX d_Mo_first_37 (by first | rfl | assumption) ?_
          refine r_goto hX 2 d_Mo_first_40 (by decide) ?_
          exact ih (i + 1) _ (by omega) (by rw [← e2, sc_f, if_neg (fun z => c27 (h2.mpr (of_decide_eq_true z).2))]) l0 l1 l2 (by show some (Value.int (nI i + Int32.ofInt 1)) = _; rw [show Int32.ofInt 1 = 1 from rfl, nI_1])
        · refine q_aload hX 0 d_Mo_first_30 rfl (by first | rfl | assumption) ?_
          refine r_getf hX d_Mo_first_31 fl_Mo_16 hM.1 rfl ?_
          refine q_iload hX 3 d_Mo_first_34 rfl (by first | rfl | assumption) ?_
          refine r_laldm (x := _) hX d_Mo_first_35 hM rfl (by omega) rfl ?_
          refine r_lret hX hR d_Mo_first_36 rfl ?_
          have h3 : (sE S i).1 = s := h2.mp c27
          exact ⟨by rw [← e2, sc_f, if_pos (show mp_f (sE S) (si S) j s i = true from decide_eq_true ⟨h1.mp c17, h3⟩)]; show some (Value.long (A.2 i)) = some (Value.long (sE S i).2.2.1); rw [(hrow i hi).2.1.2.1 (by rw [h3]; exact hs1)], rfl⟩
  refine r_iconst (v := 0) hX d_Mo_first_0 (by decide) ?_
  refine q_istore hX 3 d_Mo_first_1 rfl (by decide) ?_
  exact loop (sn S) 0 _ (by omega) rfl rfl rfl rfl rfl
theorem c_Mo_moment {G : Ev_G} {w : Ev_W} {I : Nat → Int32} {v0 : Int64} {A : Ev_A} (hM : is_M w I v0 A) {S : Ev_S} {D : Nat → Ev_D} {sf : Nat → Int32} {sd : Nat} (hm : mdl I A S D sf sd) {b : Nat} (hb : b < sn S) (h9 : (sE S b).1 = 9) : ev_Met G M_Mo_moment 1 0 0 [.ref 117, .int (nI b)] w (fun v w' => v = some (.long (fi_mom (sE S) (si S) (sn S) b)) ∧ w' = w) := by
  refine ev_Met.of md_Mo_moment (Nat.le_of_ble_eq_true rfl) (fun X hX hR => ?_)
  obtain ⟨hc, hn, hu, hsd, hpo, hpl, hrow, hhp⟩ := id hm
  obtain ⟨j, k, g1, g2, g3, g4, g5, g6⟩ := bl_mi hpo hpl hb h9
  have hfm : so_fm (sE S b).1 = 3 := by rw [h9]; rfl
  refine q_aload hX 0 d_Mo_moment_0 rfl (by first | rfl | assumption) ?_
  refine q_aload hX 0 d_Mo_moment_1 rfl (by first | rfl | assumption) ?_
  refine r_getf hX d_Mo_moment_2 fl_Mo_13 hM.1 rfl ?_
  refine q_iload hX 1 d_Mo_moment_5 rfl (by first | rfl | assumption) ?_
  refine r_ialdm (c := 119) (x := nI j) hX d_Mo_moment_6 hM rfl rfl (by omega) ((hm.ms hb (by omega)).mpr g1) ?_
  refine r_sipush (v := 231) hX d_Mo_moment_7 (by decide) ?_
  refine r_callV (as := [_, _]) hX d_Mo_moment_10 lk_Mo_266 hM.1 rfl rfl (Nat.le_of_ble_eq_true rfl) (by decide) 0 0 (Nat.le_refl _) (Nat.le_refl _) (c_Mo_first (G := G) hM hm (j := j) (s := 8) (by omega) (by decide) (by decide)) (fun v w1 hq => ?_)
  obtain ⟨rfl, hw⟩ := hq
  rw [hw]
  refine q_aload hX 0 d_Mo_moment_13 rfl (by first | rfl | assumption) ?_
  refine r_getf hX d_Mo_moment_14 fl_Mo_29 hM.1 rfl ?_
  refine q_iload hX 1 d_Mo_moment_17 rfl (by first | rfl | assumption) ?_
  refine r_ialdm (c := 124) (x := (sE S b).2.2.2 6) hX d_Mo_moment_18 hM rfl rfl (by omega) ((hrow b hb).2.1.2.2.2.2.1 hfm).2.1 ?_
  refine r_i2l hX d_Mo_moment_19 ?_
  refine r_ladd hX d_Mo_moment_20 ?_
  refine r_lret hX hR d_Mo_moment_21 rfl ?_
  exact ⟨by rw [fi_mom, g1]; dsimp only; rw [fn_mp hn hpo hpl (by omega) (by rw [g3]; decide)], rfl⟩
theorem c_Mo_isBlockOf {G : Ev_G} {w : Ev_W} {I : Nat → Int32} {v0 : Int64} {A : Ev_A} (hM : is_M w I v0 A) {S : Ev_S} {D : Nat → Ev_D} {sf : Nat → Int32} {sd : Nat} (hm : mdl I A S D sf sd) {i k : Nat} (hi : i < sn S) (hk : k < 2 ^ 31) : ev_Met G M_Mo_isBlockOf 2 0 0 [.ref 117, .int (nI i), .int (nI k)] w (fun v w' => v = some (.int (b_i (mp_b (sE S) (si S) k i))) ∧ w' = w) := by
  refine ev_Met.of md_Mo_isBlockOf (Nat.le_of_ble_eq_true rfl) (fun X hX hR => ?_)
  obtain ⟨hc, hn, hu, hsd, hpo, hpl, hrow, hhp⟩ := id hm
  have hix : ix (sn S) (nI i) = some i := ix_nI hi (by omega)
  by_cases h9 : (sE S i).1 = 9
  · obtain ⟨j, k2, g1, g2, g3, g4, g5, g6⟩ := bl_mi hpo hpl hi h9
    have hb : b_i (mo_is A (sn S) (nI i) 163) = 1 := by
      rw [mo_is, hix]; dsimp only; rw [decide_eq_true (show A.1 118 i = 163 from (hm.tg hi (s := 9) (by decide)).mpr h9)]; rfl
    have hmp : mp_b (sE S) (si S) k i = decide (si S j = some k) := by
      rw [mp_b, decide_eq_true h9, Bool.true_and, g1]
    refine q_aload hX 0 d_Mo_isBlockOf_0 rfl (by first | rfl | assumption) ?_
    refine q_iload hX 1 d_Mo_isBlockOf_1 rfl (by first | rfl | assumption) ?_
    refine r_sipush (v := 163) hX d_Mo_isBlockOf_2 (by decide) ?_
    refine r_callV (as := [_, _]) hX d_Mo_isBlockOf_5 lk_Mo_208 hM.1 rfl rfl (Nat.le_of_ble_eq_true rfl) (by decide) 0 0 (Nat.le_refl _) (Nat.le_refl _) (c_Mo_is (G := G) hM hc hn (nI i) 163) (fun v w1 hq => ?_)
    obtain ⟨rfl, hw⟩ := hq
    rw [hw]
    rw [hb]
    refine r_if_eq hX 30 d_Mo_isBlockOf_8 (by decide) (fun c8 => absurd c8 (by decide)) (fun _ => ?_)
    refine q_aload hX 0 d_Mo_isBlockOf_11 rfl (by first | rfl | assumption) ?_
    refine r_getf hX d_Mo_isBlockOf_12 fl_Mo_13 hM.1 rfl ?_
    refine q_aload hX 0 d_Mo_isBlockOf_15 rfl (by first | rfl | assumption) ?_
    refine r_getf hX d_Mo_isBlockOf_16 fl_Mo_13 hM.1 rfl ?_
    refine q_iload hX 1 d_Mo_isBlockOf_19 rfl (by first | rfl | assumption) ?_
    refine r_ialdm (c := 119) (x := nI j) hX d_Mo_isBlockOf_20 hM rfl rfl (by omega) ((hm.ms hi (by omega)).mpr g1) ?_
    refine r_ialdm (c := 119) (x := _) hX d_Mo_isBlockOf_21 hM rfl rfl (by omega) rfl ?_
    refine q_iload hX 2 d_Mo_isBlockOf_22 rfl (by first | rfl | assumption) ?_
    refine r_icmp_ne hX 30 d_Mo_isBlockOf_23 (by decide) (fun c23 => ?_) (fun c23 => ?_)
    · refine r_iconst (v := 0) hX d_Mo_isBlockOf_30 (by decide) ?_
      refine r_iret hX hR d_Mo_isBlockOf_31 rfl (by first | rfl | assumption) ?_
      exact ⟨by rw [hmp, decide_eq_false (fun z => c23 ((hm.ms (by omega) hk).mpr z))]; rfl, rfl⟩
    · refine r_iconst (v := 1) hX d_Mo_isBlockOf_26 (by decide) ?_
      refine r_goto hX 31 d_Mo_isBlockOf_27 (by decide) ?_
      refine r_iret hX hR d_Mo_isBlockOf_31 rfl (by first | rfl | assumption) ?_
      exact ⟨by rw [hmp, decide_eq_true ((hm.ms (by omega) hk).mp c23)]; rfl, rfl⟩
  · have hb : b_i (mo_is A (sn S) (nI i) 163) = 0 := by
      rw [mo_is, hix]; dsimp only; rw [decide_eq_false (show ¬ A.1 118 i = 163 from fun z => h9 ((hm.tg hi (s := 9) (by decide)).mp z))]; rfl
    refine q_aload hX 0 d_Mo_isBlockOf_0 rfl (by first | rfl | assumption) ?_
    refine q_iload hX 1 d_Mo_isBlockOf_1 rfl (by first | rfl | assumption) ?_
    refine r_sipush (v := 163) hX d_Mo_isBlockOf_2 (by decide) ?_
    refine r_callV (as := [_, _]) hX d_Mo_isBlockOf_5 lk_Mo_208 hM.1 rfl rfl (Nat.le_of_ble_eq_true rfl) (by decide) 0 0 (Nat.le_refl _) (Nat.le_refl _) (c_Mo_is (G := G) hM hc hn (nI i) 163) (fun v w1 hq => ?_)
    obtain ⟨rfl, hw⟩ := hq
    rw [hw]
    rw [hb]
    refine r_if_eq hX 30 d_Mo_isBlockOf_8 (by decide) (fun _ => ?_) (fun c8 => absurd rfl c8)
    refine r_iconst (v := 0) hX d_Mo_isBlockOf_30 (by decide) ?_
    refine r_iret hX hR d_Mo_isBlockOf_31 rfl (by first | rfl | assumption) ?_
    exact ⟨by rw [mp_b, decide_eq_false h9]; rfl, rfl⟩
theorem seg_is {I : Nat → Int32} {A : Ev_A} {S : Ev_S} {D : Nat → Ev_D} {sf : Nat → Int32} {sd : Nat} (hm : mdl I A S D sf sd) (k : Int32) : mo_is A (sn S) k 408125543 = (ef_seg (sE S) (sn S) k).isSome := by
  have hn := hm.2.1
  rcases ix_cases (n := sn S) (by omega) k with ⟨j, hj, rfl, hix⟩ | ⟨hix, hno⟩
  · rw [ef_seg, mo_is, hix]; dsimp only
    by_cases h : (sE S j).1 = 1
    · rw [if_pos h, decide_eq_true (show A.1 118 j = 408125543 from (hm.tg hj (s := 1) (by decide)).mpr h)]; rfl
    · rw [if_neg h, decide_eq_false (show ¬ A.1 118 j = 408125543 from fun z => h ((hm.tg hj (s := 1) (by decide)).mp z))]; rfl
  · rw [ef_seg, mo_is, hix]; rfl
def mp_s (S : Ev_S) (k : Nat) (tr : Int32) (mo : Int64) (x : Nat) : Bool := mp_b (sE S) (si S) k x && decide (¬ (sE S x).2.2.2 7 = 0 ∧ (sE S x).2.2.2 5 = tr ∧ (fi_mom (sE S) (si S) (sn S) x).toInt ≤ mo.toInt)
theorem fb_sc {n : Nat} {E : Nat → Ev_E} {mi : Nat → Option Nat} {tr : Int32} {mo : Int64} {k : Nat} {p : Nat → Bool} (h0 : ∀ x, x ≤ k → p x = false) : ∀ f, (∀ x, k < x → x < k + 1 + f → (p x = true ↔ ((E x).1 = 9 ∧ ¬ (E x).2.2.2 7 = 0 ∧ (E x).2.2.2 5 = tr ∧ (fi_mom E mi n x).toInt ≤ mo.toInt))) → fi_fb E mi n tr mo k f = sc_l p (k + 1 + f)
  | 0, h => (sc_l_no _ (fun x hx => h0 x (by omega))).symm
  | f + 1, h => by
    have h1 := h (k + 1 + f) (by omega) (by omega)
    have h2 := fb_sc (tr := tr) (mo := mo) (E := E) (mi := mi) (n := n) h0 f (fun x g1 g2 => h x g1 (by omega))
    rw [fi_fb, show k + 1 + (f + 1) = (k + 1 + f) + 1 by omega, sc_l]
    by_cases z : p (k + 1 + f) = true
    · rw [if_pos z, if_pos (h1.mp z)]
    · rw [if_neg z, if_neg (fun y => z (h1.mpr y)), h2]
theorem sk_sc {I : Nat → Int32} {A : Ev_A} {S : Ev_S} {D : Nat → Ev_D} {sf : Nat → Int32} {sd : Nat} (hm : mdl I A S D sf sd) {k : Nat} (hk : k < sn S) (h1 : (sE S k).1 = 1) (tr : Int32) (mo : Int64) : sc_l (mp_s S k tr mo) (sn S) = fi_fb (sE S) (si S) (sn S) tr mo k (tr_end (el_lev (sE S)) (sn S) k - (k + 1)) := by
  obtain ⟨hc, hn, hu, hsd, hpo, hpl, hrow, hhp⟩ := hm
  obtain ⟨b1, b2, b3, b4⟩ := tr_end_spec hn hpo hk
  have hb := fun i (hi : i < sn S) => mp_b_iff hn hpo hpl hk h1 hi
  rw [fb_sc (p := mp_s S k tr mo) (fun x hx => ?_) _ (fun x g1 g2 => ?_), show k + 1 + (tr_end (el_lev (sE S)) (sn S) k - (k + 1)) = tr_end (el_lev (sE S)) (sn S) k by omega]
  · refine sc_l_end _ b2 (fun x g1 g2 => ?_)
    cases hz : mp_s S k tr mo x with
    | false => rfl
    | true =>
      have := ((hb x g2).mp (Bool.and_eq_true _ _ ▸ hz).1).2; omega
  · cases hz : mp_s S k tr mo x with
    | false => rfl
    | true =>
      have := ((hb x (by omega)).mp (Bool.and_eq_true _ _ ▸ hz).1).2; omega
  · unfold mp_s
    rw [Bool.and_eq_true, decide_eq_true_eq, hb x (by omega)]
    constructor
    · intro z; exact ⟨z.1.1, z.2⟩
    · intro z; exact ⟨⟨z.1, by omega, by omega⟩, z.2⟩
theorem c_Mo_seek {G : Ev_G} {w : Ev_W} {I : Nat → Int32} {v0 : Int64} {A : Ev_A} (hM : is_M w I v0 A) {S : Ev_S} {D : Nat → Ev_D} {sf : Nat → Int32} {sd : Nat} (hm : mdl I A S D sf sd) (k tr : Int32) (mo : Int64) : ev_Met G M_Mo_seek 3 0 0 [.ref 117, .int k, .int tr, .long mo] w (fun v w' => v = some (.int (match ef_seg (sE S) (sn S) k with | none => -1 | some j => o_i (fi_fb (sE S) (si S) (sn S) tr mo j (tr_end (el_lev (sE S)) (sn S) j - (j + 1))))) ∧ w' = w) := by
  refine ev_Met.of md_Mo_seek (Nat.le_of_ble_eq_true rfl) (fun X hX hR => ?_)
  obtain ⟨hc, hn, hu, hsd, hpo, hpl, hrow, hhp⟩ := id hm
  rcases ef_seg_c (sE S) hn k with ⟨j, hj, hsg, hs1, rfl⟩ | hsg
  · have loop : ∀ (t i : Nat) (ls : Ev_L), i + t = sn S → ls.1 0 = some (.ref 117) → ls.1 1 = some (.int (nI j)) → ls.1 2 = some (.int tr) → ls.2 3 = some mo → ls.1 5 = some (.int (o_i (sc_l (mp_s S j tr mo) i))) → ls.1 6 = some (.int (nI i)) → ev_W G M_Mo_seek X 0 0 6 ls [] w := by
      intro t
      induction t with
      | zero =>
        intro i ls e1 l0 l1 l2 l3 l5 l6
        have e1 : i = sn S := e1
        subst e1
        refine r_iload hX d_Mo_seek_6 (by first | rfl | assumption) ?_
        refine q_aload hX 0 d_Mo_seek_8 rfl (by first | rfl | assumption) ?_
        refine r_getm (J := 0) (x := nI (sn S)) hX d_Mo_seek_9 fl_Mo_86 hM hc rfl ?_
        refine r_icmp_ge hX 82 d_Mo_seek_12 (by decide) (fun _ => ?_) (fun c12 => absurd (nI_le (by omega) (by omega)) c12)
        refine r_iload hX d_Mo_seek_82 (by first | rfl | assumption) ?_
        refine r_iret hX hR d_Mo_seek_84 rfl (by first | rfl | assumption) ?_
        exact ⟨by rw [hsg]; dsimp only; rw [sk_sc hm hj hs1], rfl⟩
      | succ t ih =>
        intro i ls e1 l0 l1 l2 l3 l5 l6
        have hi : i < sn S := by omega
        refine r_iload hX d_Mo_seek_6 (by first | rfl | assumption) ?_
        refine q_aload hX 0 d_Mo_seek_8 rfl (by first | rfl | assumption) ?_
        refine r_getm (J := 0) (x := nI (sn S)) hX d_Mo_seek_9 fl_Mo_86 hM hc rfl ?_
        refine r_icmp_ge hX 82 d_Mo_seek_12 (by decide) (fun c12 => absurd c12 (nI_ge (by omega) (by omega))) (fun _ => ?_)
        refine q_aload hX 0 d_Mo_seek_15 rfl (by first | rfl | assumption) ?_
        refine q_iload hX 1 d_Mo_seek_16 rfl (by first | rfl | assumption) ?_
        refine r_ldc hX d_Mo_seek_17 m_682 ?_
        refine r_callV (as := [_, _]) hX d_Mo_seek_19 lk_Mo_208 hM.1 rfl rfl (Nat.le_of_ble_eq_true rfl) (by decide) 0 0 (Nat.le_refl _) (Nat.le_refl _) (c_Mo_is (G := G) hM hc hn _ 408125543) (fun v w1 hq => ?_)
        obtain ⟨rfl, hw⟩ := hq
        rw [hw]
        rw [seg_is hm, hsg]
        rw [show b_i (some j : Option Nat).isSome = 1 from rfl]
        refine r_if_eq hX 82 d_Mo_seek_22 (by decide) (fun c22 => absurd c22 (by decide)) (fun _ => ?_)
        refine q_aload hX 0 d_Mo_seek_25 rfl (by first | rfl | assumption) ?_
        refine r_iload hX d_Mo_seek_26 (by first | rfl | assumption) ?_
        refine q_iload hX 1 d_Mo_seek_28 rfl (by first | rfl | assumption) ?_
        refine r_callV (as := [_, _]) hX d_Mo_seek_29 lk_Mo_270 hM.1 rfl rfl (Nat.le_of_ble_eq_true rfl) (by decide) 0 0 (Nat.le_refl _) (Nat.le_refl _) (c_Mo_isBlockOf (G := G) hM hm (i := i) (k := j) hi (by omega)) (fun v w1 hq => ?_)
        obtain ⟨rfl, hw⟩ := hq
        rw [hw]
        refine r_if_eq hX 72 d_Mo_seek_32 (by decide) (fun c32 => ?_) (fun c32 => ?_)
        · refine r_iload hX d_Mo_seek_72 (by first | rfl | assumption) ?_
          refine r_istore hX d_Mo_seek_74 (by decide) ?_
          refine r_iinc hX d_Mo_seek_76 (by first | rfl | assumption) ?_
          refine r_goto hX 6 d_Mo_seek_79 (by decide) ?_
          have hp0 : ¬ mp_s S j tr mo i = true := fun z => by
            rw [mp_s, Bool.and_eq_true, decide_eq_true_eq] at z
            rw [z.1] at c32; exact absurd c32 (by decide)
          exact ih (i + 1) _ (by omega) l0 l1 l2 l3 (by show some (Value.int _) = _; rw [sc_l, if_neg hp0]) (by show some (Value.int (nI i + Int32.ofInt 1)) = _; rw [show Int32.ofInt 1 = 1 from rfl, nI_1])
        · refine q_aload hX 0 d_Mo_seek_35 rfl (by first | rfl | assumption) ?_
          refine r_getf hX d_Mo_seek_36 fl_Mo_32 hM.1 rfl ?_
          refine r_iload hX d_Mo_seek_39 (by first | rfl | assumption) ?_
          refine r_zaldm (c := 125) (x := _) hX d_Mo_seek_41 hM rfl rfl (by omega) rfl ?_
          refine r_if_eq hX 72 d_Mo_seek_42 (by decide) (fun c42 => ?_) (fun c42 => ?_)
          · refine r_iload hX d_Mo_seek_72 (by first | rfl | assumption) ?_
            refine r_istore hX d_Mo_seek_74 (by decide) ?_
            refine r_iinc hX d_Mo_seek_76 (by first | rfl | assumption) ?_
            refine r_goto hX 6 d_Mo_seek_79 (by decide) ?_
            have hb : mp_b (sE S) (si S) j i = true := by
              cases hz : mp_b (sE S) (si S) j i with
              | false => rw [hz] at c32; exact absurd rfl c32
              | true => rfl
            have hfm : so_fm (sE S i).1 = 3 := by rw [((mp_b_iff hn hpo hpl hj hs1 hi).mp hb).1]; rfl
            obtain ⟨q1, q2, q3, q4, q5⟩ := (hrow i hi).2.1.2.2.2.2.1 hfm
            have hp0 : ¬ mp_s S j tr mo i = true := fun z => by
              rw [mp_s, Bool.and_eq_true, decide_eq_true_eq] at z
              exact z.2.1 (q3 ▸ c42)
            exact ih (i + 1) _ (by omega) l0 l1 l2 l3 (by show some (Value.int _) = _; rw [sc_l, if_neg hp0]) (by show some (Value.int (nI i + Int32.ofInt 1)) = _; rw [show Int32.ofInt 1 = 1 from rfl, nI_1])
          · refine q_aload hX 0 d_Mo_seek_45 rfl (by first | rfl | assumption) ?_
            refine r_getf hX d_Mo_seek_46 fl_Mo_26 hM.1 rfl ?_
            refine r_iload hX d_Mo_seek_49 (by first | rfl | assumption) ?_
            refine r_ialdm (c := 123) (x := _) hX d_Mo_seek_51 hM rfl rfl (by omega) rfl ?_
            refine q_iload hX 2 d_Mo_seek_52 rfl (by first | rfl | assumption) ?_
            refine r_icmp_ne hX 72 d_Mo_seek_53 (by decide) (fun c53 => ?_) (fun c53 => ?_)
            · refine r_iload hX d_Mo_seek_72 (by first | rfl | assumption) ?_
              refine r_istore hX d_Mo_seek_74 (by decide) ?_
              refine r_iinc hX d_Mo_seek_76 (by first | rfl | assumption) ?_
              refine r_goto hX 6 d_Mo_seek_79 (by decide) ?_
              have hb : mp_b (sE S) (si S) j i = true := by
                cases hz : mp_b (sE S) (si S) j i with
                | false => rw [hz] at c32; exact absurd rfl c32
                | true => rfl
              have hfm : so_fm (sE S i).1 = 3 := by rw [((mp_b_iff hn hpo hpl hj hs1 hi).mp hb).1]; rfl
              obtain ⟨q1, q2, q3, q4, q5⟩ := (hrow i hi).2.1.2.2.2.2.1 hfm
              have hp0 : ¬ mp_s S j tr mo i = true := fun z => by
                rw [mp_s, Bool.and_eq_true, decide_eq_true_eq] at z
                exact c53 (by rw [q1]; exact z.2.2.1)
              exact ih (i + 1) _ (by omega) l0 l1 l2 l3 (by show some (Value.int _) = _; rw [sc_l, if_neg hp0]) (by show some (Value.int (nI i + Int32.ofInt 1)) = _; rw [show Int32.ofInt 1 = 1 from rfl, nI_1])
            · refine q_aload hX 0 d_Mo_seek_56 rfl (by first | rfl | assumption) ?_
              refine r_iload hX d_Mo_seek_57 (by first | rfl | assumption) ?_
              have h9 : (sE S i).1 = 9 := by
                cases hz : mp_b (sE S) (si S) j i with
                | false => rw [hz] at c32; exact absurd rfl c32
                | true => exact ((mp_b_iff hn hpo hpl hj hs1 hi).mp hz).1
              have hfm : so_fm (sE S i).1 = 3 := by rw [h9]; rfl
              refine r_callV (as := [_]) hX d_Mo_seek_59 lk_Mo_276 hM.1 rfl rfl (Nat.le_of_ble_eq_true rfl) (by decide) 0 0 (Nat.le_refl _) (Nat.le_refl _) (c_Mo_moment (G := G) hM hm hi h9) (fun v w1 hq => ?_)
              obtain ⟨rfl, hw⟩ := hq
              rw [hw]
              refine q_lload hX 3 d_Mo_seek_62 rfl (by first | rfl | assumption) ?_
              refine r_lcmp hX d_Mo_seek_63 ?_
              refine r_if_gt hX 72 d_Mo_seek_64 (by decide) (fun c64 => ?_) (fun c64 => ?_)
              · refine r_iload hX d_Mo_seek_72 (by first | rfl | assumption) ?_
                refine r_istore hX d_Mo_seek_74 (by decide) ?_
                refine r_iinc hX d_Mo_seek_76 (by first | rfl | assumption) ?_
                refine r_goto hX 6 d_Mo_seek_79 (by decide) ?_
                have hb : mp_b (sE S) (si S) j i = true := by
                  cases hz : mp_b (sE S) (si S) j i with
                  | false => rw [hz] at c32; exact absurd rfl c32
                  | true => rfl
                have hfm : so_fm (sE S i).1 = 3 := by rw [((mp_b_iff hn hpo hpl hj hs1 hi).mp hb).1]; rfl
                obtain ⟨q1, q2, q3, q4, q5⟩ := (hrow i hi).2.1.2.2.2.2.1 hfm
                have hp0 : ¬ mp_s S j tr mo i = true := fun z => by
                  rw [mp_s, Bool.and_eq_true, decide_eq_true_eq] at z
                  exact absurd (l_gt0.mp c64) (by have := z.2.2.2; omega)
                exact ih (i + 1) _ (by omega) l0 l1 l2 l3 (by show some (Value.int _) = _; rw [sc_l, if_neg hp0]) (by show some (Value.int (nI i + Int32.ofInt 1)) = _; rw [show Int32.ofInt 1 = 1 from rfl, nI_1])
              · refine r_iload hX d_Mo_seek_67 (by first | rfl | assumption) ?_
                refine r_goto hX 74 d_Mo_seek_69 (by decide) ?_
                refine r_istore hX d_Mo_seek_74 (by decide) ?_
                refine r_iinc hX d_Mo_seek_76 (by first | rfl | assumption) ?_
                refine r_goto hX 6 d_Mo_seek_79 (by decide) ?_
                have hb : mp_b (sE S) (si S) j i = true := by
                  cases hz : mp_b (sE S) (si S) j i with
                  | false => rw [hz] at c32; exact absurd rfl c32
                  | true => rfl
                have hfm : so_fm (sE S i).1 = 3 := by rw [((mp_b_iff hn hpo hpl hj hs1 hi).mp hb).1]; rfl
                obtain ⟨q1, q2, q3, q4, q5⟩ := (hrow i hi).2.1.2.2.2.2.1 hfm
                have hp1 : mp_s S j tr mo i = true := by
                  rw [mp_s, Bool.and_eq_true, decide_eq_true_eq]
                  exact ⟨hb, by rw [← q3]; exact c42, by rw [← q1]; exact c53, Int.not_lt.mp (fun z => c64 (l_gt0.mpr z))⟩
                exact ih (i + 1) _ (by omega) l0 l1 l2 l3 (by show some (Value.int (nI i)) = _; rw [sc_l, if_pos hp1]; rfl) (by show some (Value.int (nI i + Int32.ofInt 1)) = _; rw [show Int32.ofInt 1 = 1 from rfl, nI_1])
    refine r_iconst (v := -1) hX d_Mo_seek_0 (by decide) ?_
    refine r_istore hX d_Mo_seek_1 (by decide) ?_
    refine r_iconst (v := 0) hX d_Mo_seek_3 (by decide) ?_
    refine r_istore hX d_Mo_seek_4 (by decide) ?_
    exact loop (sn S) 0 _ (by omega) rfl rfl rfl rfl rfl rfl
  · have loop : ∀ (ls : Ev_L), ls.1 0 = some (.ref 117) → ls.1 1 = some (.int k) → ls.1 5 = some (.int (-1)) → ls.1 6 = some (.int (nI 0)) → ev_W G M_Mo_seek X 0 0 6 ls [] w := by
      intro ls l0 l1 l5 l6
      refine r_iload hX d_Mo_seek_6 (by first | rfl | assumption) ?_
      refine q_aload hX 0 d_Mo_seek_8 rfl (by first | rfl | assumption) ?_
      refine r_getm (J := 0) (x := nI (sn S)) hX d_Mo_seek_9 fl_Mo_86 hM hc rfl ?_
      refine r_icmp_ge hX 82 d_Mo_seek_12 (by decide) (fun c12 => ?_) (fun c12 => ?_)
      · refine r_iload hX d_Mo_seek_82 (by first | rfl | assumption) ?_
        refine r_iret hX hR d_Mo_seek_84 rfl (by first | rfl | assumption) ?_
        exact ⟨by rw [hsg], rfl⟩
      · refine q_aload hX 0 d_Mo_seek_15 rfl (by first | rfl | assumption) ?_
        refine q_iload hX 1 d_Mo_seek_16 rfl (by first | rfl | assumption) ?_
        refine r_ldc hX d_Mo_seek_17 m_682 ?_
        refine r_callV (as := [_, _]) hX d_Mo_seek_19 lk_Mo_208 hM.1 rfl rfl (Nat.le_of_ble_eq_true rfl) (by decide) 0 0 (Nat.le_refl _) (Nat.le_refl _) (c_Mo_is (G := G) hM hc hn _ 408125543) (fun v w1 hq => ?_)
        obtain ⟨rfl, hw⟩ := hq
        rw [hw]
        rw [seg_is hm, hsg]
        rw [show b_i (none : Option Nat).isSome = 0 from rfl]
        refine r_if_eq hX 82 d_Mo_seek_22 (by decide) (fun _ => ?_) (fun c22 => absurd rfl c22)
        refine r_iload hX d_Mo_seek_82 (by first | rfl | assumption) ?_
        refine r_iret hX hR d_Mo_seek_84 rfl (by first | rfl | assumption) ?_
        exact ⟨by rw [hsg], rfl⟩
    refine r_iconst (v := -1) hX d_Mo_seek_0 (by decide) ?_
    refine r_istore hX d_Mo_seek_1 (by decide) ?_
    refine r_iconst (v := 0) hX d_Mo_seek_3 (by decide) ?_
    refine r_istore hX d_Mo_seek_4 (by decide) ?_
    exact loop _ rfl rfl rfl rfl
