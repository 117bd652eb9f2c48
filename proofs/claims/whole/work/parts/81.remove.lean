/-! ===== the elements that a condition keeps; the reference: remove ===== -/
theorem po_f {n : Nat} {E : Nat → Ev_E} {mi : Nat → Option Nat} (Q : Nat → Bool) (h : is_po n E mi) (hcl : ∀ i j, i < n → Q i = true → mi i = some j → Q j = true) : is_po (kc Q n) (fun t => E ((kl Q n).getD t 0)) (fun t => (mi ((kl Q n).getD t 0)).map (kc Q)) := by
  have hln : ∀ b i, i < b → i < n → Q i = true → el_ln E i ≤ kc Q i := by
    intro b
    induction b with
    | zero => intro i h1; omega
    | succ b ih =>
      intro i h1 h2 h3
      obtain ⟨p1, p2, p3, p4⟩ := h i h2
      cases hm : mi i with
      | none => rw [p3 hm]; exact Nat.zero_le _
      | some j =>
        obtain ⟨q1, q2, q3⟩ := p4 j hm
        have hqj := hcl i j h2 h3 hm
        have := ih j (by omega) (by omega) hqj
        have := kc_lt Q q1 hqj
        omega
  intro t ht
  have htl : t < (kl Q n).length := by rw [kl_len]; exact ht
  obtain ⟨a1, a2, a3⟩ := kl_at Q htl
  obtain ⟨p1, p2, p3, p4⟩ := h _ a1
  refine ⟨p1, ?_, fun z => ?_, fun j hj => ?_⟩
  · have := hln _ _ (Nat.lt_succ_self _) a1 a2
    rw [a3] at this; exact this
  · refine p3 ?_
    have z : (mi ((kl Q n).getD t 0)).map (kc Q) = none := z
    cases hm : mi ((kl Q n).getD t 0) with
    | none => rfl
    | some q => rw [hm] at z; cases z
  · have hj : (mi ((kl Q n).getD t 0)).map (kc Q) = some j := hj
    cases hm : mi ((kl Q n).getD t 0) with
    | none => rw [hm] at hj; cases hj
    | some q =>
      rw [hm] at hj
      have hj : kc Q q = j := Option.some.inj hj
      subst hj
      obtain ⟨q1, q2, q3⟩ := p4 q hm
      have hqq := hcl _ q a1 a2 hm
      have hget := kl_get Q (n := n) (i := q) (by omega) hqq
      have hlt := kc_lt Q q1 hqq
      rw [a3] at hlt
      have hll : el_ln (fun t => E ((kl Q n).getD t 0)) (kc Q q) = el_ln E q := by show ((E ((kl Q n).getD (kc Q q) 0)).2.2.2 1).toNatClampNeg = _; rw [hget]; rfl
      refine ⟨hlt, by rw [hll]; exact q2, fun u u1 u2 => ?_⟩
      rw [hll]
      have hu : u < (kl Q n).length := by omega
      have m1 := kl_mono Q (n := n) (t := kc Q q) (u := u) (by omega) hu u1
      rw [hget] at m1
      have m2 := kl_mono Q (n := n) hu htl u2
      exact q3 _ m1 m2
def rm_ok (A A' : Ev_A) (n c d : Nat) (mi : Nat → Option Nat) : Prop := (∀ t, t < c → ro_c0 A' t A t ∧ A'.1 119 t = A.1 119 t) ∧ (∀ t, c ≤ t → t + d < n → ro_c0 A' t A (t + d) ∧ A'.1 119 t = o_i ((mi (t + d)).map (fun m => if c < m then m - d else m))) ∧ ∀ q, q ∉ mv_l → A'.1 q = A.1 q
theorem c_Mo_remove {G : Ev_G} {w : Ev_W} {I : Nat → Int32} {v0 : Int64} {A : Ev_A} (hM : is_M w I v0 A) {n : Nat} (hc : I 0 = nI n) (hn : n ≤ 60) {E : Nat → Ev_E} {mi : Nat → Option Nat} (hmas : ∀ x, x < n → A.1 119 x = o_i (mi x)) (hpo : is_po n E mi) {c : Nat} (hck : c < n) : ev_Met G M_Mo_remove 2 0 0 [.ref 117, .int (nI c)] w (fun v w' => v = none ∧ ∃ A', is_M w' (upd I 0 (nI (n - (tr_end (el_lev E) n c - c)))) v0 A' ∧ mo_sm w w' ∧ rm_ok A A' n c (tr_end (el_lev E) n c - c) mi) := by
  refine ev_Met.of md_Mo_remove (Nat.le_of_ble_eq_true rfl) (fun X hX hR => ?_)
  obtain ⟨b1, b2, b3, b4⟩ := tr_end_spec hn hpo hck
  obtain ⟨d, hd⟩ : ∃ d, d = (tr_end (el_lev E) n c - c) := ⟨_, rfl⟩
  rw [← hd] at hR
  have hd1 : 1 ≤ d := by omega
  have hcd : c + d ≤ n := by omega
  have loop : ∀ (t i : Nat) (A1 : Ev_A) (w1 : Ev_W) (ls : Ev_L), i + d + t = n → c ≤ i → is_M w1 I v0 A1 → mo_sm w w1 → (∀ t, c ≤ t → t < i → ro_c0 A1 t A (t + d) ∧ A1.1 119 t = o_i ((mi (t + d)).map (fun m => if c < m then m - d else m))) → (∀ t, i ≤ t ∨ t < c → ro_c0 A1 t A t ∧ A1.1 119 t = A.1 119 t) → (∀ q, q ∉ mv_l → A1.1 q = A.1 q) → ls.1 0 = some (.ref 117) → ls.1 1 = some (.int (nI c)) → ls.1 2 = some (.int (nI d)) → ls.1 3 = some (.int (nI i)) → ev_W G M_Mo_remove X 0 0 10 ls [] w1 := by
    intro t
    induction t with
    | zero =>
      intro i A1 w ls e1 hci hM hs g1 g2 g3 l0 l1 l2 l3
      refine q_iload hX 3 d_Mo_remove_10 rfl (by first | rfl | assumption) ?_
      refine q_iload hX 2 d_Mo_remove_11 rfl (by first | rfl | assumption) ?_
      refine r_iadd hX d_Mo_remove_12 ?_
      rw [nI_add]
      refine q_aload hX 0 d_Mo_remove_13 rfl (by first | rfl | assumption) ?_
      refine r_getm (J := 0) (x := nI n) hX d_Mo_remove_14 fl_Mo_86 hM hc rfl ?_
      refine r_icmp_ge hX 67 d_Mo_remove_17 (by decide) (fun _ => ?_) (fun c17 => absurd (nI_le (b := i + d) (by omega) (by omega)) c17)
      refine q_aload hX 0 d_Mo_remove_67 rfl (by first | rfl | assumption) ?_
      refine q_aload hX 0 d_Mo_remove_68 rfl (by first | rfl | assumption) ?_
      refine r_getm (J := 0) (x := nI n) hX d_Mo_remove_69 fl_Mo_86 hM hc rfl ?_
      refine q_iload hX 2 d_Mo_remove_72 rfl (by first | rfl | assumption) ?_
      refine r_isub hX d_Mo_remove_73 ?_
      rw [nI_sb (by omega)]
      refine r_putm (J := 0) hX d_Mo_remove_74 fp_Mo_86 hM hs rfl rfl (Nat.le_of_ble_eq_true rfl) rfl (fun w hM hs => ?_)
      refine r_vret hX hR d_Mo_remove_77 rfl ?_
      exact ⟨rfl, A1, hM, hs, fun t ht => g2 t (Or.inr ht), fun t h1 h2 => g1 t h1 (by omega), g3⟩
    | succ t ih =>
      intro i A1 w ls e1 hci hM hs g1 g2 g3 l0 l1 l2 l3
      have ih := fun i A1 w ls a b c d e f g h j k => ih i A1 w ls a (by omega) b c d e f g h j k
      have hold : A1.1 119 (i + d) = o_i (mi (i + d)) := by rw [(g2 (i + d) (by omega)).2, hmas _ (by omega)]
      refine q_iload hX 3 d_Mo_remove_10 rfl (by first | rfl | assumption) ?_
      refine q_iload hX 2 d_Mo_remove_11 rfl (by first | rfl | assumption) ?_
      refine r_iadd hX d_Mo_remove_12 ?_
      rw [nI_add]
      refine q_aload hX 0 d_Mo_remove_13 rfl (by first | rfl | assumption) ?_
      refine r_getm (J := 0) (x := nI n) hX d_Mo_remove_14 fl_Mo_86 hM hc rfl ?_
      refine r_icmp_ge hX 67 d_Mo_remove_17 (by decide) (fun c17 => absurd c17 (nI_ge (a := i + d) (by omega) (by omega))) (fun _ => ?_)
      refine q_aload hX 0 d_Mo_remove_20 rfl (by first | rfl | assumption) ?_
      refine q_iload hX 3 d_Mo_remove_21 rfl (by first | rfl | assumption) ?_
      refine q_iload hX 2 d_Mo_remove_22 rfl (by first | rfl | assumption) ?_
      refine r_iadd hX d_Mo_remove_23 ?_
      rw [nI_add]
      refine q_iload hX 3 d_Mo_remove_24 rfl (by first | rfl | assumption) ?_
      refine r_callV (as := [_, _]) hX d_Mo_remove_25 lk_Mo_100 hM.1 rfl rfl (Nat.le_of_ble_eq_true rfl) (by decide) 0 0 (Nat.le_refl _) (Nat.le_refl _) (c_Mo_move (G := G) hM (f := i + d) (t := i) (by omega) (by omega) (by omega)) (fun v w hq => ?_)
      obtain ⟨rfl, A2, hM, hs2, mv1, mv2, mv3, mv4⟩ := hq
      have hs := hs.tr hs2
      refine q_aload hX 0 d_Mo_remove_28 rfl (by first | rfl | assumption) ?_
      refine r_getf hX d_Mo_remove_29 fl_Mo_13 hM.1 rfl ?_
      refine q_iload hX 3 d_Mo_remove_32 rfl (by first | rfl | assumption) ?_
      refine q_aload hX 0 d_Mo_remove_33 rfl (by first | rfl | assumption) ?_
      refine r_getf hX d_Mo_remove_34 fl_Mo_13 hM.1 rfl ?_
      refine q_iload hX 3 d_Mo_remove_37 rfl (by first | rfl | assumption) ?_
      refine r_ialdm (c := 119) (x := o_i (mi (i + d))) hX d_Mo_remove_38 hM rfl rfl (by omega) (mv2.trans hold) ?_
      refine q_iload hX 1 d_Mo_remove_39 rfl (by first | rfl | assumption) ?_
      refine r_icmp_le hX 54 d_Mo_remove_40 (by decide) (fun c40 => ?_) (fun c40 => ?_)
      · refine q_aload hX 0 d_Mo_remove_54 rfl (by first | rfl | assumption) ?_
        refine r_getf hX d_Mo_remove_55 fl_Mo_13 hM.1 rfl ?_
        refine q_iload hX 3 d_Mo_remove_58 rfl (by first | rfl | assumption) ?_
        refine r_ialdm (c := 119) (x := o_i (mi (i + d))) hX d_Mo_remove_59 hM rfl rfl (by omega) (mv2.trans hold) ?_
        refine r_iastm (c := 119) hX d_Mo_remove_60 hM hs rfl rfl (by omega) (fun w hM hs => ?_)
        refine r_iinc hX d_Mo_remove_61 (by first | rfl | assumption) ?_
        refine r_goto hX 10 d_Mo_remove_64 (by decide) ?_
        refine ih (i + 1) _ w _ (by omega) hM hs (fun t h1 h2 => ?_) (fun t h1 => ?_) (fun q hq => ?_) l0 l1 l2 (by show some (Value.int (nI i + Int32.ofInt 1)) = _; rw [show Int32.ofInt 1 = 1 from rfl, nI_1])
        · by_cases z : t = i
          · subst z
            refine ⟨(mv1.tr (g2 (t + d) (by omega)).1).st9, ?_⟩
            rw [aset_self]
            cases hm : mi (t + d) with
            | none => rfl
            | some m =>
              have hml := ((hpo (t + d) (by omega)).2.2.2 m hm).1
              rw [hm] at c40
              show nI m = nI (if c < m then m - d else m)
              rw [if_neg (fun z => absurd ((nI_leI (by omega) (by omega)).mp c40) (by omega))]
          · have := g1 t h1 (by omega)
            exact ⟨((mv3 t z).1.tr this.1).st9, by rw [aset_off _ _ _ _ _ _ (Or.inr z), (mv3 t z).2]; exact this.2⟩
        · have z : t ≠ i := by omega
          have := g2 t (by omega)
          exact ⟨((mv3 t z).1.tr this.1).st9, by rw [aset_off _ _ _ _ _ _ (Or.inr z), (mv3 t z).2]; exact this.2⟩
        · rw [aset_ne _ _ _ (fun z => hq (by rw [z]; decide)), mv4 q hq]; exact g3 q hq
      · refine q_aload hX 0 d_Mo_remove_43 rfl (by first | rfl | assumption) ?_
        refine r_getf hX d_Mo_remove_44 fl_Mo_13 hM.1 rfl ?_
        refine q_iload hX 3 d_Mo_remove_47 rfl (by first | rfl | assumption) ?_
        refine r_ialdm (c := 119) (x := o_i (mi (i + d))) hX d_Mo_remove_48 hM rfl rfl (by omega) (mv2.trans hold) ?_
        refine q_iload hX 2 d_Mo_remove_49 rfl (by first | rfl | assumption) ?_
        refine r_isub hX d_Mo_remove_50 ?_
        refine r_goto hX 60 d_Mo_remove_51 (by decide) ?_
        refine r_iastm (c := 119) hX d_Mo_remove_60 hM hs rfl rfl (by omega) (fun w hM hs => ?_)
        refine r_iinc hX d_Mo_remove_61 (by first | rfl | assumption) ?_
        refine r_goto hX 10 d_Mo_remove_64 (by decide) ?_
        refine ih (i + 1) _ w _ (by omega) hM hs (fun t h1 h2 => ?_) (fun t h1 => ?_) (fun q hq => ?_) l0 l1 l2 (by show some (Value.int (nI i + Int32.ofInt 1)) = _; rw [show Int32.ofInt 1 = 1 from rfl, nI_1])
        · by_cases z : t = i
          · subst z
            refine ⟨(mv1.tr (g2 (t + d) (by omega)).1).st9, ?_⟩
            rw [aset_self]
            cases hm : mi (t + d) with
            | none =>
              rw [hm] at c40
              exact absurd (by rw [i_le, nI_toInt (by omega)]; show (-1 : Int) ≤ _; omega) c40
            | some m =>
              have hml := ((hpo (t + d) (by omega)).2.2.2 m hm).1
              rw [hm] at c40
              have hcm : c < m := Nat.lt_of_not_le (fun z => c40 (nI_le z (by omega)))
              have hmd : d ≤ m := by
                by_cases z : m < tr_end (el_lev E) n c
                · have := mi_in hn hpo hck (by omega) z (show t + d < n by omega) hm
                  omega
                · omega
              show nI m - nI d = nI (if c < m then m - d else m)
              rw [if_pos hcm, nI_sb hmd]
          · have := g1 t h1 (by omega)
            exact ⟨((mv3 t z).1.tr this.1).st9, by rw [aset_off _ _ _ _ _ _ (Or.inr z), (mv3 t z).2]; exact this.2⟩
        · have z : t ≠ i := by omega
          have := g2 t (by omega)
          exact ⟨((mv3 t z).1.tr this.1).st9, by rw [aset_off _ _ _ _ _ _ (Or.inr z), (mv3 t z).2]; exact this.2⟩
        · rw [aset_ne _ _ _ (fun z => hq (by rw [z]; decide)), mv4 q hq]; exact g3 q hq
  have hs : mo_sm w w := mo_sm.rf
  refine q_aload hX 0 d_Mo_remove_0 rfl (by first | rfl | assumption) ?_
  refine q_iload hX 1 d_Mo_remove_1 rfl (by first | rfl | assumption) ?_
  refine r_callV (as := [_]) hX d_Mo_remove_2 lk_Mo_97 hM.1 rfl rfl (Nat.le_of_ble_eq_true rfl) (by decide) 0 0 (Nat.le_refl _) (Nat.le_refl _) (c_Mo_behind (G := G) hM hc hn hmas hpo (mo := some c) (fun j hj => by cases hj; exact hck)) (fun v w1 hq => ?_)
  obtain ⟨rfl, hw⟩ := hq
  rw [hw, show mk_p E n (some c) = tr_end (el_lev E) n c from rfl]
  refine q_iload hX 1 d_Mo_remove_5 rfl (by first | rfl | assumption) ?_
  refine r_isub hX d_Mo_remove_6 ?_
  rw [nI_sb (by omega), ← hd]
  refine q_istore hX 2 d_Mo_remove_7 rfl (by decide) ?_
  refine q_iload hX 1 d_Mo_remove_8 rfl (by first | rfl | assumption) ?_
  refine q_istore hX 3 d_Mo_remove_9 rfl (by decide) ?_
  exact loop (n - (c + d)) c A w _ (by omega) (Nat.le_refl _) hM hs (fun t h1 h2 => by omega) (fun _ _ => ⟨ro_c0.rf, rfl⟩) (fun _ _ => rfl) rfl rfl rfl rfl
