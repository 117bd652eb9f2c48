/-! ===== the reference: jump ===== -/
theorem cu_mi {n : Nat} {E : Nat → Ev_E} {mi : Nat → Option Nat} (hn : n ≤ 60) (h : is_po n E mi) (hp : pl_ok n E mi) {k i : Nat} (hkn : k < n) (hi : i < n) (h10 : (E i).1 = 10) : mi i = some k ↔ (k < i ∧ i < tr_end (el_lev E) n k) := by
  constructor
  · intro z; have := mi_in1 hn h hi z; exact ⟨this.1, this.2.1⟩
  · intro z
    rcases in_seg hn h hp hkn z.1 z.2 with y | ⟨j, y1, y2, y3, y4⟩
    · exact y
    · exfalso
      have h1 := (hp i hi).2.2 j y1
      rw [h10] at h1
      have h2 := so_f5 _ (hp j (by omega)).1 h1
      have h3 := (hp j (by omega)).2.2 k y2
      rw [h2, so_f2 _ (hp k hkn).1] at h3
      cases h3
def mp_j (S : Ev_S) (k : Nat) (tr : Int32) (mo : Int64) (x : Nat) : Bool := decide ((sE S x).1 = 10 ∧ si S x = some k ∧ fi_num (sE S) (sn S) x 12 = tr.toInt64 ∧ (fi_num (sE S) (sn S) x 11).toInt ≤ mo.toInt)
theorem fc_sc {n : Nat} {E : Nat → Ev_E} {tr : Int32} {mo : Int64} {k : Nat} {p : Nat → Bool} (h0 : ∀ x, x ≤ k → p x = false) : ∀ f, (∀ x, k < x → x < k + 1 + f → (p x = true ↔ ((E x).1 = 10 ∧ fi_num E n x 12 = tr.toInt64 ∧ (fi_num E n x 11).toInt ≤ mo.toInt))) → fi_fc E n tr mo k f = (sc_l p (k + 1 + f)).bind (fun x => fi_bb E (fi_num E n x 13) (tr_end (el_lev E) n k - (k + 1)) (k + 1) 0)
  | 0, h => by rw [sc_l_no _ (fun x hx => h0 x (by omega))]; rfl
  | f + 1, h => by
    have h1 := h (k + 1 + f) (by omega) (by omega)
    have h2 := fc_sc (tr := tr) (mo := mo) (E := E) (n := n) h0 f (fun x g1 g2 => h x g1 (by omega))
    rw [fi_fc, show k + 1 + (f + 1) = (k + 1 + f) + 1 by omega, sc_l]
    by_cases z : p (k + 1 + f) = true
    · rw [if_pos z, if_pos (h1.mp z)]; rfl
    · rw [if_neg z, if_neg (fun y => z (h1.mpr y)), h2]
theorem jp_sc {I : Nat → Int32} {A : Ev_A} {S : Ev_S} {D : Nat → Ev_D} {sf : Nat → Int32} {sd : Nat} (hm : mdl I A S D sf sd) {k : Nat} (hk : k < sn S) (h1 : (sE S k).1 = 1) (tr : Int32) (mo : Int64) : fi_fc (sE S) (sn S) tr mo k (tr_end (el_lev (sE S)) (sn S) k - (k + 1)) = (sc_l (mp_j S k tr mo) (sn S)).bind (fun x => sc_b (mp_b (sE S) (si S) k) (fi_num (sE S) (sn S) x 13) (sn S) 0 0) := by
  obtain ⟨hc, hn, hu, hsd, hpo, hpl, hrow, hhp⟩ := hm
  obtain ⟨b1, b2, b3, b4⟩ := tr_end_spec hn hpo hk
  have hq : ∀ x, x < sn S → mp_j S k tr mo x = true → k < x ∧ x < tr_end (el_lev (sE S)) (sn S) k := fun x hx z => by
    have z := of_decide_eq_true z
    exact (cu_mi hn hpo hpl hk hx z.1).mp z.2.1
  rw [fc_sc (p := mp_j S k tr mo) (fun x hx => ?_) _ (fun x g1 g2 => ?_), show k + 1 + (tr_end (el_lev (sE S)) (sn S) k - (k + 1)) = tr_end (el_lev (sE S)) (sn S) k by omega]
  · rw [sc_l_end (p := mp_j S k tr mo) _ b2 (fun x g1 g2 => ?_)]
    · congr 1
      funext x
      rw [fi_bb_sc, sc_win (F := fun t i => sc_b (mp_b (sE S) (si S) k) (fi_num (sE S) (sn S) x 13) t i 0) (fun a b i => sc_b_sk _ _ a b i 0) (fun a b i => sc_b_end _ _ a b i 0) (p := mp_b (sE S) (si S) k) (a := k + 1) b1 b2 (fun y g1 g2 => by have := ((mp_b_iff hn hpo hpl hk h1 g1).mp g2).2; omega)]
      refine sc_b_cg _ _ _ _ (fun y g1 g2 => ?_)
      have hz := mp_b_iff hn hpo hpl hk h1 (show y < sn S by omega)
      by_cases z9 : (sE S y).1 = 9
      · rw [decide_eq_true z9, hz.mpr ⟨z9, by omega, by omega⟩]
      · rw [decide_eq_false z9]
        cases hb : mp_b (sE S) (si S) k y with
        | false => rfl
        | true => exact absurd (hz.mp hb).1 z9
    · cases hz : mp_j S k tr mo x with
      | false => rfl
      | true => have := hq x g2 hz; omega
  · cases hz : mp_j S k tr mo x with
    | false => rfl
    | true => have := hq x (by omega) hz; omega
  · unfold mp_j
    rw [decide_eq_true_eq]
    constructor
    · intro z; exact ⟨z.1, z.2.2⟩
    · intro z; exact ⟨z.1, (cu_mi hn hpo hpl hk (by omega) z.1).mpr ⟨g1, by omega⟩, z.2⟩
theorem l_left {l x : Int64} {c : Nat} (h : l + lN c = x) : (l = 0 ↔ lN c = x) ∧ l - 1 + lN (c + 1) = x := by
  refine ⟨⟨fun z => by rw [z, Int64.zero_add] at h; exact h, fun z => ?_⟩, ?_⟩
  · have h1 : l + lN c - lN c = x - lN c := by rw [h]
    rw [Int64.add_sub_cancel, z, Int64.sub_self] at h1
    exact h1
  · rw [← lN_1, Int64.add_comm (lN c) 1, ← Int64.add_assoc, Int64.sub_add_cancel, h]
theorem c_Mo_jump {G : Ev_G} {w : Ev_W} {I : Nat → Int32} {v0 : Int64} {A : Ev_A} (hM : is_M w I v0 A) {S : Ev_S} {D : Nat → Ev_D} {sf : Nat → Int32} {sd : Nat} (hm : mdl I A S D sf sd) (k tr : Int32) (mo : Int64) : ev_Met G M_Mo_jump 3 0 0 [.ref 117, .int k, .int tr, .long mo] w (fun v w' => v = some (.int (match ef_seg (sE S) (sn S) k with | none => -1 | some j => o_i (fi_fc (sE S) (sn S) tr mo j (tr_end (el_lev (sE S)) (sn S) j - (j + 1))))) ∧ w' = w) := by
  refine ev_Met.of md_Mo_jump (Nat.le_of_ble_eq_true rfl) (fun X hX hR => ?_)
  obtain ⟨hc, hn, hu, hsd, hpo, hpl, hrow, hhp⟩ := id hm
  rcases ef_seg_c (sE S) hn k with ⟨j, hj, hsg, hs1, rfl⟩ | hsg
  · have loop2 : ∀ (x : Nat), x < sn S → sc_l (mp_j S j tr mo) (sn S) = some x → ∀ (t i c : Nat) (l : Int64) (ls : Ev_L), i + t = sn S → l + lN c = fi_num (sE S) (sn S) x 13 → sc_b (mp_b (sE S) (si S) j) (fi_num (sE S) (sn S) x 13) t i c = sc_b (mp_b (sE S) (si S) j) (fi_num (sE S) (sn S) x 13) (sn S) 0 0 → ls.1 0 = some (.ref 117) → ls.1 1 = some (.int (nI j)) → ls.2 6 = some l → ls.1 8 = some (.int (nI i)) → ev_W G M_Mo_jump X 0 0 126 ls [] w := by
      intro x hx hsl t
      have hpost : fi_fc (sE S) (sn S) tr mo j (tr_end (el_lev (sE S)) (sn S) j - (j + 1)) = sc_b (mp_b (sE S) (si S) j) (fi_num (sE S) (sn S) x 13) (sn S) 0 0 := by rw [jp_sc hm hj hs1, hsl]; rfl
      induction t with
      | zero =>
        intro i c l ls e1 e2 e3 l0 l1 l6 l8
        refine r_iload hX d_Mo_jump_126 (by first | rfl | assumption) ?_
        refine q_aload hX 0 d_Mo_jump_128 rfl (by first | rfl | assumption) ?_
        refine r_getm (J := 0) (x := nI (sn S)) hX d_Mo_jump_129 fl_Mo_86 hM hc rfl ?_
        refine r_icmp_ge hX 167 d_Mo_jump_132 (by decide) (fun _ => ?_) (fun c132 => absurd (nI_le (by omega) (by omega)) c132)
        refine r_iconst (v := -1) hX d_Mo_jump_167 (by decide) ?_
        refine r_iret hX hR d_Mo_jump_168 rfl (by first | rfl | assumption) ?_
        exact ⟨by rw [hsg]; dsimp only; rw [hpost, ← e3]; rfl, rfl⟩
      | succ t ih =>
        intro i c l ls e1 e2 e3 l0 l1 l6 l8
        have hi : i < sn S := by omega
        have hl := l_left e2
        refine r_iload hX d_Mo_jump_126 (by first | rfl | assumption) ?_
        refine q_aload hX 0 d_Mo_jump_128 rfl (by first | rfl | assumption) ?_
        refine r_getm (J := 0) (x := nI (sn S)) hX d_Mo_jump_129 fl_Mo_86 hM hc rfl ?_
        refine r_icmp_ge hX 167 d_Mo_jump_132 (by decide) (fun c132 => absurd c132 (nI_ge (by omega) (by omega))) (fun _ => ?_)
        refine q_aload hX 0 d_Mo_jump_135 rfl (by first | rfl | assumption) ?_
        refine r_iload hX d_Mo_jump_136 (by first | rfl | assumption) ?_
        refine q_iload hX 1 d_Mo_jump_138 rfl (by first | rfl | assumption) ?_
        refine r_callV (as := [_, _]) hX d_Mo_jump_139 lk_Mo_270 hM.1 rfl rfl (Nat.le_of_ble_eq_true rfl) (by decide) 0 0 (Nat.le_refl _) (Nat.le_refl _) (c_Mo_isBlockOf (G := G) hM hm (i := i) (k := j) hi (by omega)) (fun v w1 hq => ?_)
        obtain ⟨rfl, hw⟩ := hq
        rw [hw]
        refine r_if_eq hX 161 d_Mo_jump_142 (by decide) (fun c142 => ?_) (fun c142 => ?_)
        · refine r_iinc hX d_Mo_jump_161 (by first | rfl | assumption) ?_
          refine r_goto hX 126 d_Mo_jump_164 (by decide) ?_
          have hb : ¬ mp_b (sE S) (si S) j i = true := fun z => by rw [z] at c142; exact absurd c142 (by decide)
          exact ih (i + 1) c l _ (by omega) e2 (by rw [← e3, sc_b, if_neg hb]) l0 l1 l6 (by show some (Value.int (nI i + Int32.ofInt 1)) = _; rw [show Int32.ofInt 1 = 1 from rfl, nI_1])
        · refine r_lload hX d_Mo_jump_145 (by first | rfl | assumption) ?_
          refine r_lconst (v := 0) hX d_Mo_jump_147 (by decide) ?_
          refine r_lcmp hX d_Mo_jump_148 ?_
          refine r_if_ne hX 155 d_Mo_jump_149 (by decide) (fun c149 => ?_) (fun c149 => ?_)
          · refine r_lload hX d_Mo_jump_155 (by first | rfl | assumption) ?_
            refine r_lconst (v := 1) hX d_Mo_jump_157 (by decide) ?_
            refine r_lsub hX d_Mo_jump_158 ?_
            refine r_lstore hX d_Mo_jump_159 (by decide) ?_
            refine r_iinc hX d_Mo_jump_161 (by first | rfl | assumption) ?_
            refine r_goto hX 126 d_Mo_jump_164 (by decide) ?_
            have hb : mp_b (sE S) (si S) j i = true := by
              cases hz : mp_b (sE S) (si S) j i with
              | false => rw [hz] at c142; exact absurd rfl c142
              | true => rfl
            exact ih (i + 1) (c + 1) _ _ (by omega) hl.2 (by rw [← e3, sc_b, if_pos hb, if_neg (fun z => c149 (l_eq0.mpr (hl.1.mpr z)))]) l0 l1 rfl (by show some (Value.int (nI i + Int32.ofInt 1)) = _; rw [show Int32.ofInt 1 = 1 from rfl, nI_1])
          · refine r_iload hX d_Mo_jump_152 (by first | rfl | assumption) ?_
            refine r_iret hX hR d_Mo_jump_154 rfl (by first | rfl | assumption) ?_
            have hb : mp_b (sE S) (si S) j i = true := by
              cases hz : mp_b (sE S) (si S) j i with
              | false => rw [hz] at c142; exact absurd rfl c142
              | true => rfl
            exact ⟨by rw [hsg]; dsimp only; rw [hpost, ← e3, sc_b, if_pos hb, if_pos (hl.1.mp (l_eq0.mp c149))]; rfl, rfl⟩
    have loop : ∀ (t i : Nat) (ls : Ev_L), i + t = sn S → ls.1 0 = some (.ref 117) → ls.1 1 = some (.int (nI j)) → ls.1 2 = some (.int tr) → ls.2 3 = some mo → ls.1 5 = some (.int (o_i (sc_l (mp_j S j tr mo) i))) → ls.1 6 = some (.int (nI i)) → ev_W G M_Mo_jump X 0 0 6 ls [] w := by
      intro t
      induction t with
      | zero =>
        intro i ls e1 l0 l1 l2 l3 l5 l6
        have e1 : i = sn S := e1
        subst e1
        cases hsl : sc_l (mp_j S j tr mo) (sn S) with
        | none =>
          rw [hsl] at l5
          have l5 : ls.1 5 = some (.int (-1)) := l5
          refine r_iload hX d_Mo_jump_6 (by first | rfl | assumption) ?_
          refine q_aload hX 0 d_Mo_jump_8 rfl (by first | rfl | assumption) ?_
          refine r_getm (J := 0) (x := nI (sn S)) hX d_Mo_jump_9 fl_Mo_86 hM hc rfl ?_
          refine r_icmp_ge hX 105 d_Mo_jump_12 (by decide) (fun _ => ?_) (fun c12 => absurd (nI_le (by omega) (by omega)) c12)
          refine r_iload hX d_Mo_jump_105 (by first | rfl | assumption) ?_
          refine r_if_ge hX 112 d_Mo_jump_107 (by decide) (fun c107 => absurd c107 (by decide)) (fun _ => ?_)
          refine r_iconst (v := -1) hX d_Mo_jump_110 (by decide) ?_
          refine r_iret hX hR d_Mo_jump_111 rfl (by first | rfl | assumption) ?_
          exact ⟨by rw [hsg]; dsimp only; rw [jp_sc hm hj hs1, hsl]; rfl, rfl⟩
        | some x =>
          rw [hsl] at l5
          have l5 : ls.1 5 = some (.int (nI x)) := l5
          obtain ⟨hx, hpx⟩ := sc_l_is _ hsl
          have hpx := of_decide_eq_true hpx
          refine r_iload hX d_Mo_jump_6 (by first | rfl | assumption) ?_
          refine q_aload hX 0 d_Mo_jump_8 rfl (by first | rfl | assumption) ?_
          refine r_getm (J := 0) (x := nI (sn S)) hX d_Mo_jump_9 fl_Mo_86 hM hc rfl ?_
          refine r_icmp_ge hX 105 d_Mo_jump_12 (by decide) (fun _ => ?_) (fun c12 => absurd (nI_le (by omega) (by omega)) c12)
          refine r_iload hX d_Mo_jump_105 (by first | rfl | assumption) ?_
          refine r_if_ge hX 112 d_Mo_jump_107 (by decide) (fun _ => ?_) (fun c107 => absurd (nI_le (a := 0) (Nat.zero_le x) (by omega)) c107)
          refine q_aload hX 0 d_Mo_jump_112 rfl (by first | rfl | assumption) ?_
          refine r_iload hX d_Mo_jump_113 (by first | rfl | assumption) ?_
          refine r_sipush (v := 241) hX d_Mo_jump_115 (by decide) ?_
          refine r_callV (as := [_, _]) hX d_Mo_jump_118 lk_Mo_266 hM.1 rfl rfl (Nat.le_of_ble_eq_true rfl) (by decide) 0 0 (Nat.le_refl _) (Nat.le_refl _) (c_Mo_first (G := G) hM hm (j := x) (s := 13) (by omega) (by decide) (by decide)) (fun v w1 hq => ?_)
          obtain ⟨rfl, hw⟩ := hq
          rw [hw, ← fn_mp hn hpo hpl hx (by rw [hpx.1]; decide)]
          refine r_lstore hX d_Mo_jump_121 (by decide) ?_
          refine r_iconst (v := 0) hX d_Mo_jump_123 (by decide) ?_
          refine r_istore hX d_Mo_jump_124 (by decide) ?_
          exact loop2 x hx hsl (sn S) 0 0 _ _ (by omega) (by rw [show lN 0 = 0 from rfl, Int64.add_zero]) rfl l0 l1 rfl rfl
      | succ t ih =>
        intro i ls e1 l0 l1 l2 l3 l5 l6
        have hi : i < sn S := by omega
        refine r_iload hX d_Mo_jump_6 (by first | rfl | assumption) ?_
        refine q_aload hX 0 d_Mo_jump_8 rfl (by first | rfl | assumption) ?_
        refine r_getm (J := 0) (x := nI (sn S)) hX d_Mo_jump_9 fl_Mo_86 hM hc rfl ?_
        refine r_icmp_ge hX 105 d_Mo_jump_12 (by decide) (fun c12 => absurd c12 (nI_ge (by omega) (by omega))) (fun _ => ?_)
        refine q_aload hX 0 d_Mo_jump_15 rfl (by first | rfl | assumption) ?_
        refine q_iload hX 1 d_Mo_jump_16 rfl (by first | rfl | assumption) ?_
        refine r_ldc hX d_Mo_jump_17 m_682 ?_
        refine r_callV (as := [_, _]) hX d_Mo_jump_19 lk_Mo_208 hM.1 rfl rfl (Nat.le_of_ble_eq_true rfl) (by decide) 0 0 (Nat.le_refl _) (Nat.le_refl _) (c_Mo_is (G := G) hM hc hn _ 408125543) (fun v w1 hq => ?_)
        obtain ⟨rfl, hw⟩ := hq
        rw [hw]
        rw [seg_is hm, hsg]
        rw [show b_i (some j : Option Nat).isSome = 1 from rfl]
        refine r_if_eq hX 105 d_Mo_jump_22 (by decide) (fun c22 => absurd c22 (by decide)) (fun _ => ?_)
        refine q_aload hX 0 d_Mo_jump_25 rfl (by first | rfl | assumption) ?_
        refine r_getf hX d_Mo_jump_26 fl_Mo_7 hM.1 rfl ?_
        refine r_iload hX d_Mo_jump_29 (by first | rfl | assumption) ?_
        refine r_ialdm (c := 118) (x := _) hX d_Mo_jump_31 hM rfl rfl (by omega) rfl ?_
        refine r_sipush (v := 187) hX d_Mo_jump_32 (by decide) ?_
        refine r_icmp_ne hX 53 d_Mo_jump_35 (by decide) (fun c35 => ?_) (fun c35 => ?_)
        · refine r_iconst (v := 0) hX d_Mo_jump_53 (by decide) ?_
          refine r_istore hX d_Mo_jump_54 (by decide) ?_
          refine r_iload hX d_Mo_jump_56 (by first | rfl | assumption) ?_
          refine r_if_eq hX 95 d_Mo_jump_58 (by decide) (fun _ => ?_) (fun c58 => absurd rfl c58)
          refine r_iload hX d_Mo_jump_95 (by first | rfl | assumption) ?_
          refine r_istore hX d_Mo_jump_97 (by decide) ?_
          refine r_iinc hX d_Mo_jump_99 (by first | rfl | assumption) ?_
          refine r_goto hX 6 d_Mo_jump_102 (by decide) ?_
          have hp0 : ¬ mp_j S j tr mo i = true := fun z => by
            have z := of_decide_eq_true z
            exact c35 ((hm.tg hi (s := 10) (by decide)).mpr z.1)
          exact ih (i + 1) _ (by omega) l0 l1 l2 l3 (by show some (Value.int _) = _; rw [sc_l, if_neg hp0]) (by show some (Value.int (nI i + Int32.ofInt 1)) = _; rw [show Int32.ofInt 1 = 1 from rfl, nI_1])
        · refine q_aload hX 0 d_Mo_jump_38 rfl (by first | rfl | assumption) ?_
          refine r_getf hX d_Mo_jump_39 fl_Mo_13 hM.1 rfl ?_
          refine r_iload hX d_Mo_jump_42 (by first | rfl | assumption) ?_
          refine r_ialdm (c := 119) (x := _) hX d_Mo_jump_44 hM rfl rfl (by omega) rfl ?_
          refine q_iload hX 1 d_Mo_jump_45 rfl (by first | rfl | assumption) ?_
          refine r_icmp_ne hX 53 d_Mo_jump_46 (by decide) (fun c46 => ?_) (fun c46 => ?_)
          · refine r_iconst (v := 0) hX d_Mo_jump_53 (by decide) ?_
            refine r_istore hX d_Mo_jump_54 (by decide) ?_
            refine r_iload hX d_Mo_jump_56 (by first | rfl | assumption) ?_
            refine r_if_eq hX 95 d_Mo_jump_58 (by decide) (fun _ => ?_) (fun c58 => absurd rfl c58)
            refine r_iload hX d_Mo_jump_95 (by first | rfl | assumption) ?_
            refine r_istore hX d_Mo_jump_97 (by decide) ?_
            refine r_iinc hX d_Mo_jump_99 (by first | rfl | assumption) ?_
            refine r_goto hX 6 d_Mo_jump_102 (by decide) ?_
            have hp0 : ¬ mp_j S j tr mo i = true := fun z => by
              have z := of_decide_eq_true z
              exact c46 ((hm.ms hi (by omega)).mpr z.2.1)
            exact ih (i + 1) _ (by omega) l0 l1 l2 l3 (by show some (Value.int _) = _; rw [sc_l, if_neg hp0]) (by show some (Value.int (nI i + Int32.ofInt 1)) = _; rw [show Int32.ofInt 1 = 1 from rfl, nI_1])
          · refine r_iconst (v := 1) hX d_Mo_jump_49 (by decide) ?_
            refine r_goto hX 54 d_Mo_jump_50 (by decide) ?_
            refine r_istore hX d_Mo_jump_54 (by decide) ?_
            refine r_iload hX d_Mo_jump_56 (by first | rfl | assumption) ?_
            refine r_if_eq hX 95 d_Mo_jump_58 (by decide) (fun c58 => absurd c58 (by decide)) (fun _ => ?_)
            refine q_aload hX 0 d_Mo_jump_61 rfl (by first | rfl | assumption) ?_
            refine r_iload hX d_Mo_jump_62 (by first | rfl | assumption) ?_
            refine r_sipush (v := 247) hX d_Mo_jump_64 (by decide) ?_
            have h10 : (sE S i).1 = 10 := (hm.tg hi (s := 10) (by decide)).mp c35
            have hne1 : (sE S i).1 ≠ 1 := by rw [h10]; decide
            refine r_callV (as := [_, _]) hX d_Mo_jump_67 lk_Mo_266 hM.1 rfl rfl (Nat.le_of_ble_eq_true rfl) (by decide) 0 0 (Nat.le_refl _) (Nat.le_refl _) (c_Mo_first (G := G) hM hm (j := i) (s := 12) (by omega) (by decide) (by decide)) (fun v w1 hq => ?_)
            obtain ⟨rfl, hw⟩ := hq
            rw [hw, ← fn_mp hn hpo hpl hi hne1]
            refine q_iload hX 2 d_Mo_jump_70 rfl (by first | rfl | assumption) ?_
            refine r_i2l hX d_Mo_jump_71 ?_
            refine r_lcmp hX d_Mo_jump_72 ?_
            refine r_if_ne hX 95 d_Mo_jump_73 (by decide) (fun c73 => ?_) (fun c73 => ?_)
            · refine r_iload hX d_Mo_jump_95 (by first | rfl | assumption) ?_
              refine r_istore hX d_Mo_jump_97 (by decide) ?_
              refine r_iinc hX d_Mo_jump_99 (by first | rfl | assumption) ?_
              refine r_goto hX 6 d_Mo_jump_102 (by decide) ?_
              have hp0 : ¬ mp_j S j tr mo i = true := fun z => by
                have z := of_decide_eq_true z
                exact c73 (l_eq0.mpr z.2.2.1)
              exact ih (i + 1) _ (by omega) l0 l1 l2 l3 (by show some (Value.int _) = _; rw [sc_l, if_neg hp0]) (by show some (Value.int (nI i + Int32.ofInt 1)) = _; rw [show Int32.ofInt 1 = 1 from rfl, nI_1])
            · refine q_aload hX 0 d_Mo_jump_76 rfl (by first | rfl | assumption) ?_
              refine r_iload hX d_Mo_jump_77 (by first | rfl | assumption) ?_
              refine r_sipush (v := 179) hX d_Mo_jump_79 (by decide) ?_
              refine r_callV (as := [_, _]) hX d_Mo_jump_82 lk_Mo_266 hM.1 rfl rfl (Nat.le_of_ble_eq_true rfl) (by decide) 0 0 (Nat.le_refl _) (Nat.le_refl _) (c_Mo_first (G := G) hM hm (j := i) (s := 11) (by omega) (by decide) (by decide)) (fun v w1 hq => ?_)
              obtain ⟨rfl, hw⟩ := hq
              rw [hw, ← fn_mp hn hpo hpl hi hne1]
              refine q_lload hX 3 d_Mo_jump_85 rfl (by first | rfl | assumption) ?_
              refine r_lcmp hX d_Mo_jump_86 ?_
              refine r_if_gt hX 95 d_Mo_jump_87 (by decide) (fun c87 => ?_) (fun c87 => ?_)
              · refine r_iload hX d_Mo_jump_95 (by first | rfl | assumption) ?_
                refine r_istore hX d_Mo_jump_97 (by decide) ?_
                refine r_iinc hX d_Mo_jump_99 (by first | rfl | assumption) ?_
                refine r_goto hX 6 d_Mo_jump_102 (by decide) ?_
                have hp0 : ¬ mp_j S j tr mo i = true := fun z => by
                  have z := of_decide_eq_true z
                  exact absurd (l_gt0.mp c87) (by have := z.2.2.2; omega)
                exact ih (i + 1) _ (by omega) l0 l1 l2 l3 (by show some (Value.int _) = _; rw [sc_l, if_neg hp0]) (by show some (Value.int (nI i + Int32.ofInt 1)) = _; rw [show Int32.ofInt 1 = 1 from rfl, nI_1])
              · refine r_iload hX d_Mo_jump_90 (by first | rfl | assumption) ?_
                refine r_goto hX 97 d_Mo_jump_92 (by decide) ?_
                refine r_istore hX d_Mo_jump_97 (by decide) ?_
                refine r_iinc hX d_Mo_jump_99 (by first | rfl | assumption) ?_
                refine r_goto hX 6 d_Mo_jump_102 (by decide) ?_
                have hp1 : mp_j S j tr mo i = true := decide_eq_true ⟨h10, (hm.ms hi (by omega)).mp c46, l_eq0.mp c73, Int.not_lt.mp (fun z => c87 (l_gt0.mpr z))⟩
                exact ih (i + 1) _ (by omega) l0 l1 l2 l3 (by show some (Value.int (nI i)) = _; rw [sc_l, if_pos hp1]; rfl) (by show some (Value.int (nI i + Int32.ofInt 1)) = _; rw [show Int32.ofInt 1 = 1 from rfl, nI_1])
    refine r_iconst (v := -1) hX d_Mo_jump_0 (by decide) ?_
    refine r_istore hX d_Mo_jump_1 (by decide) ?_
    refine r_iconst (v := 0) hX d_Mo_jump_3 (by decide) ?_
    refine r_istore hX d_Mo_jump_4 (by decide) ?_
    exact loop (sn S) 0 _ (by omega) rfl rfl rfl rfl rfl rfl
  · have loop : ∀ (ls : Ev_L), ls.1 0 = some (.ref 117) → ls.1 1 = some (.int k) → ls.1 5 = some (.int (-1)) → ls.1 6 = some (.int (nI 0)) → ev_W G M_Mo_jump X 0 0 6 ls [] w := by
      intro ls l0 l1 l5 l6
      refine r_iload hX d_Mo_jump_6 (by first | rfl | assumption) ?_
      refine q_aload hX 0 d_Mo_jump_8 rfl (by first | rfl | assumption) ?_
      refine r_getm (J := 0) (x := nI (sn S)) hX d_Mo_jump_9 fl_Mo_86 hM hc rfl ?_
      refine r_icmp_ge hX 105 d_Mo_jump_12 (by decide) (fun c12 => ?_) (fun c12 => ?_)
      · refine r_iload hX d_Mo_jump_105 (by first | rfl | assumption) ?_
        refine r_if_ge hX 112 d_Mo_jump_107 (by decide) (fun c107 => absurd c107 (by decide)) (fun _ => ?_)
        refine r_iconst (v := -1) hX d_Mo_jump_110 (by decide) ?_
        refine r_iret hX hR d_Mo_jump_111 rfl (by first | rfl | assumption) ?_
        exact ⟨by rw [hsg], rfl⟩
      · refine q_aload hX 0 d_Mo_jump_15 rfl (by first | rfl | assumption) ?_
        refine q_iload hX 1 d_Mo_jump_16 rfl (by first | rfl | assumption) ?_
        refine r_ldc hX d_Mo_jump_17 m_682 ?_
        refine r_callV (as := [_, _]) hX d_Mo_jump_19 lk_Mo_208 hM.1 rfl rfl (Nat.le_of_ble_eq_true rfl) (by decide) 0 0 (Nat.le_refl _) (Nat.le_refl _) (c_Mo_is (G := G) hM hc hn _ 408125543) (fun v w1 hq => ?_)
        obtain ⟨rfl, hw⟩ := hq
        rw [hw]
        rw [seg_is hm, hsg]
        rw [show b_i (none : Option Nat).isSome = 0 from rfl]
        refine r_if_eq hX 105 d_Mo_jump_22 (by decide) (fun _ => ?_) (fun c22 => absurd rfl c22)
        refine r_iload hX d_Mo_jump_105 (by first | rfl | assumption) ?_
        refine r_if_ge hX 112 d_Mo_jump_107 (by decide) (fun c107 => absurd c107 (by decide)) (fun _ => ?_)
        refine r_iconst (v := -1) hX d_Mo_jump_110 (by decide) ?_
        refine r_iret hX hR d_Mo_jump_111 rfl (by first | rfl | assumption) ?_
        exact ⟨by rw [hsg], rfl⟩
    refine r_iconst (v := -1) hX d_Mo_jump_0 (by decide) ?_
    refine r_istore hX d_Mo_jump_1 (by decide) ?_
    refine r_iconst (v := 0) hX d_Mo_jump_3 (by decide) ?_
    refine r_istore hX d_Mo_jump_4 (by decide) ?_
    exact loop _ rfl rfl rfl rfl
