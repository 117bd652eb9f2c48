/-! ===== the reference: readNumber, keep, readText, readSum ===== -/
theorem bv_byte32 (b : BitVec 32) (s : Nat) (hs : s ≤ 24) : b.sshiftRight s &&& 255#32 = b >>> s &&& 255#32 := by
  apply BitVec.eq_of_getLsbD_eq
  intro i hi
  have h255 : ∀ i, i < 32 → (255#32).getLsbD i = decide (i < 8) := by decide
  rw [BitVec.getLsbD_and, BitVec.getLsbD_and, h255 i hi]
  by_cases z : i < 8
  · rw [decide_eq_true z]
    simp [BitVec.getLsbD_sshiftRight, show s + i < 32 by omega, show ¬ 32 ≤ i by omega]
  · rw [decide_eq_false z]; simp
theorem cr_by (x : Int32) : ∀ {k : Nat}, k < 4 → (x >>> ((8 * nI k) &&& 31)) &&& 255 = cr_b x k &&& 255 := by
  have key : ∀ (k s : Nat), ((8 * nI k) &&& 31).toBitVec.smod 32 = BitVec.ofNat 32 s → ((8 * nI k).toUInt32 &&& Int32.toUInt32 31).toBitVec % 32 = BitVec.ofNat 32 s → s ≤ 24 → (x >>> ((8 * nI k) &&& 31)) &&& 255 = cr_b x k &&& 255 := by
    intro k s h1 h2 h3
    apply Int32.toBitVec_inj.mp
    unfold cr_b
    rw [Int32.toBitVec_and, Int32.toBitVec_shiftRight, h1, Int32.toBitVec_and]
    show x.toBitVec.sshiftRight' (BitVec.ofNat 32 s) &&& 255#32 = (x.toUInt32 >>> ((8 * nI k).toUInt32 &&& Int32.toUInt32 31)).toBitVec &&& 255#32
    rw [UInt32.toBitVec_shiftRight, h2, BitVec.ushiftRight_eq']
    unfold BitVec.sshiftRight'
    rw [BitVec.toNat_ofNat, Nat.mod_eq_of_lt (by omega)]
    exact bv_byte32 x.toBitVec s h3
  intro k hk
  have : k = 0 ∨ k = 1 ∨ k = 2 ∨ k = 3 := by omega
  rcases this with rfl | rfl | rfl | rfl
  · exact key 0 0 (by decide) (by decide) (by decide)
  · exact key 1 8 (by decide) (by decide) (by decide)
  · exact key 2 16 (by decide) (by decide) (by decide)
  · exact key 3 24 (by decide) (by decide) (by decide)
theorem tx_zero (g : Nat → Nat) : ∀ (k q n : Nat), tx g (k + 1) q true n = if g q = 0 then tx g k (q + 1) true n else none
  | k, q, n => by
    rw [tx]
    by_cases z : g q = 0
    · rw [if_pos z, if_pos z]
    · rw [if_neg z, if_neg z, if_pos (Or.inl rfl)]
theorem c_Mo_readNumber {G : Ev_G} {w : Ev_W} {I : Nat → Int32} {v0 : Int64} {A : Ev_A} (hM : is_M w I v0 A) {c : Nat} {g : Nat → Nat} (hg : rd_g c (A.1 132) g) {p : Nat} (hat : I 7 = nI p) {n : Nat} (hcn : I 0 = nI n) (hn : n ≤ 60) {e : Nat} (hec : e ≤ c) (hpe : p ≤ e) : ev_Met G M_Mo_readNumber 0 0 0 [.ref 117, .int (nI e)] w (fun v w' => (¬ e - p ≤ 8 ∧ v = some (.int 0) ∧ w' = w) ∨ (e - p ≤ 8 ∧ v = some (.int 1) ∧ is_M w' I v0 (vset A n (lN (nb g p (e - p)))) ∧ mo_sm w w')) := by
  refine ev_Met.of md_Mo_readNumber (Nat.le_of_ble_eq_true rfl) (fun X hX hR => ?_)
  have hc := hg.1
  have hs : mo_sm w w := mo_sm.rf
  have loop : ∀ (t k : Nat) (ls : Ev_L), p + k + t = e → ls.1 0 = some (.ref 117) → ls.1 1 = some (.int (nI e)) → ls.2 2 = some (lN (nb g p k)) → ls.1 4 = some (.int (nI (p + k))) → e - p ≤ 8 → ev_W G M_Mo_readNumber X 0 0 21 ls [] w := by
    intro t
    induction t with
    | zero =>
      intro k ls e1 l0 l1 l2 l4 h8
      refine r_iload hX d_Mo_readNumber_21 (by first | rfl | assumption) ?_
      refine q_iload hX 1 d_Mo_readNumber_23 rfl (by first | rfl | assumption) ?_
      refine r_icmp_ge hX 47 d_Mo_readNumber_24 (by decide) (fun _ => ?_) (fun c24 => absurd (nI_le (by omega) (by omega)) c24)
      refine q_aload hX 0 d_Mo_readNumber_47 rfl (by first | rfl | assumption) ?_
      refine r_getf hX d_Mo_readNumber_48 fl_Mo_16 hM.1 rfl ?_
      refine q_aload hX 0 d_Mo_readNumber_51 rfl (by first | rfl | assumption) ?_
      refine r_getm (J := 0) (x := nI n) hX d_Mo_readNumber_52 fl_Mo_86 hM hcn rfl ?_
      refine q_lload hX 2 d_Mo_readNumber_55 rfl (by first | rfl | assumption) ?_
      refine r_lastm hX d_Mo_readNumber_56 hM hs rfl (by omega) (fun w hM hs => ?_)
      refine r_iconst (v := 1) hX d_Mo_readNumber_57 (by decide) ?_
      refine r_iret hX hR d_Mo_readNumber_58 rfl (by first | rfl | assumption) ?_
      exact Or.inr ⟨h8, rfl, by rw [show e - p = k by omega]; exact hM, hs⟩
    | succ t ih =>
      intro k ls e1 l0 l1 l2 l4 h8
      have hgk := hg.2 (p + k) (by omega)
      refine r_iload hX d_Mo_readNumber_21 (by first | rfl | assumption) ?_
      refine q_iload hX 1 d_Mo_readNumber_23 rfl (by first | rfl | assumption) ?_
      refine r_icmp_ge hX 47 d_Mo_readNumber_24 (by decide) (fun c24 => absurd c24 (nI_ge (by omega) (by omega))) (fun _ => ?_)
      refine q_lload hX 2 d_Mo_readNumber_27 rfl (by first | rfl | assumption) ?_
      refine r_bipush (v := 8) hX d_Mo_readNumber_28 (by decide) ?_
      refine r_lshl hX d_Mo_readNumber_30 ?_
      refine q_aload hX 0 d_Mo_readNumber_31 rfl (by first | rfl | assumption) ?_
      refine r_getf hX d_Mo_readNumber_32 fl_Mo_54 hM.1 rfl ?_
      refine r_iload hX d_Mo_readNumber_35 (by first | rfl | assumption) ?_
      refine r_ialdm (c := 132) (x := nI (g (p + k))) hX d_Mo_readNumber_37 hM rfl rfl (by omega) hgk.1 ?_
      refine r_i2l hX d_Mo_readNumber_38 ?_
      refine r_lor hX d_Mo_readNumber_39 ?_
      rw [lN_or8m _ hgk.2]
      refine q_lstore hX 2 d_Mo_readNumber_40 rfl (by decide) ?_
      refine r_iinc hX d_Mo_readNumber_41 (by first | rfl | assumption) ?_
      refine r_goto hX 21 d_Mo_readNumber_44 (by decide) ?_
      exact ih (k + 1) _ (by omega) l0 l1 rfl (by show some (Value.int (nI (p + k) + Int32.ofInt 1)) = _; rw [show Int32.ofInt 1 = 1 from rfl, nI_1, Nat.add_assoc]) h8
  refine q_iload hX 1 d_Mo_readNumber_0 rfl (by first | rfl | assumption) ?_
  refine q_aload hX 0 d_Mo_readNumber_1 rfl (by first | rfl | assumption) ?_
  refine r_getm (J := 7) (x := nI p) hX d_Mo_readNumber_2 fl_Mo_115 hM hat rfl ?_
  refine r_isub hX d_Mo_readNumber_5 ?_
  rw [nI_sb hpe]
  refine r_bipush (v := 8) hX d_Mo_readNumber_6 (by decide) ?_
  refine r_icmp_le hX 13 d_Mo_readNumber_8 (by decide) (fun c8 => ?_) (fun c8 => ?_)
  · refine r_lconst (v := 0) hX d_Mo_readNumber_13 (by decide) ?_
    refine q_lstore hX 2 d_Mo_readNumber_14 rfl (by decide) ?_
    refine q_aload hX 0 d_Mo_readNumber_15 rfl (by first | rfl | assumption) ?_
    refine r_getm (J := 7) (x := nI p) hX d_Mo_readNumber_16 fl_Mo_115 hM hat rfl ?_
    refine r_istore hX d_Mo_readNumber_19 (by decide) ?_
    exact loop (e - p) 0 _ (by omega) rfl rfl rfl rfl ((nI_leI (b := 8) (by omega) (by decide)).mp c8)
  · refine r_iconst (v := 0) hX d_Mo_readNumber_11 (by decide) ?_
    refine r_iret hX hR d_Mo_readNumber_12 rfl (by first | rfl | assumption) ?_
    exact Or.inl ⟨fun z => c8 (nI_le (b := 8) z (by decide)), rfl, rfl⟩
theorem c_Mo_keep {G : Ev_G} {w : Ev_W} {I : Nat → Int32} {v0 : Int64} {A : Ev_A} (hM : is_M w I v0 A) {p : Nat} (hat : I 7 = nI p) {sd m : Nat} (hu : I 1 = nI sd) (h13 : sd + m ≤ 1300) (h64 : p + m ≤ 640) : ev_Met G M_Mo_keep 0 0 0 [.ref 117, .int (nI m)] w (fun v w' => v = none ∧ ∃ A', is_M w' (upd (upd I 1 (nI (sd + m))) 7 (nI (p + m))) v0 A' ∧ mo_sm w w' ∧ a_but A A' [129] ∧ (∀ x, x < m → A'.1 129 (sd + x) = A.1 132 (p + x)) ∧ ∀ x, x < sd → A'.1 129 x = A.1 129 x) := by
  refine ev_Met.of md_Mo_keep (Nat.le_of_ble_eq_true rfl) (fun X hX hR => ?_)
  have hs : mo_sm w w := mo_sm.rf
  have loop : ∀ (t k : Nat) (A1 : Ev_A) (w1 : Ev_W) (ls : Ev_L), k + t = m → is_M w1 (upd (upd I 1 (nI (sd + k))) 7 (nI (p + k))) v0 A1 → mo_sm w w1 → a_but A A1 [129] → (∀ x, x < k → A1.1 129 (sd + x) = A.1 132 (p + x)) → (∀ x, x < sd → A1.1 129 x = A.1 129 x) → ls.1 0 = some (.ref 117) → ls.1 1 = some (.int (nI m)) → ls.1 2 = some (.int (nI k)) → ev_W G M_Mo_keep X 0 0 2 ls [] w1 := by
    intro t
    induction t with
    | zero =>
      intro k A1 w ls e1 hM hs g1 g2 g3 l0 l1 l2
      have e1 : k = m := e1
      subst e1
      refine q_iload hX 2 d_Mo_keep_2 rfl (by first | rfl | assumption) ?_
      refine q_iload hX 1 d_Mo_keep_3 rfl (by first | rfl | assumption) ?_
      refine r_icmp_ge hX 51 d_Mo_keep_4 (by decide) (fun _ => ?_) (fun c4 => absurd (nI_le (Nat.le_refl _) (by omega)) c4)
      refine r_vret hX hR d_Mo_keep_51 rfl ?_
      exact ⟨rfl, A1, hM, hs, g1, g2, g3⟩
    | succ t ih =>
      intro k A1 w ls e1 hM hs g1 g2 g3 l0 l1 l2
      refine q_iload hX 2 d_Mo_keep_2 rfl (by first | rfl | assumption) ?_
      refine q_iload hX 1 d_Mo_keep_3 rfl (by first | rfl | assumption) ?_
      refine r_icmp_ge hX 51 d_Mo_keep_4 (by decide) (fun c4 => absurd c4 (nI_ge (by omega) (by omega))) (fun _ => ?_)
      refine q_aload hX 0 d_Mo_keep_7 rfl (by first | rfl | assumption) ?_
      refine r_getf hX d_Mo_keep_8 fl_Mo_45 hM.1 rfl ?_
      refine q_aload hX 0 d_Mo_keep_11 rfl (by first | rfl | assumption) ?_
      refine r_getm (J := 1) (x := nI (sd + k)) hX d_Mo_keep_12 fl_Mo_104 hM rfl rfl ?_
      refine q_aload hX 0 d_Mo_keep_15 rfl (by first | rfl | assumption) ?_
      refine r_getf hX d_Mo_keep_16 fl_Mo_54 hM.1 rfl ?_
      refine q_aload hX 0 d_Mo_keep_19 rfl (by first | rfl | assumption) ?_
      refine r_getm (J := 7) (x := nI (p + k)) hX d_Mo_keep_20 fl_Mo_115 hM rfl rfl ?_
      refine r_ialdm (c := 132) (x := A.1 132 (p + k)) hX d_Mo_keep_23 hM rfl rfl (by omega) (congrFun (g1.1 132 (by decide)) _) ?_
      refine r_iastm (c := 129) hX d_Mo_keep_24 hM hs rfl rfl (by omega) (fun w hM hs => ?_)
      refine q_aload hX 0 d_Mo_keep_25 rfl (by first | rfl | assumption) ?_
      refine r_dup hX d_Mo_keep_26 rfl ?_
      refine r_getm (J := 1) (x := nI (sd + k)) hX d_Mo_keep_27 fl_Mo_104 hM rfl rfl ?_
      refine r_iconst (v := 1) hX d_Mo_keep_30 (by decide) ?_
      refine r_iadd hX d_Mo_keep_31 ?_
      rw [nI_1]
      refine r_putm (J := 1) hX d_Mo_keep_32 fp_Mo_104 hM hs rfl rfl (Nat.le_of_ble_eq_true rfl) rfl (fun w hM hs => ?_)
      refine q_aload hX 0 d_Mo_keep_35 rfl (by first | rfl | assumption) ?_
      refine r_dup hX d_Mo_keep_36 rfl ?_
      refine r_getm (J := 7) (x := nI (p + k)) hX d_Mo_keep_37 fl_Mo_115 hM rfl rfl ?_
      refine r_iconst (v := 1) hX d_Mo_keep_40 (by decide) ?_
      refine r_iadd hX d_Mo_keep_41 ?_
      rw [nI_1]
      refine r_putm (J := 7) hX d_Mo_keep_42 fp_Mo_115 hM hs rfl rfl (Nat.le_of_ble_eq_true rfl) rfl (fun w hM hs => ?_)
      refine r_iinc hX d_Mo_keep_45 (by first | rfl | assumption) ?_
      refine r_goto hX 2 d_Mo_keep_48 (by decide) ?_
      have hI : upd (upd (upd (upd I 1 (nI (sd + k))) 7 (nI (p + k))) 1 (nI (sd + k + 1))) 7 (nI (p + k + 1)) = upd (upd I 1 (nI (sd + (k + 1)))) 7 (nI (p + (k + 1))) := by
        funext j
        by_cases z7 : j = 7
        · subst z7; rfl
        · by_cases z1 : j = 1
          · subst z1; rfl
          · unfold upd; simp [z7, z1]
      rw [hI] at hM
      refine ih (k + 1) _ w _ (by omega) hM hs (g1.st (by simp)) (fun x hx => ?_) (fun x hx => ?_) l0 l1 (by show some (Value.int (nI k + Int32.ofInt 1)) = _; rw [show Int32.ofInt 1 = 1 from rfl, nI_1])
      · by_cases z : x = k
        · rw [z, aset_self]
        · rw [aset_off _ _ _ _ _ _ (Or.inr (by omega))]; exact g2 x (by omega)
      · rw [aset_off _ _ _ _ _ _ (Or.inr (by omega))]; exact g3 x hx
  refine r_iconst (v := 0) hX d_Mo_keep_0 (by decide) ?_
  refine q_istore hX 2 d_Mo_keep_1 rfl (by decide) ?_
  exact loop m 0 A w _ (by omega) (by rw [Nat.add_zero, Nat.add_zero, upd_id hu, upd_id hat]; exact hM) hs a_but.rf (fun x hx => by omega) (fun _ _ => rfl) rfl rfl rfl
theorem a_but.wk {A A' : Ev_A} (h : a_but A A' [122]) : a_but A A' [121, 122] := ⟨fun q hq => h.1 q (fun z => hq (by simp at z ⊢; exact Or.inr z)), h.2⟩
theorem c_Mo_readText {G : Ev_G} {w : Ev_W} {I : Nat → Int32} {v0 : Int64} {A : Ev_A} (hM : is_M w I v0 A) {c : Nat} {g : Nat → Nat} (hg : rd_g c (A.1 132) g) {p : Nat} (hat : I 7 = nI p) {n : Nat} (hcn : I 0 = nI n) (hn : n ≤ 60) {e : Nat} (hec : e ≤ c) (hpe : p ≤ e) : ev_Met G M_Mo_readText 0 0 0 [.ref 117, .int (nI e)] w (fun v w' => (match tx g (e - p) p false 0 with
    | none => v = some (.int 0) ∧ ∃ A', is_M w' I v0 A' ∧ mo_sm w w' ∧ a_but A A' [121, 122] ∧ (∀ x, x < n → A'.1 121 x = A.1 121 x) ∧ ∀ x, x < 16 * n → A'.1 122 x = A.1 122 x
    | some l => v = some (.int 1) ∧ l.length ≤ 16 ∧ ∃ A', is_M w' I v0 A' ∧ mo_sm w w' ∧ a_but A A' [121, 122] ∧ A'.1 121 = upd (A.1 121) n (nI l.length) ∧ (∀ i, i < l.length → A'.1 122 (16 * n + i) = nI (l.getD i 0)) ∧ ∀ x, x < 16 * n → A'.1 122 x = A.1 122 x)) := by
  refine ev_Met.of md_Mo_readText (Nat.le_of_ble_eq_true rfl) (fun X hX hR => ?_)
  have hc := hg.1
  have hs : mo_sm w w := mo_sm.rf
  have loop2 : ∀ (l : List Nat) (A1 : Ev_A), l.length ≤ 16 → a_but A A1 [121, 122] → A1.1 121 = upd (A.1 121) n (nI l.length) → (∀ i, i < l.length → A1.1 122 (16 * n + i) = nI (l.getD i 0)) → (∀ x, x < 16 * n → A1.1 122 x = A.1 122 x) → ∀ (t k : Nat) (w1 : Ev_W) (ls : Ev_L), k + t = e → tx g (e - p) p false 0 = (tx g t k true l.length).map (fun r => l ++ r) → is_M w1 I v0 A1 → mo_sm w w1 → ls.1 0 = some (.ref 117) → ls.1 1 = some (.int (nI e)) → ls.1 3 = some (.int (nI k)) → ev_W G M_Mo_readText X 0 0 96 ls [] w1 := by
    intro l A1 hl16 g1 g2 g3 g4 t
    induction t with
    | zero =>
      intro k w ls e1 e2 hM hs l0 l1 l3
      have hT : tx g (e - p) p false 0 = some l := by rw [e2]; show some (l ++ []) = _; rw [List.append_nil]
      refine q_iload hX 3 d_Mo_readText_96 rfl (by first | rfl | assumption) ?_
      refine q_iload hX 1 d_Mo_readText_97 rfl (by first | rfl | assumption) ?_
      refine r_icmp_ge hX 118 d_Mo_readText_98 (by decide) (fun _ => ?_) (fun c98 => absurd (nI_le (by omega) (by omega)) c98)
      refine r_iconst (v := 1) hX d_Mo_readText_118 (by decide) ?_
      refine r_iret hX hR d_Mo_readText_119 rfl (by first | rfl | assumption) ?_
      rw [hT]
      exact ⟨rfl, hl16, A1, hM, hs, g1, g2, g3, g4⟩
    | succ t ih =>
      intro k w ls e1 e2 hM hs l0 l1 l3
      have hgk := hg.2 k (by omega)
      have h32 : A1.1 132 k = nI (g k) := by rw [g1.1 132 (by decide)]; exact hgk.1
      rw [tx_zero] at e2
      refine q_iload hX 3 d_Mo_readText_96 rfl (by first | rfl | assumption) ?_
      refine q_iload hX 1 d_Mo_readText_97 rfl (by first | rfl | assumption) ?_
      refine r_icmp_ge hX 118 d_Mo_readText_98 (by decide) (fun c98 => absurd c98 (nI_ge (by omega) (by omega))) (fun _ => ?_)
      refine q_aload hX 0 d_Mo_readText_101 rfl (by first | rfl | assumption) ?_
      refine r_getf hX d_Mo_readText_102 fl_Mo_54 hM.1 rfl ?_
      refine q_iload hX 3 d_Mo_readText_105 rfl (by first | rfl | assumption) ?_
      refine r_ialdm (c := 132) (x := nI (g k)) hX d_Mo_readText_106 hM rfl rfl (by omega) h32 ?_
      refine r_if_eq hX 112 d_Mo_readText_107 (by decide) (fun c107 => ?_) (fun c107 => ?_)
      · refine r_iinc hX d_Mo_readText_112 (by first | rfl | assumption) ?_
        refine r_goto hX 96 d_Mo_readText_115 (by decide) ?_
        rw [if_pos ((nI_eq (b := 0) (by omega) (by decide)).mp c107)] at e2
        exact ih (k + 1) w _ (by omega) e2 hM hs l0 l1 (by show some (Value.int (nI k + Int32.ofInt 1)) = _; rw [show Int32.ofInt 1 = 1 from rfl, nI_1])
      · refine r_iconst (v := 0) hX d_Mo_readText_110 (by decide) ?_
        refine r_iret hX hR d_Mo_readText_111 rfl (by first | rfl | assumption) ?_
        rw [if_neg (fun z => c107 (by rw [z]; rfl))] at e2
        rw [e2]
        exact ⟨rfl, A1, hM, hs, g1, fun x hx => by rw [g2]; unfold upd; rw [if_neg (by omega)], g4⟩
  have loop1 : ∀ (t : Nat) (l : List Nat) (A1 : Ev_A) (w1 : Ev_W) (ls : Ev_L), p + l.length + t = e → l.length ≤ 16 → a_but A A1 [122] → (∀ i, i < l.length → A1.1 122 (16 * n + i) = nI (l.getD i 0)) → (∀ x, x < 16 * n → A1.1 122 x = A.1 122 x) → tx g (e - p) p false 0 = (tx g t (p + l.length) false l.length).map (fun r => l ++ r) → is_M w1 I v0 A1 → mo_sm w w1 → ls.1 0 = some (.ref 117) → ls.1 1 = some (.int (nI e)) → ls.1 2 = some (.int (nI l.length)) → ev_W G M_Mo_readText X 0 0 2 ls [] w1 := by
    intro t
    induction t with
    | zero =>
      intro l A1 w ls e1 hl16 g1 g3 g4 e2 hM hs l0 l1 l2
      refine q_aload hX 0 d_Mo_readText_2 rfl (by first | rfl | assumption) ?_
      refine r_getm (J := 7) (x := nI p) hX d_Mo_readText_3 fl_Mo_115 hM hat rfl ?_
      refine q_iload hX 2 d_Mo_readText_6 rfl (by first | rfl | assumption) ?_
      refine r_iadd hX d_Mo_readText_7 ?_
      rw [nI_add]
      refine q_iload hX 1 d_Mo_readText_8 rfl (by first | rfl | assumption) ?_
      refine r_icmp_ge hX 79 d_Mo_readText_9 (by decide) (fun _ => ?_) (fun c9 => absurd (nI_le (by omega) (by omega)) c9)
      refine q_aload hX 0 d_Mo_readText_79 rfl (by first | rfl | assumption) ?_
      refine r_getf hX d_Mo_readText_80 fl_Mo_20 hM.1 rfl ?_
      refine q_aload hX 0 d_Mo_readText_83 rfl (by first | rfl | assumption) ?_
      refine r_getm (J := 0) (x := nI n) hX d_Mo_readText_84 fl_Mo_86 hM hcn rfl ?_
      refine q_iload hX 2 d_Mo_readText_87 rfl (by first | rfl | assumption) ?_
      refine r_iastm (c := 121) hX d_Mo_readText_88 hM hs rfl rfl (by omega) (fun w hM hs => ?_)
      refine q_aload hX 0 d_Mo_readText_89 rfl (by first | rfl | assumption) ?_
      refine r_getm (J := 7) (x := nI p) hX d_Mo_readText_90 fl_Mo_115 hM hat rfl ?_
      refine q_iload hX 2 d_Mo_readText_93 rfl (by first | rfl | assumption) ?_
      refine r_iadd hX d_Mo_readText_94 ?_
      rw [nI_add]
      refine q_istore hX 3 d_Mo_readText_95 rfl (by decide) ?_
      exact loop2 l (aset A1 121 n (nI l.length)) hl16 ((a_but.wk g1).st (by simp)) (by rw [aset_at, g1.1 121 (by decide)]) (fun i hi => by rw [aset_ne _ _ _ (by decide)]; exact g3 i hi) (fun x hx => by rw [aset_ne _ _ _ (by decide)]; exact g4 x hx) 0 (p + l.length) w _ (by omega) (e2) hM hs l0 l1 rfl
    | succ t ih =>
      intro l A1 w ls e1 hl16 g1 g3 g4 e2 hM hs l0 l1 l2
      have hgk := hg.2 (p + l.length) (by omega)
      have h32 : A1.1 132 (p + l.length) = nI (g (p + l.length)) := by rw [g1.1 132 (by decide)]; exact hgk.1
      refine q_aload hX 0 d_Mo_readText_2 rfl (by first | rfl | assumption) ?_
      refine r_getm (J := 7) (x := nI p) hX d_Mo_readText_3 fl_Mo_115 hM hat rfl ?_
      refine q_iload hX 2 d_Mo_readText_6 rfl (by first | rfl | assumption) ?_
      refine r_iadd hX d_Mo_readText_7 ?_
      rw [nI_add]
      refine q_iload hX 1 d_Mo_readText_8 rfl (by first | rfl | assumption) ?_
      refine r_icmp_ge hX 79 d_Mo_readText_9 (by decide) (fun c9 => absurd c9 (nI_ge (by omega) (by omega))) (fun _ => ?_)
      refine q_aload hX 0 d_Mo_readText_12 rfl (by first | rfl | assumption) ?_
      refine r_getf hX d_Mo_readText_13 fl_Mo_54 hM.1 rfl ?_
      refine q_aload hX 0 d_Mo_readText_16 rfl (by first | rfl | assumption) ?_
      refine r_getm (J := 7) (x := nI p) hX d_Mo_readText_17 fl_Mo_115 hM hat rfl ?_
      refine q_iload hX 2 d_Mo_readText_20 rfl (by first | rfl | assumption) ?_
      refine r_iadd hX d_Mo_readText_21 ?_
      rw [nI_add]
      refine r_ialdm (c := 132) (x := nI (g (p + l.length))) hX d_Mo_readText_22 hM rfl (j := p + l.length) rfl (by omega) h32 ?_
      refine r_if_eq hX 79 d_Mo_readText_23 (by decide) (fun c23 => ?_) (fun c23 => ?_)
      · refine q_aload hX 0 d_Mo_readText_79 rfl (by first | rfl | assumption) ?_
        refine r_getf hX d_Mo_readText_80 fl_Mo_20 hM.1 rfl ?_
        refine q_aload hX 0 d_Mo_readText_83 rfl (by first | rfl | assumption) ?_
        refine r_getm (J := 0) (x := nI n) hX d_Mo_readText_84 fl_Mo_86 hM hcn rfl ?_
        refine q_iload hX 2 d_Mo_readText_87 rfl (by first | rfl | assumption) ?_
        refine r_iastm (c := 121) hX d_Mo_readText_88 hM hs rfl rfl (by omega) (fun w hM hs => ?_)
        refine q_aload hX 0 d_Mo_readText_89 rfl (by first | rfl | assumption) ?_
        refine r_getm (J := 7) (x := nI p) hX d_Mo_readText_90 fl_Mo_115 hM hat rfl ?_
        refine q_iload hX 2 d_Mo_readText_93 rfl (by first | rfl | assumption) ?_
        refine r_iadd hX d_Mo_readText_94 ?_
        rw [nI_add]
        refine q_istore hX 3 d_Mo_readText_95 rfl (by decide) ?_
        exact loop2 l (aset A1 121 n (nI l.length)) hl16 ((a_but.wk g1).st (by simp)) (by rw [aset_at, g1.1 121 (by decide)]) (fun i hi => by rw [aset_ne _ _ _ (by decide)]; exact g3 i hi) (fun x hx => by rw [aset_ne _ _ _ (by decide)]; exact g4 x hx) (t + 1) (p + l.length) w _ (by omega) (by rw [tx_zero, if_pos ((nI_eq (b := 0) (by omega) (by decide)).mp c23)]; rw [tx, if_pos ((nI_eq (b := 0) (by omega) (by decide)).mp c23)] at e2; exact e2) hM hs l0 l1 rfl
      · have hnz : ¬ g (p + l.length) = 0 := fun z => c23 (by rw [z]; rfl)
        refine q_aload hX 0 d_Mo_readText_26 rfl (by first | rfl | assumption) ?_
        refine r_getf hX d_Mo_readText_27 fl_Mo_54 hM.1 rfl ?_
        refine q_aload hX 0 d_Mo_readText_30 rfl (by first | rfl | assumption) ?_
        refine r_getm (J := 7) (x := nI p) hX d_Mo_readText_31 fl_Mo_115 hM hat rfl ?_
        refine q_iload hX 2 d_Mo_readText_34 rfl (by first | rfl | assumption) ?_
        refine r_iadd hX d_Mo_readText_35 ?_
        rw [nI_add]
        refine r_ialdm (c := 132) (x := nI (g (p + l.length))) hX d_Mo_readText_36 hM rfl (j := p + l.length) rfl (by omega) h32 ?_
        refine q_istore hX 3 d_Mo_readText_37 rfl (by decide) ?_
        refine q_iload hX 2 d_Mo_readText_38 rfl (by first | rfl | assumption) ?_
        refine r_bipush (v := 16) hX d_Mo_readText_39 (by decide) ?_
        refine r_icmp_eq hX 56 d_Mo_readText_41 (by decide) (fun c41 => ?_) (fun c41 => ?_)
        · refine r_iconst (v := 0) hX d_Mo_readText_56 (by decide) ?_
          refine r_iret hX hR d_Mo_readText_57 rfl (by first | rfl | assumption) ?_
          have hT : tx g (e - p) p false 0 = none := by
            rw [e2, tx, if_neg hnz, if_pos (Or.inr (Or.inr (by have := (nI_eq (b := 16) (by omega) (by decide)).mp c41; omega)))]; rfl
          rw [hT]
          exact ⟨rfl, A1, hM, hs, a_but.wk g1, fun x _ => by rw [g1.1 121 (by decide)], g4⟩
        · refine q_iload hX 3 d_Mo_readText_44 rfl (by first | rfl | assumption) ?_
          refine r_bipush (v := 32) hX d_Mo_readText_45 (by decide) ?_
          refine r_icmp_lt hX 56 d_Mo_readText_47 (by decide) (fun c47 => ?_) (fun c47 => ?_)
          · refine r_iconst (v := 0) hX d_Mo_readText_56 (by decide) ?_
            refine r_iret hX hR d_Mo_readText_57 rfl (by first | rfl | assumption) ?_
            have hT : tx g (e - p) p false 0 = none := by
              rw [e2, tx, if_neg hnz, if_pos (Or.inr (Or.inl (show ef_isl (nI (g (p + l.length))) = false from decide_eq_false (fun z => by rw [i_lt, show (32 : Int32).toInt = 32 from rfl] at c47; omega))))]; rfl
            rw [hT]
            exact ⟨rfl, A1, hM, hs, a_but.wk g1, fun x _ => by rw [g1.1 121 (by decide)], g4⟩
          · refine q_iload hX 3 d_Mo_readText_50 rfl (by first | rfl | assumption) ?_
            refine r_bipush (v := 126) hX d_Mo_readText_51 (by decide) ?_
            refine r_icmp_le hX 58 d_Mo_readText_53 (by decide) (fun c53 => ?_) (fun c53 => ?_)
            · have hlt : l.length < 16 := by
                have : l.length ≠ 16 := fun z => c41 (by rw [z]; rfl)
                omega
              have hisl : ef_isl (nI (g (p + l.length))) = true := decide_eq_true ⟨by rw [i_lt, show (32 : Int32).toInt = 32 from rfl] at c47; omega, by rw [i_le, show (126 : Int32).toInt = 126 from rfl] at c53; omega⟩
              refine q_aload hX 0 d_Mo_readText_58 rfl (by first | rfl | assumption) ?_
              refine r_getf hX d_Mo_readText_59 fl_Mo_23 hM.1 rfl ?_
              refine r_bipush (v := 16) hX d_Mo_readText_62 (by decide) ?_
              refine q_aload hX 0 d_Mo_readText_64 rfl (by first | rfl | assumption) ?_
              refine r_getm (J := 0) (x := nI n) hX d_Mo_readText_65 fl_Mo_86 hM hcn rfl ?_
              refine r_imul hX d_Mo_readText_68 ?_
              refine q_iload hX 2 d_Mo_readText_69 rfl (by first | rfl | assumption) ?_
              refine r_iadd hX d_Mo_readText_70 ?_
              refine q_iload hX 3 d_Mo_readText_71 rfl (by first | rfl | assumption) ?_
              refine r_iastm (c := 122) hX d_Mo_readText_72 hM hs rfl (j := 16 * n + l.length) (by rw [show (16 : Int32) = nI 16 from rfl, nI_ml, nI_add]) (by omega) (fun w hM hs => ?_)
              refine r_iinc hX d_Mo_readText_73 (by first | rfl | assumption) ?_
              refine r_goto hX 2 d_Mo_readText_76 (by decide) ?_
              refine ih (l ++ [g (p + l.length)]) _ w _ (by simp; omega) (by simp; omega) (g1.st (by simp)) (fun i hi => ?_) (fun x hx => ?_) ?_ hM hs l0 l1 (by show some (Value.int (nI l.length + Int32.ofInt 1)) = _; rw [show Int32.ofInt 1 = 1 from rfl, nI_1, List.length_append]; rfl)
              · rw [List.length_append] at hi
                have hi : i < l.length + 1 := hi
                by_cases z : i = l.length
                · rw [z, aset_self, gd_r]
                · rw [aset_off _ _ _ _ _ _ (Or.inr (by omega)), gd_l (by omega)]; exact g3 i (by omega)
              · rw [aset_off _ _ _ _ _ _ (Or.inr (by omega))]; exact g4 x hx
              · rw [e2, tx, if_neg hnz, if_neg (fun z => by rcases z with z | z | z; cases z; rw [hisl] at z; cases z; exact z hlt), Option.map_map, List.length_append]
                congr 1
                funext r
                show l ++ (g (p + l.length) :: r) = (l ++ [g (p + l.length)]) ++ r
                rw [List.append_assoc]; rfl
            · refine r_iconst (v := 0) hX d_Mo_readText_56 (by decide) ?_
              refine r_iret hX hR d_Mo_readText_57 rfl (by first | rfl | assumption) ?_
              have hT : tx g (e - p) p false 0 = none := by
                rw [e2, tx, if_neg hnz, if_pos (Or.inr (Or.inl (show ef_isl (nI (g (p + l.length))) = false from decide_eq_false (fun z => by rw [i_le, show (126 : Int32).toInt = 126 from rfl] at c53; omega))))]; rfl
              rw [hT]
              exact ⟨rfl, A1, hM, hs, a_but.wk g1, fun x _ => by rw [g1.1 121 (by decide)], g4⟩
  refine r_iconst (v := 0) hX d_Mo_readText_0 (by decide) ?_
  refine q_istore hX 2 d_Mo_readText_1 rfl (by decide) ?_
  exact loop1 (e - p) [] A w _ (by show p + 0 + (e - p) = e; omega) (by decide) a_but.rf (fun i hi => by cases hi) (fun _ _ => rfl) (by show _ = Option.map (fun r => r) (tx g (e - p) p false 0); rw [Option.map_id']) hM hs rfl rfl rfl
theorem c_Mo_readSum {G : Ev_G} {w : Ev_W} {I : Nat → Int32} {v0 : Int64} {A : Ev_A} (hM : is_M w I v0 A) {c : Nat} {g : Nat → Nat} (hg : rd_g c (A.1 132) g) {p : Nat} (hat : I 7 = nI p) {e me : Nat} (hmc : me ≤ c) (hpe : p ≤ e) (hem : e ≤ me) : ev_Met G M_Mo_readSum 1 0 0 [.ref 117, .int (nI e), .int (nI me)] w (fun v w' => v = some (.int (b_i (rk g p e me))) ∧ w' = w) := by
  refine ev_Met.of md_Mo_readSum (Nat.le_of_ble_eq_true rfl) (fun X hX hR => ?_)
  have hc := hg.1
  have loop2 : e - p = 4 → ∀ (s : Int32) (t k : Nat) (ls : Ev_L), k + t = 4 → rk_go g p s t k = rk_go g p s 4 0 → s = cr_s (fun i => nI (g i)) (me - e) e (-1) ^^^ -1 → ls.1 0 = some (.ref 117) → ls.1 3 = some (.int s) → ls.1 4 = some (.int (nI k)) → ev_W G M_Mo_readSum X 0 0 48 ls [] w := by
    intro h4 s t
    induction t with
    | zero =>
      intro k ls e1 e2 es l0 l3 l4
      have e1 : k = 4 := e1
      subst e1
      refine r_iload hX d_Mo_readSum_48 (by first | rfl | assumption) ?_
      refine r_iconst (v := 4) hX d_Mo_readSum_50 (by decide) ?_
      refine r_icmp_ge hX 88 d_Mo_readSum_51 (by decide) (fun _ => ?_) (fun c51 => absurd (by decide) c51)
      refine r_iconst (v := 1) hX d_Mo_readSum_88 (by decide) ?_
      refine r_iret hX hR d_Mo_readSum_89 rfl (by first | rfl | assumption) ?_
      exact ⟨by rw [rk, decide_eq_true h4, ← es, ← e2]; rfl, rfl⟩
    | succ t ih =>
      intro k ls e1 e2 es l0 l3 l4
      have hgk := hg.2 (p + k) (by omega)
      refine r_iload hX d_Mo_readSum_48 (by first | rfl | assumption) ?_
      refine r_iconst (v := 4) hX d_Mo_readSum_50 (by decide) ?_
      refine r_icmp_ge hX 88 d_Mo_readSum_51 (by decide) (fun c51 => absurd c51 (nI_ge (a := k) (b := 4) (by omega) (by decide))) (fun _ => ?_)
      refine q_aload hX 0 d_Mo_readSum_54 rfl (by first | rfl | assumption) ?_
      refine r_getf hX d_Mo_readSum_55 fl_Mo_54 hM.1 rfl ?_
      refine q_aload hX 0 d_Mo_readSum_58 rfl (by first | rfl | assumption) ?_
      refine r_getm (J := 7) (x := nI p) hX d_Mo_readSum_59 fl_Mo_115 hM hat rfl ?_
      refine r_iload hX d_Mo_readSum_62 (by first | rfl | assumption) ?_
      refine r_iadd hX d_Mo_readSum_64 ?_
      rw [nI_add]
      refine r_ialdm (c := 132) (x := nI (g (p + k))) hX d_Mo_readSum_65 hM rfl (j := p + k) rfl (by omega) hgk.1 ?_
      refine q_iload hX 3 d_Mo_readSum_66 rfl (by first | rfl | assumption) ?_
      refine r_bipush (v := 8) hX d_Mo_readSum_67 (by decide) ?_
      refine r_iload hX d_Mo_readSum_69 (by first | rfl | assumption) ?_
      refine r_imul hX d_Mo_readSum_71 ?_
      refine r_ishr hX d_Mo_readSum_72 ?_
      refine r_sipush (v := 255) hX d_Mo_readSum_73 (by decide) ?_
      refine r_iand hX d_Mo_readSum_76 ?_
      rw [cr_by _ (by omega)]
      refine r_icmp_eq hX 82 d_Mo_readSum_77 (by decide) (fun c77 => ?_) (fun c77 => ?_)
      · refine r_iinc hX d_Mo_readSum_82 (by first | rfl | assumption) ?_
        refine r_goto hX 48 d_Mo_readSum_85 (by decide) ?_
        exact ih (k + 1) _ (by omega) (by rw [← e2, rk_go, if_pos c77]) es l0 l3 (by show some (Value.int (nI k + Int32.ofInt 1)) = _; rw [show Int32.ofInt 1 = 1 from rfl, nI_1])
      · refine r_iconst (v := 0) hX d_Mo_readSum_80 (by decide) ?_
        refine r_iret hX hR d_Mo_readSum_81 rfl (by first | rfl | assumption) ?_
        exact ⟨by rw [rk, decide_eq_true h4, ← es, ← e2, rk_go, if_neg c77]; rfl, rfl⟩
  have loop1 : e - p = 4 → ∀ (t k : Nat) (ls : Ev_L) (y : Int32), k + t = me → cr_s (fun i => nI (g i)) t k y = cr_s (fun i => nI (g i)) (me - e) e (-1) → ls.1 0 = some (.ref 117) → ls.1 2 = some (.int (nI me)) → ls.1 3 = some (.int y) → ls.1 4 = some (.int (nI k)) → ev_W G M_Mo_readSum X 0 0 17 ls [] w := by
    intro h4 t
    induction t with
    | zero =>
      intro k ls y e1 e2 l0 l2 l3 l4
      refine r_iload hX d_Mo_readSum_17 (by first | rfl | assumption) ?_
      refine q_iload hX 2 d_Mo_readSum_19 rfl (by first | rfl | assumption) ?_
      refine r_icmp_ge hX 41 d_Mo_readSum_20 (by decide) (fun _ => ?_) (fun c20 => absurd (nI_le (by omega) (by omega)) c20)
      refine q_iload hX 3 d_Mo_readSum_41 rfl (by first | rfl | assumption) ?_
      refine r_iconst (v := -1) hX d_Mo_readSum_42 (by decide) ?_
      refine r_ixor hX d_Mo_readSum_43 ?_
      refine q_istore hX 3 d_Mo_readSum_44 rfl (by decide) ?_
      refine r_iconst (v := 0) hX d_Mo_readSum_45 (by decide) ?_
      refine r_istore hX d_Mo_readSum_46 (by decide) ?_
      exact loop2 h4 _ 4 0 _ rfl rfl (by rw [← e2]; rfl) l0 rfl rfl
    | succ t ih =>
      intro k ls y e1 e2 l0 l2 l3 l4
      have hgk := hg.2 k (by omega)
      refine r_iload hX d_Mo_readSum_17 (by first | rfl | assumption) ?_
      refine q_iload hX 2 d_Mo_readSum_19 rfl (by first | rfl | assumption) ?_
      refine r_icmp_ge hX 41 d_Mo_readSum_20 (by decide) (fun c20 => absurd c20 (nI_ge (by omega) (by omega))) (fun _ => ?_)
      refine q_iload hX 3 d_Mo_readSum_23 rfl (by first | rfl | assumption) ?_
      refine q_aload hX 0 d_Mo_readSum_24 rfl (by first | rfl | assumption) ?_
      refine r_getf hX d_Mo_readSum_25 fl_Mo_54 hM.1 rfl ?_
      refine r_iload hX d_Mo_readSum_28 (by first | rfl | assumption) ?_
      refine r_ialdm (c := 132) (x := nI (g k)) hX d_Mo_readSum_30 hM rfl rfl (by omega) hgk.1 ?_
      refine r_callS (as := [_, _]) hX d_Mo_readSum_31 lk_Mo_136 rfl (Nat.le_of_ble_eq_true rfl) (by decide) 0 0 (Nat.le_refl _) (Nat.le_refl _) (c_Mo_crcStep (G := G) _ _) (fun v w1 hq => ?_)
      obtain ⟨rfl, hw⟩ := hq
      rw [hw]
      refine q_istore hX 3 d_Mo_readSum_34 rfl (by decide) ?_
      refine r_iinc hX d_Mo_readSum_35 (by first | rfl | assumption) ?_
      refine r_goto hX 17 d_Mo_readSum_38 (by decide) ?_
      exact ih (k + 1) _ _ (by omega) (by rw [← e2, cr_s, nI_b hgk.2]) l0 l2 rfl (by show some (Value.int (nI k + Int32.ofInt 1)) = _; rw [show Int32.ofInt 1 = 1 from rfl, nI_1])
  refine q_iload hX 1 d_Mo_readSum_0 rfl (by first | rfl | assumption) ?_
  refine q_aload hX 0 d_Mo_readSum_1 rfl (by first | rfl | assumption) ?_
  refine r_getm (J := 7) (x := nI p) hX d_Mo_readSum_2 fl_Mo_115 hM hat rfl ?_
  refine r_isub hX d_Mo_readSum_5 ?_
  rw [nI_sb hpe]
  refine r_iconst (v := 4) hX d_Mo_readSum_6 (by decide) ?_
  refine r_icmp_eq hX 12 d_Mo_readSum_7 (by decide) (fun c7 => ?_) (fun c7 => ?_)
  · refine r_iconst (v := -1) hX d_Mo_readSum_12 (by decide) ?_
    refine q_istore hX 3 d_Mo_readSum_13 rfl (by decide) ?_
    refine q_iload hX 1 d_Mo_readSum_14 rfl (by first | rfl | assumption) ?_
    refine r_istore hX d_Mo_readSum_15 (by decide) ?_
    exact loop1 ((nI_eq (b := 4) (by omega) (by decide)).mp c7) (me - e) e _ (-1) (by omega) rfl rfl rfl rfl rfl
  · refine r_iconst (v := 0) hX d_Mo_readSum_10 (by decide) ?_
    refine r_iret hX hR d_Mo_readSum_11 rfl (by first | rfl | assumption) ?_
    exact ⟨by rw [rk, decide_eq_false (fun z => c7 (by rw [z]; rfl))]; rfl, rfl⟩
