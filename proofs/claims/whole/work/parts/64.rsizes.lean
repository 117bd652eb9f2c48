/-! ===== the reference: readSizes ===== -/
theorem nI_d {a b : Nat} (ha : a < 2 ^ 30) (hb : b < 2 ^ 30) : (nI a - nI b).toInt = (a : Int) - (b : Int) := by
  rw [Int32.toInt_sub, nI_toInt (by omega), nI_toInt (by omega)]
  exact Int.bmod_eq_of_le (by omega) (by omega)
def rss_post (w : Ev_W) (I : Nat → Int32) (A : Ev_A) (o : Option (List Nat × Nat)) (n k : Nat) (v : Option Value) (w' : Ev_W) : Prop := ∃ I' v' A', is_M w' I' v' A' ∧ mo_sm w w' ∧ i_but I I' [7, 8, 9] ∧ a_but A A' [127] ∧ (∀ x, x < 8 * n → A'.1 127 x = A.1 127 x) ∧ match o with
  | none => v = some (.int 0)
  | some q => v = some (.int 1) ∧ I' 7 = nI q.2 ∧ q.1.length = k ∧ ∀ i, i < k → A'.1 127 (8 * n + i) = nI (q.1.getD i 0)
set_option maxHeartbeats 1000000 in
theorem c_Mo_readSizes {G : Ev_G} {w : Ev_W} {I : Nat → Int32} {v0 : Int64} {A : Ev_A} (hM : is_M w I v0 A) {c : Nat} {g : Nat → Nat} (hg : rd_g c (A.1 132) g) {p : Nat} (hat : I 7 = nI p) {n : Nat} (hcn : I 0 = nI n) (hn : n ≤ 60) {la k e : Nat} (hec : e ≤ c) (hpe : p ≤ e) (hla4 : la ≤ 3) (hk1 : 1 ≤ k) (hk8 : k ≤ 8) : ev_Met G M_Mo_readSizes 3 0 0 [.ref 117, .int (nI la), .int (nI k), .int (nI e)] w (rss_post w I A (bz g la k p e) n k) := by
  refine ev_Met.of md_Mo_readSizes (Nat.le_of_ble_eq_true rfl) (fun X hX hR => ?_)
  have hc := hg.1
  obtain ⟨w0, hw0⟩ : ∃ w0, w0 = w := ⟨_, rfl⟩
  have hs : mo_sm w0 w := by rw [hw0]; exact mo_sm.rf
  have loop2 : la = 2 → ∀ (t i : Nat) (A1 : Ev_A) (w1 : Ev_W) (ls : Ev_L), i + t = k → is_M w1 I v0 A1 → mo_sm w0 w1 → a_but A A1 [127] → (∀ x, x < 8 * n → A1.1 127 x = A.1 127 x) → (∀ x, x < i → A1.1 127 (8 * n + x) = nI ((e - p) / k)) → ls.1 0 = some (.ref 117) → ls.1 2 = some (.int (nI k)) → ls.1 6 = some (.int (nI (e - p))) → ls.1 7 = some (.int (nI i)) → ev_W G M_Mo_readSizes X 0 0 94 ls [] w1 := by
    intro hla t
    induction t with
    | zero =>
      intro i A1 w ls e1 hM hs g1 g2 g3 l0 l2 l6 l7
      have e1 : i = k := e1
      subst e1
      refine r_iload hX d_Mo_readSizes_94 (by first | rfl | assumption) ?_
      refine q_iload hX 2 d_Mo_readSizes_96 rfl (by first | rfl | assumption) ?_
      refine r_icmp_ge hX 125 d_Mo_readSizes_97 (by decide) (fun _ => ?_) (fun c97 => absurd (nI_le (Nat.le_refl _) (by omega)) c97)
      refine r_iload hX d_Mo_readSizes_125 (by first | rfl | assumption) ?_
      refine q_iload hX 2 d_Mo_readSizes_127 rfl (by first | rfl | assumption) ?_
      refine r_irem hX d_Mo_readSizes_128 (nI_ne0 (by omega) (by omega)) ?_
      rw [nI_md (by omega) (by omega)]
      refine r_if_ne hX 136 d_Mo_readSizes_129 (by decide) (fun c129 => ?_) (fun c129 => ?_)
      · refine r_iconst (v := 0) hX d_Mo_readSizes_136 (by decide) ?_
        refine r_iret hX hR d_Mo_readSizes_137 rfl (by first | rfl | assumption) ?_
        have hz : bz g la i p e = none := by rw [bz, if_neg (by omega), if_pos hla, if_neg (fun z => c129 (by rw [z]; rfl))]
        rw [hz]
        exact ⟨_, _, A1, hM, hw0 ▸ hs, i_but.rf, g1, g2, rfl⟩
      · refine r_iconst (v := 1) hX d_Mo_readSizes_132 (by decide) ?_
        refine r_goto hX 137 d_Mo_readSizes_133 (by decide) ?_
        refine r_iret hX hR d_Mo_readSizes_137 rfl (by first | rfl | assumption) ?_
        have hz : bz g la i p e = some (List.replicate i ((e - p) / i), p) := by rw [bz, if_neg (by omega), if_pos hla, if_pos ((nI_eq (b := 0) (by have := Nat.mod_lt (e - p) (show 0 < i by omega); omega) (by decide)).mp c129)]
        rw [hz]
        exact ⟨_, _, A1, hM, hw0 ▸ hs, i_but.rf, g1, g2, rfl, hat, List.length_replicate, fun x hx => by rw [g3 x hx, List.getD_eq_getElem?_getD, List.getElem?_replicate, if_pos hx]; rfl⟩
    | succ t ih =>
      intro i A1 w ls e1 hM hs g1 g2 g3 l0 l2 l6 l7
      refine r_iload hX d_Mo_readSizes_94 (by first | rfl | assumption) ?_
      refine q_iload hX 2 d_Mo_readSizes_96 rfl (by first | rfl | assumption) ?_
      refine r_icmp_ge hX 125 d_Mo_readSizes_97 (by decide) (fun c97 => absurd c97 (nI_ge (by omega) (by omega))) (fun _ => ?_)
      refine q_aload hX 0 d_Mo_readSizes_100 rfl (by first | rfl | assumption) ?_
      refine r_getf hX d_Mo_readSizes_101 fl_Mo_39 hM.1 rfl ?_
      refine r_bipush (v := 8) hX d_Mo_readSizes_104 (by decide) ?_
      refine q_aload hX 0 d_Mo_readSizes_106 rfl (by first | rfl | assumption) ?_
      refine r_getm (J := 0) (x := nI n) hX d_Mo_readSizes_107 fl_Mo_86 hM hcn rfl ?_
      refine r_imul hX d_Mo_readSizes_110 ?_
      refine r_iload hX d_Mo_readSizes_111 (by first | rfl | assumption) ?_
      refine r_iadd hX d_Mo_readSizes_113 ?_
      refine r_iload hX d_Mo_readSizes_114 (by first | rfl | assumption) ?_
      refine q_iload hX 2 d_Mo_readSizes_116 rfl (by first | rfl | assumption) ?_
      refine r_idiv hX d_Mo_readSizes_117 (nI_ne0 (by omega) (by omega)) ?_
      rw [nI_dv (by omega) (by omega)]
      refine r_iastm (c := 127) hX d_Mo_readSizes_118 hM hs rfl (j := 8 * n + i) (by rw [show (8 : Int32) = nI 8 from rfl, nI_ml, nI_add]) (by omega) (fun w hM hs => ?_)
      refine r_iinc hX d_Mo_readSizes_119 (by first | rfl | assumption) ?_
      refine r_goto hX 94 d_Mo_readSizes_122 (by decide) ?_
      refine ih (i + 1) _ w _ (by omega) hM hs (g1.st (by simp)) (fun x hx => ?_) (fun x hx => ?_) l0 l2 l6 (by show some (Value.int (nI i + Int32.ofInt 1)) = _; rw [show Int32.ofInt 1 = 1 from rfl, nI_1])
      · rw [aset_off _ _ _ _ _ _ (Or.inr (by omega))]; exact g2 x hx
      · by_cases z : x = i
        · rw [z, aset_self]
        · rw [aset_off _ _ _ _ _ _ (Or.inr (by omega))]; exact g3 x (by omega)
  have loop1 : ¬ la = 2 → ∀ (t : Nat) (l : List Nat) (I1 : Nat → Int32) (v1 : Int64) (A1 : Ev_A) (q prev sum : Nat) (w1 : Ev_W) (ls : Ev_L), l.length + t + 1 = k → is_M w1 I1 v1 A1 → mo_sm w0 w1 → i_but I I1 [7, 8, 9] → a_but A A1 [127] → (∀ x, x < 8 * n → A1.1 127 x = A.1 127 x) → (∀ x, x < l.length → A1.1 127 (8 * n + x) = nI (l.getD x 0)) → I1 7 = nI q → q ≤ e → prev < 2 ^ 20 → sum ≤ l.length * 2 ^ 20 → mz g la e (k - 1) 0 p 0 0 = (mz g la e t l.length q prev sum).map (fun r => (l ++ r.1, r.2)) → ls.1 0 = some (.ref 117) → ls.1 1 = some (.int (nI la)) → ls.1 2 = some (.int (nI k)) → ls.1 3 = some (.int (nI e)) → ls.1 4 = some (.int (nI sum)) → ls.1 5 = some (.int (nI prev)) → ls.1 6 = some (.int (nI l.length)) → ev_W G M_Mo_readSizes X 0 0 9 ls [] w1 := by
    intro hla t
    have hbz : bz g la k p e = mz g la e (k - 1) 0 p 0 0 := by rw [bz, if_neg (by omega), if_neg hla, rz_mz (by omega) _ _ _ _ _ hpe]
    induction t with
    | zero =>
      intro l I1 v1 A1 q prev sum w ls e1 hM hs hI g1 g2 g3 ha1 hqe hpr hsum e2 l0 l1 l2 l3 l4 l5 l6
      rw [mz] at e2
      have hd := nI_d (a := e - q) (b := sum) (by omega) (by omega)
      refine r_iload hX d_Mo_readSizes_9 (by first | rfl | assumption) ?_
      refine r_iconst (v := 1) hX d_Mo_readSizes_11 (by decide) ?_
      refine r_iadd hX d_Mo_readSizes_12 ?_
      rw [nI_1]
      refine q_iload hX 2 d_Mo_readSizes_13 rfl (by first | rfl | assumption) ?_
      refine r_icmp_ge hX 75 d_Mo_readSizes_14 (by decide) (fun _ => ?_) (fun c14 => absurd (nI_le (b := l.length + 1) (by omega) (by omega)) c14)
      refine q_iload hX 3 d_Mo_readSizes_75 rfl (by first | rfl | assumption) ?_
      refine q_aload hX 0 d_Mo_readSizes_76 rfl (by first | rfl | assumption) ?_
      refine r_getm (J := 7) (x := nI q) hX d_Mo_readSizes_77 fl_Mo_115 hM ha1 rfl ?_
      refine r_isub hX d_Mo_readSizes_80 ?_
      rw [nI_sb hqe]
      refine r_iload hX d_Mo_readSizes_81 (by first | rfl | assumption) ?_
      refine r_isub hX d_Mo_readSizes_83 ?_
      refine r_istore hX d_Mo_readSizes_84 (by decide) ?_
      refine q_iload hX 1 d_Mo_readSizes_86 rfl (by first | rfl | assumption) ?_
      refine r_iconst (v := 2) hX d_Mo_readSizes_87 (by decide) ?_
      refine r_icmp_ne hX 138 d_Mo_readSizes_88 (by decide) (fun _ => ?_) (fun c88 => absurd ((nI_eq (b := 2) (by omega) (by decide)).mp c88) hla)
      refine q_aload hX 0 d_Mo_readSizes_138 rfl (by first | rfl | assumption) ?_
      refine r_getf hX d_Mo_readSizes_139 fl_Mo_39 hM.1 rfl ?_
      refine r_bipush (v := 8) hX d_Mo_readSizes_142 (by decide) ?_
      refine q_aload hX 0 d_Mo_readSizes_144 rfl (by first | rfl | assumption) ?_
      refine r_getm (J := 0) (x := nI n) hX d_Mo_readSizes_145 fl_Mo_86 hM ((hI 0 (by decide)).trans hcn) rfl ?_
      refine r_imul hX d_Mo_readSizes_148 ?_
      refine q_iload hX 2 d_Mo_readSizes_149 rfl (by first | rfl | assumption) ?_
      refine r_iadd hX d_Mo_readSizes_150 ?_
      refine r_iconst (v := 1) hX d_Mo_readSizes_151 (by decide) ?_
      refine r_isub hX d_Mo_readSizes_152 ?_
      refine r_iload hX d_Mo_readSizes_153 (by first | rfl | assumption) ?_
      refine r_iastm (c := 127) hX d_Mo_readSizes_155 hM hs rfl (j := 8 * n + l.length) (by rw [show (8 : Int32) = nI 8 from rfl, nI_ml, nI_add, show 8 * n + k = (8 * n + l.length) + 1 by omega, nI_pred]) (by omega) (fun w hM hs => ?_)
      refine r_iload hX d_Mo_readSizes_156 (by first | rfl | assumption) ?_
      refine r_if_lt hX 165 d_Mo_readSizes_158 (by decide) (fun c158 => ?_) (fun c158 => ?_)
      · refine r_iconst (v := 0) hX d_Mo_readSizes_165 (by decide) ?_
        refine r_iret hX hR d_Mo_readSizes_166 rfl (by first | rfl | assumption) ?_
        have hno : ¬ sum ≤ e - q := fun z => by rw [i_lt, hd, i_0] at c158; omega
        have hz : bz g la k p e = none := by rw [hbz, e2, if_neg hno]; rfl
        rw [hz]
        exact ⟨_, _, _, hM, hw0 ▸ hs, hI, g1.st (by simp), fun x hx => by rw [aset_off _ _ _ _ _ _ (Or.inr (by omega))]; exact g2 x hx, rfl⟩
      · refine r_iconst (v := 1) hX d_Mo_readSizes_161 (by decide) ?_
        refine r_goto hX 166 d_Mo_readSizes_162 (by decide) ?_
        refine r_iret hX hR d_Mo_readSizes_166 rfl (by first | rfl | assumption) ?_
        have hyes : sum ≤ e - q := by
          by_cases z : sum ≤ e - q
          · exact z
          · exact absurd (by rw [i_lt, hd, i_0]; omega) c158
        have hz : bz g la k p e = some (l ++ [e - q - sum], q) := by rw [hbz, e2, if_pos hyes]; rfl
        rw [hz]
        refine ⟨_, _, _, hM, hw0 ▸ hs, hI, g1.st (by simp), fun x hx => by rw [aset_off _ _ _ _ _ _ (Or.inr (by omega))]; exact g2 x hx, rfl, ha1, by rw [List.length_append]; exact e1, fun x hx => ?_⟩
        by_cases z : x = l.length
        · rw [z, aset_self, gd_r, nI_sb hyes]
        · rw [aset_off _ _ _ _ _ _ (Or.inr (by omega)), gd_l (by omega)]; exact g3 x (by omega)
    | succ t ih =>
      intro l I1 v1 A1 q prev sum w ls e1 hM hs hI g1 g2 g3 ha1 hqe hpr hsum e2 l0 l1 l2 l3 l4 l5 l6
      refine r_iload hX d_Mo_readSizes_9 (by first | rfl | assumption) ?_
      refine r_iconst (v := 1) hX d_Mo_readSizes_11 (by decide) ?_
      refine r_iadd hX d_Mo_readSizes_12 ?_
      rw [nI_1]
      refine q_iload hX 2 d_Mo_readSizes_13 rfl (by first | rfl | assumption) ?_
      refine r_icmp_ge hX 75 d_Mo_readSizes_14 (by decide) (fun c14 => absurd c14 (nI_ge (a := l.length + 1) (b := k) (by omega) (by omega))) (fun _ => ?_)
      refine q_iload hX 1 d_Mo_readSizes_17 rfl (by first | rfl | assumption) ?_
      refine r_iconst (v := 2) hX d_Mo_readSizes_18 (by decide) ?_
      refine r_icmp_eq hX 75 d_Mo_readSizes_19 (by decide) (fun c19 => absurd ((nI_eq (b := 2) (by omega) (by decide)).mp c19) hla) (fun _ => ?_)
      refine q_aload hX 0 d_Mo_readSizes_22 rfl (by first | rfl | assumption) ?_
      refine q_iload hX 1 d_Mo_readSizes_23 rfl (by first | rfl | assumption) ?_
      refine r_iload hX d_Mo_readSizes_24 (by first | rfl | assumption) ?_
      refine r_iload hX d_Mo_readSizes_26 (by first | rfl | assumption) ?_
      refine q_iload hX 3 d_Mo_readSizes_28 rfl (by first | rfl | assumption) ?_
      refine r_callV (as := [_, _, _, _]) hX d_Mo_readSizes_29 lk_Mo_145 hM.1 rfl rfl (Nat.le_of_ble_eq_true rfl) (by decide) 0 0 (Nat.le_refl _) (Nat.le_refl _) (c_Mo_readSize (G := G) hM (c := c) (g := g) (by rw [g1.1 132 (by decide)]; exact hg) ha1 hec hqe (by omega) (by omega) hpr) (fun v w hq => ?_)
      obtain ⟨I2, v2, hM, hs2, hI2, hq⟩ := hq
      have hs := hs.tr hs2
      have hI := hI.tr hI2
      cases hr : rz1 g la e l.length q prev with
      | none =>
        rw [hr] at hq
        have hq : v = some (.int (-1)) := hq
        subst hq
        refine r_istore hX d_Mo_readSizes_32 (by decide) ?_
        refine r_iload hX d_Mo_readSizes_34 (by first | rfl | assumption) ?_
        refine r_if_ge hX 41 d_Mo_readSizes_36 (by decide) (fun c36 => absurd c36 (by decide)) (fun _ => ?_)
        refine r_iconst (v := 0) hX d_Mo_readSizes_39 (by decide) ?_
        refine r_iret hX hR d_Mo_readSizes_40 rfl (by first | rfl | assumption) ?_
        have hz : bz g la k p e = none := by rw [hbz, e2, mz, hr]; rfl
        rw [hz]
        exact ⟨_, _, A1, hM, hw0 ▸ hs, hI, g1, g2, rfl⟩
      | some r =>
        rw [hr] at hq
        have hp2 := rz1_p hqe hr
        rcases hq with ⟨rfl, h7, h20, hnb⟩ | ⟨hbig, rfl⟩
        · refine r_istore hX d_Mo_readSizes_32 (by decide) ?_
          refine r_iload hX d_Mo_readSizes_34 (by first | rfl | assumption) ?_
          refine r_if_ge hX 41 d_Mo_readSizes_36 (by decide) (fun _ => ?_) (fun c36 => absurd (nI_le (a := 0) (Nat.zero_le _) (by omega)) c36)
          refine q_aload hX 0 d_Mo_readSizes_41 rfl (by first | rfl | assumption) ?_
          refine r_getf hX d_Mo_readSizes_42 fl_Mo_39 hM.1 rfl ?_
          refine r_bipush (v := 8) hX d_Mo_readSizes_45 (by decide) ?_
          refine q_aload hX 0 d_Mo_readSizes_47 rfl (by first | rfl | assumption) ?_
          refine r_getm (J := 0) (x := nI n) hX d_Mo_readSizes_48 fl_Mo_86 hM ((hI 0 (by decide)).trans hcn) rfl ?_
          refine r_imul hX d_Mo_readSizes_51 ?_
          refine r_iload hX d_Mo_readSizes_52 (by first | rfl | assumption) ?_
          refine r_iadd hX d_Mo_readSizes_54 ?_
          refine r_iload hX d_Mo_readSizes_55 (by first | rfl | assumption) ?_
          refine r_iastm (c := 127) hX d_Mo_readSizes_57 hM hs rfl (j := 8 * n + l.length) (by rw [show (8 : Int32) = nI 8 from rfl, nI_ml, nI_add]) (by omega) (fun w hM hs => ?_)
          refine r_iload hX d_Mo_readSizes_58 (by first | rfl | assumption) ?_
          refine r_istore hX d_Mo_readSizes_60 (by decide) ?_
          refine r_iload hX d_Mo_readSizes_62 (by first | rfl | assumption) ?_
          refine r_iload hX d_Mo_readSizes_64 (by first | rfl | assumption) ?_
          refine r_iadd hX d_Mo_readSizes_66 ?_
          refine r_istore hX d_Mo_readSizes_67 (by decide) ?_
          refine r_iinc hX d_Mo_readSizes_69 (by first | rfl | assumption) ?_
          refine r_goto hX 9 d_Mo_readSizes_72 (by decide) ?_
          refine ih (l ++ [r.1]) _ _ _ r.2 r.1 (sum + r.1) w _ (by simp; omega) hM hs hI (g1.st (by simp)) (fun x hx => ?_) (fun x hx => ?_) h7 hp2.2 h20 (by rw [List.length_append]; show sum + r.1 ≤ (l.length + 1) * 2 ^ 20; omega) ?_ l0 l1 l2 l3 (by show some (Value.int (nI sum + nI r.1)) = _; rw [nI_add]) rfl (by show some (Value.int (nI l.length + Int32.ofInt 1)) = _; rw [show Int32.ofInt 1 = 1 from rfl, nI_1, List.length_append]; rfl)
          · rw [aset_off _ _ _ _ _ _ (Or.inr (by omega))]; exact g2 x hx
          · rw [List.length_append] at hx
            have hx : x < l.length + 1 := hx
            by_cases z : x = l.length
            · rw [z, aset_self, gd_r]
            · rw [aset_off _ _ _ _ _ _ (Or.inr (by omega)), gd_l (by omega)]; exact g3 x (by omega)
          · rw [e2, mz, hr]
            dsimp only
            rw [if_neg hnb, Option.map_map, List.length_append]
            congr 1
            funext q
            show (l ++ (r.1 :: q.1), q.2) = ((l ++ [r.1]) ++ q.1, q.2)
            rw [List.append_assoc]; rfl
        · refine r_istore hX d_Mo_readSizes_32 (by decide) ?_
          refine r_iload hX d_Mo_readSizes_34 (by first | rfl | assumption) ?_
          refine r_if_ge hX 41 d_Mo_readSizes_36 (by decide) (fun c36 => absurd c36 (by decide)) (fun _ => ?_)
          refine r_iconst (v := 0) hX d_Mo_readSizes_39 (by decide) ?_
          refine r_iret hX hR d_Mo_readSizes_40 rfl (by first | rfl | assumption) ?_
          have hz : bz g la k p e = none := by rw [hbz, e2, mz, hr]; dsimp only; rw [if_pos hbig]; rfl
          rw [hz]
          exact ⟨_, _, A1, hM, hw0 ▸ hs, hI, g1, g2, rfl⟩
  have loop2s : la = 2 → ∀ (ls : Ev_L), ls.1 0 = some (.ref 117) → ls.1 1 = some (.int (nI la)) → ls.1 2 = some (.int (nI k)) → ls.1 3 = some (.int (nI e)) → ls.1 4 = some (.int 0) → ls.1 6 = some (.int 0) → ev_W G M_Mo_readSizes X 0 0 9 ls [] w := by
    intro hla ls l0 l1 l2 l3 l4 l6
    have l1 : ls.1 1 = some (.int 2) := by rw [l1, hla]; rfl
    refine r_iload hX d_Mo_readSizes_9 (by first | rfl | assumption) ?_
    refine r_iconst (v := 1) hX d_Mo_readSizes_11 (by decide) ?_
    refine r_iadd hX d_Mo_readSizes_12 ?_
    refine q_iload hX 2 d_Mo_readSizes_13 rfl (by first | rfl | assumption) ?_
    refine r_icmp_ge hX 75 d_Mo_readSizes_14 (by decide) (fun c14 => ?_) (fun c14 => ?_)
    · refine q_iload hX 3 d_Mo_readSizes_75 rfl (by first | rfl | assumption) ?_
      refine q_aload hX 0 d_Mo_readSizes_76 rfl (by first | rfl | assumption) ?_
      refine r_getm (J := 7) (x := nI p) hX d_Mo_readSizes_77 fl_Mo_115 hM hat rfl ?_
      refine r_isub hX d_Mo_readSizes_80 ?_
      rw [nI_sb hpe]
      refine r_iload hX d_Mo_readSizes_81 (by first | rfl | assumption) ?_
      refine r_isub hX d_Mo_readSizes_83 ?_
      rw [Int32.sub_zero]
      refine r_istore hX d_Mo_readSizes_84 (by decide) ?_
      refine q_iload hX 1 d_Mo_readSizes_86 rfl (by first | rfl | assumption) ?_
      refine r_iconst (v := 2) hX d_Mo_readSizes_87 (by decide) ?_
      refine r_icmp_ne hX 138 d_Mo_readSizes_88 (by decide) (fun c88 => absurd rfl c88) (fun _ => ?_)
      refine r_iconst (v := 0) hX d_Mo_readSizes_91 (by decide) ?_
      refine r_istore hX d_Mo_readSizes_92 (by decide) ?_
      exact loop2 hla k 0 A w _ (by omega) hM hs a_but.rf (fun _ _ => rfl) (fun x hx => by omega) l0 l2 rfl rfl
    · refine q_iload hX 1 d_Mo_readSizes_17 rfl (by first | rfl | assumption) ?_
      refine r_iconst (v := 2) hX d_Mo_readSizes_18 (by decide) ?_
      refine r_icmp_eq hX 75 d_Mo_readSizes_19 (by decide) (fun _ => ?_) (fun c19 => absurd rfl c19)
      refine q_iload hX 3 d_Mo_readSizes_75 rfl (by first | rfl | assumption) ?_
      refine q_aload hX 0 d_Mo_readSizes_76 rfl (by first | rfl | assumption) ?_
      refine r_getm (J := 7) (x := nI p) hX d_Mo_readSizes_77 fl_Mo_115 hM hat rfl ?_
      refine r_isub hX d_Mo_readSizes_80 ?_
      rw [nI_sb hpe]
      refine r_iload hX d_Mo_readSizes_81 (by first | rfl | assumption) ?_
      refine r_isub hX d_Mo_readSizes_83 ?_
      rw [Int32.sub_zero]
      refine r_istore hX d_Mo_readSizes_84 (by decide) ?_
      refine q_iload hX 1 d_Mo_readSizes_86 rfl (by first | rfl | assumption) ?_
      refine r_iconst (v := 2) hX d_Mo_readSizes_87 (by decide) ?_
      refine r_icmp_ne hX 138 d_Mo_readSizes_88 (by decide) (fun c88 => absurd rfl c88) (fun _ => ?_)
      refine r_iconst (v := 0) hX d_Mo_readSizes_91 (by decide) ?_
      refine r_istore hX d_Mo_readSizes_92 (by decide) ?_
      exact loop2 hla k 0 A w _ (by omega) hM hs a_but.rf (fun _ _ => rfl) (fun x hx => by omega) l0 l2 rfl rfl
  by_cases hla : la = 2
  · refine r_iconst (v := 0) hX d_Mo_readSizes_0 (by decide) ?_
    refine r_istore hX d_Mo_readSizes_1 (by decide) ?_
    refine r_iconst (v := 0) hX d_Mo_readSizes_3 (by decide) ?_
    refine r_istore hX d_Mo_readSizes_4 (by decide) ?_
    refine r_iconst (v := 0) hX d_Mo_readSizes_6 (by decide) ?_
    refine r_istore hX d_Mo_readSizes_7 (by decide) ?_
    exact loop2s hla _ rfl rfl rfl rfl rfl rfl
  · refine r_iconst (v := 0) hX d_Mo_readSizes_0 (by decide) ?_
    refine r_istore hX d_Mo_readSizes_1 (by decide) ?_
    refine r_iconst (v := 0) hX d_Mo_readSizes_3 (by decide) ?_
    refine r_istore hX d_Mo_readSizes_4 (by decide) ?_
    refine r_iconst (v := 0) hX d_Mo_readSizes_6 (by decide) ?_
    refine r_istore hX d_Mo_readSizes_7 (by decide) ?_
    exact loop1 hla (k - 1) [] I v0 A p 0 0 w _ (by show 0 + (k - 1) + 1 = k; omega) hM hs i_but.rf a_but.rf (fun _ _ => rfl) (fun x hx => by cases hx) hat hpe (by decide) (Nat.zero_le _) (by rw [show (fun r : List Nat × Nat => (([] : List Nat) ++ r.1, r.2)) = id from rfl, Option.map_id]; rfl) rfl rfl rfl rfl rfl rfl rfl
