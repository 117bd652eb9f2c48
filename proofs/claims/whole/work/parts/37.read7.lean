/-! ===== Reader: readSize ===== -/
def el_eo (E : Ev_E) (x y : Int32) : Ev_E := (E.1, E.2.1, E.2.2.1, upd (upd E.2.2.2 9 x) 10 y)
def rs_c (g : Nat → Nat) (p e s n : Nat) : Int32 := if e ≤ p then -2 else if g p = 0 then -3 else match vi g p e with
  | none => -2
  | some r => if vi_full r = true ∧ ¬ s = 1 ∧ ¬ s = 7 then -5 else if vi_full r = false ∧ e - (p + r.2) < r.1 then -2 else if n = 60 then -6 else 0
def rs_e (p e : Nat) (r : Nat × Nat) : Nat := if vi_full r = true then e else p + r.2 + r.1
/-- a new element's contents before its data are read -/
def rs_E (S : Ev_S) (ms : Option Nat) (tg : Int32) (e : Nat) (op : Bool) : Ev_E := el_eo (el_b (el_n (tr_e (sm S) (sn S) (sE S) tr_e0) (nI (mk_p (sE S) (sn S) ms))) (so_of tg) tg (ms.map (sa S)) (mk_lv (sE S) ms)) (nI e) (b_i op)
def rs_post (w w' : Ev_W) (S : Ev_S) (As : Nat → Option Nat) (sf : Nat → Int32) (sd : Nat) (g : Nat → Nat) (p e : Nat) (ms : Option Nat) (fp tg : Int32) (v : Option Value) : Prop :=
  (¬ rs_c g p e (so_of tg) (sn S) = 0 ∧ v = some (.int (rs_c g p e (so_of tg) (sn S))) ∧ re_no w w' fp (ms.map (sa S)) e tg [112]) ∨
  (rs_c g p e (so_of tg) (sn S) = 0 ∧ v = some (.int 0) ∧ ∃ r w0 w1, vi g p e = some r ∧ ev_sm w w0 [112] ∧ tr_added w0 w1 (sn S) (sm S) (mk_p (sE S) (sn S) ms) (sL S) As sf sd (sa S) (sE S) (sP S) (so_of tg) tg (ms.map (sa S)) (mk_lv (sE S) ms) ∧ ev_sm w1 w' [112, ad_e S] ∧ w'.2 (ad_e S) = some (el_C (ad_e S) (rs_E S ms tg (rs_e p e r) (vi_full r))) ∧ (∃ vf' vL', is_Re w' fp (ms.map (sa S)) (nI (p + r.2)) (nI (rs_e p e r)) tg vf' vL'))
theorem c_Re_readSize {G : Ev_G} {w : Ev_W} {c : Nat} {f : Nat → Int32} (hin : is_Ro w 101 102 640 c f) {g : Nat → Nat} (hg : rd_g c f g) {S : Ev_S} {As : Nat → Option Nat} {sf : Nat → Int32} {sd : Nat} (hS : is_S w S As sf sd) (hsd : sd ≤ 1200) {fp tg vf vL : Int32} {ms : Option Nat} {p e : Nat} (hre : is_Re w fp (ms.map (sa S)) (nI p) (nI e) tg vf vL) (hec : e ≤ c) (hpe0 : p ≤ e) (hms : ∀ j, ms = some j → j < sn S) : ev_Met G M_Re_readSize 3 2 33 [.ref 112] w (fun v w' => rs_post w w' S As sf sd g p e ms fp tg v) := by
  have hc := hg.1
  obtain ⟨htr, hes, hok, hnm, hm60, hfree, hw0, h139⟩ := hS
  have hn60 : sn S ≤ 60 := by omega
  refine ev_Met.of md_Re_readSize (Nat.le_of_ble_eq_true rfl) (fun X hX hR => ?_)
  have tl : ∀ (r : Nat × Nat) (ls : Ev_L) (w1 : Ev_W), p < e → ¬ g p = 0 → vi g p e = some r → ¬ (vi_full r = true ∧ ¬ so_of tg = 1 ∧ ¬ so_of tg = 7) → ¬ (vi_full r = false ∧ e - (p + r.2) < r.1) → is_Re w1 fp (ms.map (sa S)) (nI (p + r.2)) (nI e) tg (b_i (vi_full r)) (nI r.2) → ev_sm w w1 [112] → ls.1 0 = some (.ref 112) → ls.2 1 = some (lN r.1) → ls.1 3 = some (.int (b_i (vi_full r))) → ls.1 4 = some (.ref (so_of tg)) → ev_W G M_Re_readSize X 2 33 104 ls [] w1 := by
    intro r ls w1 hpe hg0 hvi hc5 hc2 hr1 hs1 l0 l1 l3 l4
    have hv := vi_of hvi
    have htr1 := tr_sm htr hs1
    have hes1 := es_sm hes hs1
    have hw1 : w1.1 = sx S := by rw [hs1.1]; exact hw0
    unfold is_Re at hr1
    cases ms with
    | none =>
        refine q_aload hX 0 d_Re_readSize_104 rfl (by first | rfl | assumption) ?_
        refine r_getf hX d_Re_readSize_105 fl_Re_19 hr1 rfl ?_
        refine q_aload hX 0 d_Re_readSize_108 rfl (by first | rfl | assumption) ?_
        refine r_getf hX d_Re_readSize_109 fl_Re_28 hr1 rfl ?_
        refine r_aload hX d_Re_readSize_112 (by first | rfl | assumption) ?_
        refine q_aload hX 0 d_Re_readSize_114 rfl (by first | rfl | assumption) ?_
        refine r_getf hX d_Re_readSize_115 fl_Re_69 hr1 rfl ?_
        refine r_callV (as := [_, _, _]) hX d_Re_readSize_118 lk_Re_110 htr1.1 rfl rfl (Nat.le_of_ble_eq_true rfl) (by decide) 0 0 (Nat.le_refl _) (Nat.le_refl _) (c_Tr_addN (G := G) htr1 hn60 hsd hes1 hnm hm60 hfree (by rw [hw1]; exact h139) (so_of tg) tg) (fun v w2 hq => ?_)
        rcases hq with ⟨h60, rfl, hw2⟩ | ⟨h60, rfl, hadd⟩
        · rw [hw2]
          refine r_astoreN hX d_Re_readSize_121 (by decide) ?_
          refine r_aloadN hX d_Re_readSize_123 (by first | rfl | assumption) ?_
          refine r_ifnonnullN hX d_Re_readSize_125 ?_
          refine r_bipush (v := -6) hX d_Re_readSize_128 (by decide) ?_
          refine r_iret hX hR d_Re_readSize_130 rfl (by first | rfl | assumption) ?_
          show rs_post _ _ _ _ _ _ _ _ _ _ _ _ _
          have hcd : rs_c g p e (so_of tg) (sn S) = -6 := by rw [rs_c, if_neg (show ¬ e ≤ p by omega), if_neg hg0, hvi]; dsimp only; rw [if_neg hc5, if_neg hc2, if_pos h60]
          rw [rs_post, hcd]
          exact Or.inl ⟨by decide, rfl, ⟨p + r.2, _, _, by omega, hr1⟩, hs1⟩
        · obtain ⟨z1, z2, z4⟩ := hadd.at (Nat.le_refl _) hnm
          have hee : tr_e (sm S) (sn S) (sa S) w1.1 = ad_e S := by rw [hw1]; rfl
          rw [hee] at z1 z2 z4 ⊢
          have hr2 : w2.2 112 = _ := (hadd.2.2.1 112 (by decide) (by decide) (by decide)).trans hr1
          cases hfull : vi_full r with
          | true =>
            refine r_astore hX d_Re_readSize_121 (by decide) ?_
            refine r_aload hX d_Re_readSize_123 (by first | rfl | assumption) ?_
            refine r_ifnonnull hX 131 d_Re_readSize_125 (by decide) ?_
            refine q_iload hX 3 d_Re_readSize_131 rfl (by first | rfl | assumption) ?_
            refine r_if_ne hX 146 d_Re_readSize_132 (by decide) (fun _ => ?_) (fun c132 => absurd c132 (by rw [hfull]; decide))
            have hr3 := hr2
            have z3 := z2
            have hsm3 : ev_sm w2 w2 [112, ad_e S] := ev_sm.rf
            refine r_aload hX d_Re_readSize_146 (by first | rfl | assumption) ?_
            refine q_aload hX 0 d_Re_readSize_148 rfl (by first | rfl | assumption) ?_
            refine r_getf hX d_Re_readSize_149 fl_Re_57 hr3 rfl ?_
            refine r_putf hX d_Re_readSize_152 fp_Re_51 z3 (by first | assumption | decide | omega) rfl rfl (Nat.le_of_ble_eq_true rfl) ?_
            refine r_aload hX d_Re_readSize_155 (by first | rfl | assumption) ?_
            refine q_iload hX 3 d_Re_readSize_157 rfl (by first | rfl | assumption) ?_
            refine r_putf hX d_Re_readSize_158 fp_Re_78 (ev_set_self _ _ _) (by first | assumption | decide | omega) (b_i_n _) (by cases vi_full r <;> rfl) (Nat.le_of_ble_eq_true rfl) ?_
            refine r_iconst (v := 0) hX d_Re_readSize_161 (by decide) ?_
            refine r_iret hX hR d_Re_readSize_162 rfl (by first | rfl | assumption) ?_
            show rs_post _ _ _ _ _ _ _ _ _ _ _ _ _
            have hcd : rs_c g p e (so_of tg) (sn S) = 0 := by rw [rs_c, if_neg (show ¬ e ≤ p by omega), if_neg hg0, hvi]; dsimp only; rw [if_neg hc5, if_neg hc2, if_neg (by omega)]
            rw [rs_post, hcd]
            refine Or.inr ⟨rfl, rfl, r, w1, w2, hvi, hs1, hadd, (hsm3.set (by simp)).set (by simp), ?_, ⟨b_i (vi_full r), nI r.2, ?_⟩⟩
            · rw [ev_set_self, show rs_e p e r = e from if_pos hfull]
              rfl
            · rw [show rs_e p e r = e from if_pos hfull]
              exact (ev_set_ne _ _ (by omega)).trans ((ev_set_ne _ _ (by omega)).trans hr3)
          | false =>
            refine r_astore hX d_Re_readSize_121 (by decide) ?_
            refine r_aload hX d_Re_readSize_123 (by first | rfl | assumption) ?_
            refine r_ifnonnull hX 131 d_Re_readSize_125 (by decide) ?_
            refine q_iload hX 3 d_Re_readSize_131 rfl (by first | rfl | assumption) ?_
            refine r_if_ne hX 146 d_Re_readSize_132 (by decide) (fun c132 => absurd (show b_i (vi_full r) = 0 by rw [hfull]; rfl) c132) (fun _ => ?_)
            refine q_aload hX 0 d_Re_readSize_135 rfl (by first | rfl | assumption) ?_
            refine q_aload hX 0 d_Re_readSize_136 rfl (by first | rfl | assumption) ?_
            refine r_getf hX d_Re_readSize_137 fl_Re_32 hr2 rfl ?_
            refine q_lload hX 1 d_Re_readSize_140 rfl (by first | rfl | assumption) ?_
            refine r_l2i hX d_Re_readSize_141 ?_
            rw [lN_i]
            refine r_iadd hX d_Re_readSize_142 ?_
            rw [nI_add]
            refine r_putf hX d_Re_readSize_143 fp_Re_57 hr2 (by first | assumption | decide | omega) rfl rfl (Nat.le_of_ble_eq_true rfl) ?_
            have hr3 : (ev_set w2 112 (.inr (5, [.ref 101, .ref 108, .int fp, va_rf (Option.map (sa S) none), .int (nI (p + r.2)), .int (nI (p + r.2 + r.1)), .int tg, .int (b_i (vi_full r)), .int (nI r.2)]))).2 112 = _ := ev_set_self _ _ _
            have z3 : (ev_set w2 112 (.inr (5, [.ref 101, .ref 108, .int fp, va_rf (Option.map (sa S) none), .int (nI (p + r.2)), .int (nI (p + r.2 + r.1)), .int tg, .int (b_i (vi_full r)), .int (nI r.2)]))).2 (ad_e S) = _ := (ev_set_ne _ _ (by omega)).trans z2
            have hsm3 : ev_sm w2 (ev_set w2 112 (.inr (5, [.ref 101, .ref 108, .int fp, va_rf (Option.map (sa S) none), .int (nI (p + r.2)), .int (nI (p + r.2 + r.1)), .int tg, .int (b_i (vi_full r)), .int (nI r.2)]))) [112, ad_e S] := ev_sm.s1 (by simp)
            refine r_aload hX d_Re_readSize_146 (by first | rfl | assumption) ?_
            refine q_aload hX 0 d_Re_readSize_148 rfl (by first | rfl | assumption) ?_
            refine r_getf hX d_Re_readSize_149 fl_Re_57 hr3 rfl ?_
            refine r_putf hX d_Re_readSize_152 fp_Re_51 z3 (by first | assumption | decide | omega) rfl rfl (Nat.le_of_ble_eq_true rfl) ?_
            refine r_aload hX d_Re_readSize_155 (by first | rfl | assumption) ?_
            refine q_iload hX 3 d_Re_readSize_157 rfl (by first | rfl | assumption) ?_
            refine r_putf hX d_Re_readSize_158 fp_Re_78 (ev_set_self _ _ _) (by first | assumption | decide | omega) (b_i_n _) (by cases vi_full r <;> rfl) (Nat.le_of_ble_eq_true rfl) ?_
            refine r_iconst (v := 0) hX d_Re_readSize_161 (by decide) ?_
            refine r_iret hX hR d_Re_readSize_162 rfl (by first | rfl | assumption) ?_
            show rs_post _ _ _ _ _ _ _ _ _ _ _ _ _
            have hcd : rs_c g p e (so_of tg) (sn S) = 0 := by rw [rs_c, if_neg (show ¬ e ≤ p by omega), if_neg hg0, hvi]; dsimp only; rw [if_neg hc5, if_neg hc2, if_neg (by omega)]
            rw [rs_post, hcd]
            refine Or.inr ⟨rfl, rfl, r, w1, w2, hvi, hs1, hadd, (hsm3.set (by simp)).set (by simp), ?_, ⟨b_i (vi_full r), nI r.2, ?_⟩⟩
            · rw [ev_set_self, show rs_e p e r = (p + r.2 + r.1) from if_neg (by rw [hfull]; decide)]
              rfl
            · rw [show rs_e p e r = (p + r.2 + r.1) from if_neg (by rw [hfull]; decide)]
              exact (ev_set_ne _ _ (by omega)).trans ((ev_set_ne _ _ (by omega)).trans hr3)
    | some j =>
        have hj := hms j rfl
        refine q_aload hX 0 d_Re_readSize_104 rfl (by first | rfl | assumption) ?_
        refine r_getf hX d_Re_readSize_105 fl_Re_19 hr1 rfl ?_
        refine q_aload hX 0 d_Re_readSize_108 rfl (by first | rfl | assumption) ?_
        refine r_getf hX d_Re_readSize_109 fl_Re_28 hr1 rfl ?_
        refine r_aload hX d_Re_readSize_112 (by first | rfl | assumption) ?_
        refine q_aload hX 0 d_Re_readSize_114 rfl (by first | rfl | assumption) ?_
        refine r_getf hX d_Re_readSize_115 fl_Re_69 hr1 rfl ?_
        refine r_callV (as := [_, _, _]) hX d_Re_readSize_118 lk_Re_110 htr1.1 rfl rfl (Nat.le_of_ble_eq_true rfl) (by decide) 0 0 (Nat.le_refl _) (Nat.le_refl _) (c_Tr_addS (G := G) htr1 hn60 hsd hes1 hnm hm60 hfree (by rw [hw1]; exact h139) hj (hok j hj).1 (so_of tg) tg) (fun v w2 hq => ?_)
        rcases hq with ⟨h60, rfl, hw2⟩ | ⟨h60, rfl, hadd⟩
        · rw [hw2]
          refine r_astoreN hX d_Re_readSize_121 (by decide) ?_
          refine r_aloadN hX d_Re_readSize_123 (by first | rfl | assumption) ?_
          refine r_ifnonnullN hX d_Re_readSize_125 ?_
          refine r_bipush (v := -6) hX d_Re_readSize_128 (by decide) ?_
          refine r_iret hX hR d_Re_readSize_130 rfl (by first | rfl | assumption) ?_
          show rs_post _ _ _ _ _ _ _ _ _ _ _ _ _
          have hcd : rs_c g p e (so_of tg) (sn S) = -6 := by rw [rs_c, if_neg (show ¬ e ≤ p by omega), if_neg hg0, hvi]; dsimp only; rw [if_neg hc5, if_neg hc2, if_pos h60]
          rw [rs_post, hcd]
          exact Or.inl ⟨by decide, rfl, ⟨p + r.2, _, _, by omega, hr1⟩, hs1⟩
        · obtain ⟨z1, z2, z4⟩ := hadd.at (tr_go_le _ _ _ _ _ (by omega)) hnm
          have hee : tr_e (sm S) (sn S) (sa S) w1.1 = ad_e S := by rw [hw1]; rfl
          rw [hee] at z1 z2 z4 ⊢
          have hr2 : w2.2 112 = _ := (hadd.2.2.1 112 (by decide) (by decide) (by decide)).trans hr1
          cases hfull : vi_full r with
          | true =>
            refine r_astore hX d_Re_readSize_121 (by decide) ?_
            refine r_aload hX d_Re_readSize_123 (by first | rfl | assumption) ?_
            refine r_ifnonnull hX 131 d_Re_readSize_125 (by decide) ?_
            refine q_iload hX 3 d_Re_readSize_131 rfl (by first | rfl | assumption) ?_
            refine r_if_ne hX 146 d_Re_readSize_132 (by decide) (fun _ => ?_) (fun c132 => absurd c132 (by rw [hfull]; decide))
            have hr3 := hr2
            have z3 := z2
            have hsm3 : ev_sm w2 w2 [112, ad_e S] := ev_sm.rf
            refine r_aload hX d_Re_readSize_146 (by first | rfl | assumption) ?_
            refine q_aload hX 0 d_Re_readSize_148 rfl (by first | rfl | assumption) ?_
            refine r_getf hX d_Re_readSize_149 fl_Re_57 hr3 rfl ?_
            refine r_putf hX d_Re_readSize_152 fp_Re_51 z3 (by first | assumption | decide | omega) rfl rfl (Nat.le_of_ble_eq_true rfl) ?_
            refine r_aload hX d_Re_readSize_155 (by first | rfl | assumption) ?_
            refine q_iload hX 3 d_Re_readSize_157 rfl (by first | rfl | assumption) ?_
            refine r_putf hX d_Re_readSize_158 fp_Re_78 (ev_set_self _ _ _) (by first | assumption | decide | omega) (b_i_n _) (by cases vi_full r <;> rfl) (Nat.le_of_ble_eq_true rfl) ?_
            refine r_iconst (v := 0) hX d_Re_readSize_161 (by decide) ?_
            refine r_iret hX hR d_Re_readSize_162 rfl (by first | rfl | assumption) ?_
            show rs_post _ _ _ _ _ _ _ _ _ _ _ _ _
            have hcd : rs_c g p e (so_of tg) (sn S) = 0 := by rw [rs_c, if_neg (show ¬ e ≤ p by omega), if_neg hg0, hvi]; dsimp only; rw [if_neg hc5, if_neg hc2, if_neg (by omega)]
            rw [rs_post, hcd]
            refine Or.inr ⟨rfl, rfl, r, w1, w2, hvi, hs1, hadd, (hsm3.set (by simp)).set (by simp), ?_, ⟨b_i (vi_full r), nI r.2, ?_⟩⟩
            · rw [ev_set_self, show rs_e p e r = e from if_pos hfull]
              rfl
            · rw [show rs_e p e r = e from if_pos hfull]
              exact (ev_set_ne _ _ (by omega)).trans ((ev_set_ne _ _ (by omega)).trans hr3)
          | false =>
            refine r_astore hX d_Re_readSize_121 (by decide) ?_
            refine r_aload hX d_Re_readSize_123 (by first | rfl | assumption) ?_
            refine r_ifnonnull hX 131 d_Re_readSize_125 (by decide) ?_
            refine q_iload hX 3 d_Re_readSize_131 rfl (by first | rfl | assumption) ?_
            refine r_if_ne hX 146 d_Re_readSize_132 (by decide) (fun c132 => absurd (show b_i (vi_full r) = 0 by rw [hfull]; rfl) c132) (fun _ => ?_)
            refine q_aload hX 0 d_Re_readSize_135 rfl (by first | rfl | assumption) ?_
            refine q_aload hX 0 d_Re_readSize_136 rfl (by first | rfl | assumption) ?_
            refine r_getf hX d_Re_readSize_137 fl_Re_32 hr2 rfl ?_
            refine q_lload hX 1 d_Re_readSize_140 rfl (by first | rfl | assumption) ?_
            refine r_l2i hX d_Re_readSize_141 ?_
            rw [lN_i]
            refine r_iadd hX d_Re_readSize_142 ?_
            rw [nI_add]
            refine r_putf hX d_Re_readSize_143 fp_Re_57 hr2 (by first | assumption | decide | omega) rfl rfl (Nat.le_of_ble_eq_true rfl) ?_
            have hr3 : (ev_set w2 112 (.inr (5, [.ref 101, .ref 108, .int fp, va_rf (Option.map (sa S) (some j)), .int (nI (p + r.2)), .int (nI (p + r.2 + r.1)), .int tg, .int (b_i (vi_full r)), .int (nI r.2)]))).2 112 = _ := ev_set_self _ _ _
            have z3 : (ev_set w2 112 (.inr (5, [.ref 101, .ref 108, .int fp, va_rf (Option.map (sa S) (some j)), .int (nI (p + r.2)), .int (nI (p + r.2 + r.1)), .int tg, .int (b_i (vi_full r)), .int (nI r.2)]))).2 (ad_e S) = _ := (ev_set_ne _ _ (by omega)).trans z2
            have hsm3 : ev_sm w2 (ev_set w2 112 (.inr (5, [.ref 101, .ref 108, .int fp, va_rf (Option.map (sa S) (some j)), .int (nI (p + r.2)), .int (nI (p + r.2 + r.1)), .int tg, .int (b_i (vi_full r)), .int (nI r.2)]))) [112, ad_e S] := ev_sm.s1 (by simp)
            refine r_aload hX d_Re_readSize_146 (by first | rfl | assumption) ?_
            refine q_aload hX 0 d_Re_readSize_148 rfl (by first | rfl | assumption) ?_
            refine r_getf hX d_Re_readSize_149 fl_Re_57 hr3 rfl ?_
            refine r_putf hX d_Re_readSize_152 fp_Re_51 z3 (by first | assumption | decide | omega) rfl rfl (Nat.le_of_ble_eq_true rfl) ?_
            refine r_aload hX d_Re_readSize_155 (by first | rfl | assumption) ?_
            refine q_iload hX 3 d_Re_readSize_157 rfl (by first | rfl | assumption) ?_
            refine r_putf hX d_Re_readSize_158 fp_Re_78 (ev_set_self _ _ _) (by first | assumption | decide | omega) (b_i_n _) (by cases vi_full r <;> rfl) (Nat.le_of_ble_eq_true rfl) ?_
            refine r_iconst (v := 0) hX d_Re_readSize_161 (by decide) ?_
            refine r_iret hX hR d_Re_readSize_162 rfl (by first | rfl | assumption) ?_
            show rs_post _ _ _ _ _ _ _ _ _ _ _ _ _
            have hcd : rs_c g p e (so_of tg) (sn S) = 0 := by rw [rs_c, if_neg (show ¬ e ≤ p by omega), if_neg hg0, hvi]; dsimp only; rw [if_neg hc5, if_neg hc2, if_neg (by omega)]
            rw [rs_post, hcd]
            refine Or.inr ⟨rfl, rfl, r, w1, w2, hvi, hs1, hadd, (hsm3.set (by simp)).set (by simp), ?_, ⟨b_i (vi_full r), nI r.2, ?_⟩⟩
            · rw [ev_set_self, show rs_e p e r = (p + r.2 + r.1) from if_neg (by rw [hfull]; decide)]
              rfl
            · rw [show rs_e p e r = (p + r.2 + r.1) from if_neg (by rw [hfull]; decide)]
              exact (ev_set_ne _ _ (by omega)).trans ((ev_set_ne _ _ (by omega)).trans hr3)
  unfold is_Re at hre
  refine q_aload hX 0 d_Re_readSize_0 rfl (by first | rfl | assumption) ?_
  refine r_getf hX d_Re_readSize_1 fl_Re_32 hre rfl ?_
  refine q_aload hX 0 d_Re_readSize_4 rfl (by first | rfl | assumption) ?_
  refine r_getf hX d_Re_readSize_5 fl_Re_57 hre rfl ?_
  refine r_icmp_lt hX 14 d_Re_readSize_8 (by decide) (fun c8 => ?_) (fun c8 => ?_)
  · have hpe : p < e := (nI_ltI (by omega) (by omega)).mp c8
    refine q_aload hX 0 d_Re_readSize_14 rfl (by first | rfl | assumption) ?_
    refine r_getf hX d_Re_readSize_15 fl_Re_15 hre rfl ?_
    refine q_aload hX 0 d_Re_readSize_18 rfl (by first | rfl | assumption) ?_
    refine r_getf hX d_Re_readSize_19 fl_Re_32 hre rfl ?_
    refine r_callV (as := [_]) hX d_Re_readSize_22 lk_Re_58 hin.1 rfl rfl (Nat.le_of_ble_eq_true rfl) (by decide) 2 33 (by decide) (by decide) (c_Ro_at (G := G) hin (by omega) (by decide) (nI p)) (fun v w2 hq => ?_)
    obtain ⟨rfl, hw⟩ := hq
    rw [hw, rd_at hg (by omega)]
    have hgp := (hg.2 p (by omega)).2
    refine r_if_ne hX 31 d_Re_readSize_25 (by decide) (fun c25 => ?_) (fun c25 => ?_)
    · have hg0 : ¬ g p = 0 := fun z => c25 (by rw [z]; rfl)
      refine q_aload hX 0 d_Re_readSize_31 rfl (by first | rfl | assumption) ?_
      refine r_callV (as := []) hX d_Re_readSize_32 lk_Re_97 hre rfl rfl (Nat.le_of_ble_eq_true rfl) (by decide) 2 33 (by decide) (by decide) (c_Re_nextVint (G := G) hin hg hre hec (by omega)) (fun v w1 hq => ?_)
      have hq : vi_post _ _ _ _ _ _ _ _ _ _ _ := hq
      cases hvi : vi g p e with
      | none =>
        rw [vi_post, hvi] at hq
        obtain ⟨rfl, ⟨vf9, vL9, hr1⟩, hs1⟩ := hq
        refine q_lstore hX 1 d_Re_readSize_35 rfl (by decide) ?_
        refine q_lload hX 1 d_Re_readSize_36 rfl (by first | rfl | assumption) ?_
        refine r_lconst (v := 0) hX d_Re_readSize_37 (by decide) ?_
        refine r_lcmp hX d_Re_readSize_38 ?_
        refine r_if_ge hX 45 d_Re_readSize_39 (by decide) (fun c39 => absurd c39 (by decide)) (fun _ => ?_)
        refine r_bipush (v := -2) hX d_Re_readSize_42 (by decide) ?_
        refine r_iret hX hR d_Re_readSize_44 rfl (by first | rfl | assumption) ?_
        show rs_post _ _ _ _ _ _ _ _ _ _ _ _ _
        have hcd : rs_c g p e (so_of tg) (sn S) = -2 := by rw [rs_c, if_neg (show ¬ e ≤ p by omega), if_neg hg0, hvi]
        rw [rs_post, hcd]
        exact Or.inl ⟨by decide, rfl, ⟨p, _, _, by omega, hr1⟩, hs1⟩
      | some r =>
        have hv := vi_of hvi
        rw [vi_post, hvi] at hq
        obtain ⟨rfl, hr1, hs1⟩ := hq
        unfold is_Re at hr1
        cases hfull : vi_full r with
        | true =>
          refine q_lstore hX 1 d_Re_readSize_35 rfl (by decide) ?_
          refine q_lload hX 1 d_Re_readSize_36 rfl (by first | rfl | assumption) ?_
          refine r_lconst (v := 0) hX d_Re_readSize_37 (by decide) ?_
          refine r_lcmp hX d_Re_readSize_38 ?_
          refine r_if_ge hX 45 d_Re_readSize_39 (by decide) (fun _ => ?_) (fun c39 => absurd (by rw [l_ge0, pk_lT (by omega), show (0 : Int64).toInt = 0 from rfl]; omega) c39)
          refine q_aload hX 0 d_Re_readSize_45 rfl (by first | rfl | assumption) ?_
          refine r_getf hX d_Re_readSize_46 fl_Re_101 hr1 rfl ?_
          refine q_istore hX 3 d_Re_readSize_49 rfl (by decide) ?_
          refine q_aload hX 0 d_Re_readSize_50 rfl (by first | rfl | assumption) ?_
          refine r_getf hX d_Re_readSize_51 fl_Re_69 hr1 rfl ?_
          refine r_callS (as := [_]) hX d_Re_readSize_54 lk_Re_72 rfl (Nat.le_of_ble_eq_true rfl) (by decide) 2 33 (by decide) (by decide) (c_So_of (G := G) _) (fun v w2 hq => ?_)
          obtain ⟨rfl, hw⟩ := hq
          rw [hw]
          refine r_astore hX d_Re_readSize_57 (by decide) ?_
          refine q_iload hX 3 d_Re_readSize_59 rfl (by first | rfl | assumption) ?_
          refine r_if_eq hX 82 d_Re_readSize_60 (by decide) (fun c60 => absurd (show b_i (vi_full r) = 0 from c60) (by rw [hfull]; decide)) (fun _ => ?_)
          refine r_aload hX d_Re_readSize_63 (by first | rfl | assumption) ?_
          refine r_getsE (i := 1) hX d_Re_readSize_65 (by decide) m_237 ?_
          refine r_acmp_eq (o := some (so_of tg)) (u := some 1) hX 82 (by intro r h; cases h; exact Or.inl (so_of_lt tg)) (by intro r h; cases h; omega) d_Re_readSize_68 (by decide) (fun c68 => ?_) (fun c68 => ?_)
          · refine q_iload hX 3 d_Re_readSize_82 rfl (by first | rfl | assumption) ?_
            refine r_if_ne hX 104 d_Re_readSize_83 (by decide) (fun _ => ?_) (fun c83 => absurd c83 (by rw [hfull]; decide))
            exact tl r _ _ hpe hg0 hvi (fun z => z.2.1 (Option.some.inj c68)) (fun z => absurd z.1 (by rw [hfull]; decide)) hr1 hs1 rfl rfl rfl rfl
          · refine r_aload hX d_Re_readSize_71 (by first | rfl | assumption) ?_
            refine r_getsE (i := 7) hX d_Re_readSize_73 (by decide) m_238 ?_
            refine r_acmp_eq (o := some (so_of tg)) (u := some 7) hX 82 (by intro r h; cases h; exact Or.inl (so_of_lt tg)) (by intro r h; cases h; omega) d_Re_readSize_76 (by decide) (fun c76 => ?_) (fun c76 => ?_)
            · refine q_iload hX 3 d_Re_readSize_82 rfl (by first | rfl | assumption) ?_
              refine r_if_ne hX 104 d_Re_readSize_83 (by decide) (fun _ => ?_) (fun c83 => absurd c83 (by rw [hfull]; decide))
              exact tl r _ _ hpe hg0 hvi (fun z => z.2.2 (Option.some.inj c76)) (fun z => absurd z.1 (by rw [hfull]; decide)) hr1 hs1 rfl rfl rfl rfl
            · refine r_bipush (v := -5) hX d_Re_readSize_79 (by decide) ?_
              refine r_iret hX hR d_Re_readSize_81 rfl (by first | rfl | assumption) ?_
              show rs_post _ _ _ _ _ _ _ _ _ _ _ _ _
              have hcd : rs_c g p e (so_of tg) (sn S) = -5 := by rw [rs_c, if_neg (show ¬ e ≤ p by omega), if_neg hg0, hvi]; dsimp only; rw [if_pos ⟨hfull, fun z => c68 (by rw [z]), fun z => c76 (by rw [z])⟩]
              rw [rs_post, hcd]
              exact Or.inl ⟨by decide, rfl, ⟨p + r.2, _, _, by omega, hr1⟩, hs1⟩
        | false =>
          refine q_lstore hX 1 d_Re_readSize_35 rfl (by decide) ?_
          refine q_lload hX 1 d_Re_readSize_36 rfl (by first | rfl | assumption) ?_
          refine r_lconst (v := 0) hX d_Re_readSize_37 (by decide) ?_
          refine r_lcmp hX d_Re_readSize_38 ?_
          refine r_if_ge hX 45 d_Re_readSize_39 (by decide) (fun _ => ?_) (fun c39 => absurd (by rw [l_ge0, pk_lT (by omega), show (0 : Int64).toInt = 0 from rfl]; omega) c39)
          refine q_aload hX 0 d_Re_readSize_45 rfl (by first | rfl | assumption) ?_
          refine r_getf hX d_Re_readSize_46 fl_Re_101 hr1 rfl ?_
          refine q_istore hX 3 d_Re_readSize_49 rfl (by decide) ?_
          refine q_aload hX 0 d_Re_readSize_50 rfl (by first | rfl | assumption) ?_
          refine r_getf hX d_Re_readSize_51 fl_Re_69 hr1 rfl ?_
          refine r_callS (as := [_]) hX d_Re_readSize_54 lk_Re_72 rfl (Nat.le_of_ble_eq_true rfl) (by decide) 2 33 (by decide) (by decide) (c_So_of (G := G) _) (fun v w2 hq => ?_)
          obtain ⟨rfl, hw⟩ := hq
          rw [hw]
          refine r_astore hX d_Re_readSize_57 (by decide) ?_
          refine q_iload hX 3 d_Re_readSize_59 rfl (by first | rfl | assumption) ?_
          refine r_if_eq hX 82 d_Re_readSize_60 (by decide) (fun _ => ?_) (fun c60 => absurd (by rw [hfull]; rfl) c60)
          refine q_iload hX 3 d_Re_readSize_82 rfl (by first | rfl | assumption) ?_
          refine r_if_ne hX 104 d_Re_readSize_83 (by decide) (fun c83 => absurd (show b_i (vi_full r) = 0 by rw [hfull]; rfl) c83) (fun _ => ?_)
          refine q_lload hX 1 d_Re_readSize_86 rfl (by first | rfl | assumption) ?_
          refine q_aload hX 0 d_Re_readSize_87 rfl (by first | rfl | assumption) ?_
          refine r_getf hX d_Re_readSize_88 fl_Re_57 hr1 rfl ?_
          refine q_aload hX 0 d_Re_readSize_91 rfl (by first | rfl | assumption) ?_
          refine r_getf hX d_Re_readSize_92 fl_Re_32 hr1 rfl ?_
          refine r_isub hX d_Re_readSize_95 ?_
          rw [nI_sb (by omega)]
          refine r_i2l hX d_Re_readSize_96 ?_
          rw [nI_l (by omega)]
          refine r_lcmp hX d_Re_readSize_97 ?_
          refine r_if_le hX 104 d_Re_readSize_98 (by decide) (fun c98 => ?_) (fun c98 => ?_)
          · exact tl r _ _ hpe hg0 hvi (fun z => absurd z.1 (by rw [hfull]; decide)) (fun z => by rw [l_le0, pk_lT (by omega), pk_lT (by omega)] at c98; have := z.2; omega) hr1 hs1 rfl rfl rfl rfl
          · refine r_bipush (v := -2) hX d_Re_readSize_101 (by decide) ?_
            refine r_iret hX hR d_Re_readSize_103 rfl (by first | rfl | assumption) ?_
            show rs_post _ _ _ _ _ _ _ _ _ _ _ _ _
            have hcd : rs_c g p e (so_of tg) (sn S) = -2 := by rw [rs_c, if_neg (show ¬ e ≤ p by omega), if_neg hg0, hvi]; dsimp only; rw [if_neg (fun z => absurd z.1 (by rw [hfull]; decide)), if_pos ⟨hfull, by rw [l_le0, pk_lT (by omega), pk_lT (by omega)] at c98; omega⟩]
            rw [rs_post, hcd]
            exact Or.inl ⟨by decide, rfl, ⟨p + r.2, _, _, by omega, hr1⟩, hs1⟩
    · refine r_bipush (v := -3) hX d_Re_readSize_28 (by decide) ?_
      refine r_iret hX hR d_Re_readSize_30 rfl (by first | rfl | assumption) ?_
      show rs_post _ _ _ _ _ _ _ _ _ _ _ _ _
      have hcd : rs_c g p e (so_of tg) (sn S) = -3 := by rw [rs_c, if_neg (show ¬ e ≤ p by omega), if_pos ((nI_eq (by omega) (by decide)).mp (c25.trans nI_0.symm))]
      rw [rs_post, hcd]
      exact Or.inl ⟨by decide, rfl, ⟨p, _, _, by omega, hre⟩, ev_sm.rf⟩
  · refine r_bipush (v := -2) hX d_Re_readSize_11 (by decide) ?_
    refine r_iret hX hR d_Re_readSize_13 rfl (by first | rfl | assumption) ?_
    show rs_post _ _ _ _ _ _ _ _ _ _ _ _ _
    have hcd : rs_c g p e (so_of tg) (sn S) = -2 := by rw [rs_c, if_pos (Nat.le_of_not_lt (fun z => c8 (nI_lt z (by omega))))]
    rw [rs_post, hcd]
    exact Or.inl ⟨by decide, rfl, ⟨p, _, _, by omega, hre⟩, ev_sm.rf⟩
