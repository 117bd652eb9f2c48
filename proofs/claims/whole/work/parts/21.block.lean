/-! ===== ElementFiles: block ===== -/
def bk_ok (c : Nat) (hs : Nat → Int32) (tr ti la : Int32) : Prop := 1 ≤ tr.toInt ∧ tr.toInt ≤ 126 ∧ -32768 ≤ ti.toInt ∧ ti.toInt ≤ 32767 ∧ fr_suit c hs la = true
def bk_tag : Int32 := ((ev_fl[0]).2.2.2).getD 9 0
/-- the new block's contents -/
def bk_E (E0 : Ev_E) (p : Nat) (ma : Option Nat) (lev tr ti ke la : Int32) (c sd f : Nat) : Ev_E := el_s (el_am (el_d (el_b (el_n E0 (nI p)) 9 bk_tag ma lev) tr ti ke la) (lN c)) (nI sd) (nI f)
def bk_post (w : Ev_W) (n m sd c f : Nat) (L As : Nat → Option Nat) (sf : Nat → Int32) (ad : Nat → Nat) (E : Nat → Ev_E) (PF : Nat → Nat → Int32) (hs hb : Nat → Int32) (j : Nat) (tr ti ke la : Int32) (v : Option Value) (w' : Ev_W) : Prop :=
  (¬ bk_ok c hs tr ti la ∧ v = some (.int (-7)) ∧ w' = w) ∨ (bk_ok c hs tr ti la ∧ (n = 60 ∨ ¬ sd + f ≤ 1200) ∧ v = some (.int (-6)) ∧ w' = w) ∨
  (bk_ok c hs tr ti la ∧ n < 60 ∧ sd + f ≤ 1200 ∧ v = some (.int (nI (tr_end (el_lev E) n j))) ∧ ∃ w1, tr_added w w1 n m (tr_end (el_lev E) n j) L As sf sd ad E PF 9 bk_tag (some (ad j)) ((E j).2.2.2 1 + 1) ∧ is_Fr w' 0 0 hs hb ∧ is_Tr w' (n + 1) (tr_ins (tr_end (el_lev E) n j) n (some (tr_e m n ad w.1)) L) As (fr_s sd f hb sf) (sd + f) ∧ w'.2 (tr_e m n ad w.1) = some (el_C (tr_e m n ad w.1) (bk_E (tr_e m n E tr_e0) (tr_end (el_lev E) n j) (some (ad j)) ((E j).2.2.2 1 + 1) tr ti ke la c sd f)) ∧ w'.2 (tr_e m n ad w.1 + 1) = some (.inl (0, 16, .inl (fr_p c hs (tr_e m n PF (fun _ => 0))))) ∧ ev_sm w1 w' [105, 108, 111, tr_e m n ad w.1, tr_e m n ad w.1 + 1])
set_option maxHeartbeats 1000000 in
theorem c_EF_blockS {G : Ev_G} {w : Ev_W} {n sd : Nat} {L As : Nat → Option Nat} {sf : Nat → Int32} (he : is_EF w) (htr : is_Tr w n L As sf sd) (hn : n ≤ 60) (hsd : sd ≤ 1200) {m : Nat} {ad : Nat → Nat} {E : Nat → Ev_E} {PF : Nat → Nat → Int32} {mi : Nat → Option Nat} (hes : is_Es w m L ad E PF) (hm : n ≤ m) (hok : el_ok n ad E mi) (hm60 : m ≤ 60) (hfree : ∀ i, m ≤ i → i < 60 → L i = none) (hw139 : 139 ≤ w.1) {c f : Nat} {hs hb : Nat → Int32} (hfr : is_Fr w c f hs hb) (hc : c ≤ 8) (hf : f ≤ 400) {j : Nat} (hj : j < n) (h7 : (E j).1 = 7) (tr ti ke la : Int32) (hke : ke = 0 ∨ ke = 1) : ev_Met G M_EF_block 3 2 33 [.ref 100, .int (nI j), .int tr, .int ti, .int ke, .int la] w (bk_post w n m sd c f L As sf ad E PF hs hb j tr ti ke la) := by
  have he0 : w.2 100 = some (.inr (0, [.ref 101, .ref 103, .ref 105, .ref 108, .ref 112, .ref 113, .ref 116])) := he
  obtain ⟨t1, t2, t3, t4⟩ := id htr
  obtain ⟨f1, f2, f3⟩ := id hfr
  obtain ⟨o1, o2, o3, o4⟩ := hok j hj
  obtain ⟨u1, u2, u3, u4⟩ := hes.1 j (by omega)
  obtain ⟨k, hkk⟩ : ∃ k, k = nI j := ⟨_, rfl⟩
  have hat : tr_at n L k = some (ad j) := by rw [hkk, tr_at, nI_toInt (by omega), if_pos ⟨by omega, by omega⟩, nI_clamp (by omega)]; exact u1
  rw [← hkk]
  refine ev_Met.of md_EF_block (Nat.le_of_ble_eq_true rfl) (fun X hX hR => ?_)
  refine q_aload hX 0 d_EF_block_0 rfl (by first | rfl | assumption) ?_
  refine r_getf hX d_EF_block_1 fl_EF_31 (by first | assumption | exact ev_set_self _ _ _ | (simp (disch := first | assumption | decide | omega) only [ev_set_self, ev_set_ne, ev_new_self, ev_new_ne]; first | done | assumption)) rfl ?_
  refine q_iload hX 1 d_EF_block_4 rfl (by first | rfl | assumption) ?_
  refine r_callV (as := [_]) hX d_EF_block_5 lk_EF_87 htr.1 rfl rfl (Nat.le_of_ble_eq_true rfl) (by decide) 2 33 (by decide) (by decide) (c_Tr_at (G := G) htr hn hsd k) (fun v w1 hq => ?_)
  obtain ⟨rfl, hw0⟩ := hq
  rw [hw0, hat]
  refine r_astore hX d_EF_block_8 (by decide) ?_
  refine r_aload hX d_EF_block_10 (by first | rfl | assumption) ?_
  refine r_ifnull hX d_EF_block_12 ?_
  refine r_aload hX d_EF_block_15 (by first | rfl | assumption) ?_
  refine r_getf hX d_EF_block_17 fl_EF_128 (by first | assumption | exact ev_set_self _ _ _ | (simp (disch := first | assumption | decide | omega) only [ev_set_self, ev_set_ne, ev_new_self, ev_new_ne]; first | done | assumption)) rfl ?_
  refine r_getsE (i := 7) hX d_EF_block_20 (by decide) m_409 ?_
  refine r_acmp_eq (o := some (E j).1) (u := some 7) hX 28 (by intro r h; cases h; exact Or.inl o2) (by intro r h; cases h; omega) d_EF_block_23 (by decide) (fun c23 => ?_) (fun c23 => absurd (by rw [h7]) c23)
  · refine q_iload hX 2 d_EF_block_28 rfl (by first | rfl | assumption) ?_
    refine r_iconst (v := 1) hX d_EF_block_29 (by decide) ?_
    refine r_icmp_lt hX 65 d_EF_block_30 (by decide) (fun c30 => ?_) (fun c30 => ?_)
    · refine r_bipush (v := -7) hX d_EF_block_65 (by decide) ?_
      refine r_iret hX hR d_EF_block_67 rfl (by first | rfl | assumption) ?_
      exact Or.inl ⟨fun z => by have h1 := z.1; have h2 := z.2.1; have h3 := z.2.2.1; have h4 := z.2.2.2.1; rw [i_lt, show (1 : Int32).toInt = 1 from rfl] at c30; omega, rfl, rfl⟩
    · refine q_iload hX 2 d_EF_block_33 rfl (by first | rfl | assumption) ?_
      refine r_bipush (v := 126) hX d_EF_block_34 (by decide) ?_
      refine r_icmp_gt hX 65 d_EF_block_36 (by decide) (fun c36 => ?_) (fun c36 => ?_)
      · refine r_bipush (v := -7) hX d_EF_block_65 (by decide) ?_
        refine r_iret hX hR d_EF_block_67 rfl (by first | rfl | assumption) ?_
        exact Or.inl ⟨fun z => by have h1 := z.1; have h2 := z.2.1; have h3 := z.2.2.1; have h4 := z.2.2.2.1; rw [i_lt, show (126 : Int32).toInt = 126 from rfl] at c36; omega, rfl, rfl⟩
      · refine q_iload hX 3 d_EF_block_39 rfl (by first | rfl | assumption) ?_
        refine r_sipush (v := -32768) hX d_EF_block_40 (by decide) ?_
        refine r_icmp_lt hX 65 d_EF_block_43 (by decide) (fun c43 => ?_) (fun c43 => ?_)
        · refine r_bipush (v := -7) hX d_EF_block_65 (by decide) ?_
          refine r_iret hX hR d_EF_block_67 rfl (by first | rfl | assumption) ?_
          exact Or.inl ⟨fun z => by have h1 := z.1; have h2 := z.2.1; have h3 := z.2.2.1; have h4 := z.2.2.2.1; rw [i_lt, show (-32768 : Int32).toInt = -32768 from rfl] at c43; omega, rfl, rfl⟩
        · refine q_iload hX 3 d_EF_block_46 rfl (by first | rfl | assumption) ?_
          refine r_sipush (v := 32767) hX d_EF_block_47 (by decide) ?_
          refine r_icmp_gt hX 65 d_EF_block_50 (by decide) (fun c50 => ?_) (fun c50 => ?_)
          · refine r_bipush (v := -7) hX d_EF_block_65 (by decide) ?_
            refine r_iret hX hR d_EF_block_67 rfl (by first | rfl | assumption) ?_
            exact Or.inl ⟨fun z => by have h1 := z.1; have h2 := z.2.1; have h3 := z.2.2.1; have h4 := z.2.2.2.1; rw [i_lt, show (32767 : Int32).toInt = 32767 from rfl] at c50; omega, rfl, rfl⟩
          · refine q_aload hX 0 d_EF_block_53 rfl (by first | rfl | assumption) ?_
            refine r_getf hX d_EF_block_54 fl_EF_24 (by first | assumption | exact ev_set_self _ _ _ | (simp (disch := first | assumption | decide | omega) only [ev_set_self, ev_set_ne, ev_new_self, ev_new_ne]; first | done | assumption)) rfl ?_
            refine r_iload hX d_EF_block_57 (by first | rfl | assumption) ?_
            refine r_callV (as := [_]) hX d_EF_block_59 lk_EF_145 f1 rfl rfl (Nat.le_of_ble_eq_true rfl) (by decide) 2 33 (by decide) (by decide) (c_Fr_suit (G := G) hfr hc hf la) (fun v w1 hq => ?_)
            obtain ⟨rfl, hw1⟩ := hq
            rw [hw1]
            refine r_if_ne hX 68 d_EF_block_62 (by decide) (fun c62 => ?_) (fun c62 => ?_)
            · have hbk : bk_ok c hs tr ti la := ⟨by rw [i_lt, show (1 : Int32).toInt = 1 from rfl] at c30; omega, by rw [i_lt, show (126 : Int32).toInt = 126 from rfl] at c36; omega, by rw [i_lt, show (-32768 : Int32).toInt = -32768 from rfl] at c43; omega, by rw [i_lt, show (32767 : Int32).toInt = 32767 from rfl] at c50; omega, b_i_1 c62⟩
              refine q_aload hX 0 d_EF_block_68 rfl (by first | rfl | assumption) ?_
              refine r_getf hX d_EF_block_69 fl_EF_31 (by first | assumption | exact ev_set_self _ _ _ | (simp (disch := first | assumption | decide | omega) only [ev_set_self, ev_set_ne, ev_new_self, ev_new_ne]; first | done | assumption)) rfl ?_
              refine q_aload hX 0 d_EF_block_72 rfl (by first | rfl | assumption) ?_
              refine r_getf hX d_EF_block_73 fl_EF_24 (by first | assumption | exact ev_set_self _ _ _ | (simp (disch := first | assumption | decide | omega) only [ev_set_self, ev_set_ne, ev_new_self, ev_new_ne]; first | done | assumption)) rfl ?_
              refine r_getf hX d_EF_block_76 fl_EF_148 (by first | assumption | exact ev_set_self _ _ _ | (simp (disch := first | assumption | decide | omega) only [ev_set_self, ev_set_ne, ev_new_self, ev_new_ne]; first | done | assumption)) rfl ?_
              refine r_callV (as := [_]) hX d_EF_block_79 lk_EF_151 t1 rfl rfl (Nat.le_of_ble_eq_true rfl) (by decide) 2 33 (by decide) (by decide) (c_Tr_canStore (G := G) htr hn hsd f hf) (fun v w1 hq => ?_)
              obtain ⟨rfl, hw1⟩ := hq
              rw [hw1]
              refine r_if_ne hX 88 d_EF_block_82 (by decide) (fun c82 => ?_) (fun c82 => ?_)
              · have hst : sd + f ≤ 1200 := by have := b_i_1 c82; exact of_decide_eq_true this
                refine q_aload hX 0 d_EF_block_88 rfl (by first | rfl | assumption) ?_
                refine r_getf hX d_EF_block_89 fl_EF_31 (by first | assumption | exact ev_set_self _ _ _ | (simp (disch := first | assumption | decide | omega) only [ev_set_self, ev_set_ne, ev_new_self, ev_new_ne]; first | done | assumption)) rfl ?_
                refine r_aload hX d_EF_block_92 (by first | rfl | assumption) ?_
                refine r_getsE (i := 9) hX d_EF_block_94 (by decide) m_385 ?_
                refine r_getsE (i := 9) hX d_EF_block_97 (by decide) m_385 ?_
                refine r_getE hX d_EF_block_100 (by decide) (q := ev_fl[0]) (by decide) m_876 ?_
                refine r_callV (as := [_, _, _]) hX d_EF_block_103 lk_EF_112 t1 rfl rfl (Nat.le_of_ble_eq_true rfl) (by decide) 0 0 (by decide) (by decide) (c_Tr_addS (G := G) htr hn hsd hes hm hm60 hfree hw139 hj o1 9 _) (fun v w2 hq => ?_)
                rcases hq with ⟨h60, rfl, hw1⟩ | ⟨h60, rfl, hadd⟩
                · rw [hw1]
                  refine r_astoreN hX d_EF_block_106 (by decide) ?_
                  refine r_aloadN hX d_EF_block_108 (by first | rfl | assumption) ?_
                  refine r_ifnonnullN hX d_EF_block_110 ?_
                  refine r_bipush (v := -6) hX d_EF_block_113 (by decide) ?_
                  refine r_iret hX hR d_EF_block_115 rfl (by first | rfl | assumption) ?_
                  exact Or.inr (Or.inl ⟨hbk, Or.inl h60, rfl, rfl⟩)
                · obtain ⟨z1, z2, z3⟩ := hadd.at (tr_go_le _ _ _ _ _ (by omega)) hm
                  refine r_astore hX d_EF_block_106 (by decide) ?_
                  refine r_aload hX d_EF_block_108 (by first | rfl | assumption) ?_
                  refine r_ifnonnull hX 116 d_EF_block_110 (by decide) ?_
                  refine r_aload hX d_EF_block_116 (by first | rfl | assumption) ?_
                  refine q_iload hX 2 d_EF_block_118 rfl (by first | rfl | assumption) ?_
                  refine q_iload hX 3 d_EF_block_119 rfl (by first | rfl | assumption) ?_
                  refine r_iload hX d_EF_block_120 (by first | rfl | assumption) ?_
                  refine r_iload hX d_EF_block_122 (by first | rfl | assumption) ?_
                  refine r_callV (as := [_, _, _, _]) hX d_EF_block_124 lk_EF_157 z2 rfl rfl (Nat.le_of_ble_eq_true rfl) (by decide) 0 0 (Nat.le_refl _) (Nat.le_refl _) (c_El_setDetails (G := G) z2 (by omega) tr ti ke la hke) (fun v w3 hq => ?_)
                  obtain ⟨rfl, y2, y3⟩ := hq
                  refine q_aload hX 0 d_EF_block_127 rfl (by first | rfl | assumption) ?_
                  refine r_getf hX d_EF_block_128 fl_EF_24 (by rw [y3.2 100 (by simp; omega), hadd.2.2.1 100 (by decide) (by decide) (by decide)]; exact he0) rfl ?_
                  refine r_aload hX d_EF_block_131 (by first | rfl | assumption) ?_
                  refine q_aload hX 0 d_EF_block_133 rfl (by first | rfl | assumption) ?_
                  refine r_getf hX d_EF_block_134 fl_EF_31 (by rw [y3.2 100 (by simp; omega), hadd.2.2.1 100 (by decide) (by decide) (by decide)]; exact he0) rfl ?_
                  have g100 : w3.2 100 = some (.inr (0, [.ref 101, .ref 103, .ref 105, .ref 108, .ref 112, .ref 113, .ref 116])) := by rw [y3.2 100 (by simp; omega), hadd.2.2.1 100 (by decide) (by decide) (by decide)]; exact he0
                  have gF : is_Fr w3 c f hs hb := ⟨by rw [y3.2 105 (by simp; omega), hadd.2.2.1 105 (by decide) (by decide) (by decide)]; exact f1, by rw [y3.2 106 (by simp; omega), hadd.2.2.1 106 (by decide) (by decide) (by decide)]; exact f2, by rw [y3.2 107 (by simp; omega), hadd.2.2.1 107 (by decide) (by decide) (by decide)]; exact f3⟩
                  have gT : is_Tr w3 (n + 1) (tr_ins (tr_end (el_lev E) n j) n (some (tr_e m n ad w.1)) L) As sf sd := ⟨by rw [y3.2 108 (by simp; omega)]; exact hadd.1.1, by rw [y3.2 109 (by simp; omega)]; exact hadd.1.2.1, by rw [y3.2 110 (by simp; omega)]; exact hadd.1.2.2.1, by rw [y3.2 111 (by simp; omega)]; exact hadd.1.2.2.2⟩
                  refine r_callV (as := [_, _]) hX d_EF_block_137 lk_EF_161 gF.1 rfl rfl (Nat.le_of_ble_eq_true rfl) (by decide) 0 0 (Nat.le_refl _) (Nat.le_refl _) (c_Fr_moveTo (G := G) gF hc hf gT (by omega) hst y2 (by rw [y3.2 _ (by simp)]; exact z3) z1 rfl) (fun v w4 hq => ?_)
                  obtain ⟨rfl, x1, x2, x3, x4, x5⟩ := hq
                  refine r_aload hX d_EF_block_140 (by first | rfl | assumption) ?_
                  refine r_getf hX d_EF_block_142 fl_EF_125 x3 rfl ?_
                  refine r_iret hX hR d_EF_block_145 rfl (by first | rfl | assumption) ?_
                  exact Or.inr (Or.inr ⟨hbk, h60, hst, rfl, w2, hadd, x1, x2, x3, x4, (y3.up (by simp)).tr x5⟩)
              · refine r_bipush (v := -6) hX d_EF_block_85 (by decide) ?_
                refine r_iret hX hR d_EF_block_87 rfl (by first | rfl | assumption) ?_
                exact Or.inr (Or.inl ⟨hbk, Or.inr (of_decide_eq_false (b_i_0 c82)), rfl, rfl⟩)
            · refine r_bipush (v := -7) hX d_EF_block_65 (by decide) ?_
              refine r_iret hX hR d_EF_block_67 rfl (by first | rfl | assumption) ?_
              exact Or.inl ⟨fun z => absurd (z.2.2.2.2.symm.trans (b_i_0 c62)) (by decide), rfl, rfl⟩
theorem c_EF_block0 {G : Ev_G} {w : Ev_W} {n sd : Nat} {L As : Nat → Option Nat} {sf : Nat → Int32} (he : is_EF w) (htr : is_Tr w n L As sf sd) (hn : n ≤ 60) (hsd : sd ≤ 1200) {m : Nat} {ad : Nat → Nat} {E : Nat → Ev_E} {PF : Nat → Nat → Int32} {mi : Nat → Option Nat} (hes : is_Es w m L ad E PF) (hm : n ≤ m) (hok : el_ok n ad E mi) (hm60 : m ≤ 60) (hfree : ∀ i, m ≤ i → i < 60 → L i = none) (hw139 : 139 ≤ w.1) (k tr ti ke la : Int32) (hk : ∀ j, ix n k = some j → ¬ (E j).1 = 7) : ev_Met G M_EF_block 3 2 33 [.ref 100, .int k, .int tr, .int ti, .int ke, .int la] w (fun v w' => v = some (.int (-1)) ∧ w' = w) := by
  have he0 : w.2 100 = some (.inr (0, [.ref 101, .ref 103, .ref 105, .ref 108, .ref 112, .ref 113, .ref 116])) := he
  refine ev_Met.of md_EF_block (Nat.le_of_ble_eq_true rfl) (fun X hX hR => ?_)
  rcases tr_at_cases hn hes hm k with ⟨j, hj, hkj, hix, hat⟩ | ⟨hix, hat⟩
  · obtain ⟨o1, o2, o3, o4⟩ := hok j hj
    obtain ⟨u1, u2, u3, u4⟩ := hes.1 j (by omega)
    have h7 := hk j hix
    refine q_aload hX 0 d_EF_block_0 rfl (by first | rfl | assumption) ?_
    refine r_getf hX d_EF_block_1 fl_EF_31 he0 rfl ?_
    refine q_iload hX 1 d_EF_block_4 rfl (by first | rfl | assumption) ?_
    refine r_callV (as := [_]) hX d_EF_block_5 lk_EF_87 htr.1 rfl rfl (Nat.le_of_ble_eq_true rfl) (by decide) 2 33 (by decide) (by decide) (c_Tr_at (G := G) htr hn hsd k) (fun v w1 hq => ?_)
    obtain ⟨rfl, hw0⟩ := hq
    rw [hw0, hat]
    refine r_astore hX d_EF_block_8 (by decide) ?_
    refine r_aload hX d_EF_block_10 (by first | rfl | assumption) ?_
    refine r_ifnull hX d_EF_block_12 ?_
    refine r_aload hX d_EF_block_15 (by first | rfl | assumption) ?_
    refine r_getf hX d_EF_block_17 fl_EF_128 u3 rfl ?_
    refine r_getsE (i := 7) hX d_EF_block_20 (by decide) m_409 ?_
    refine r_acmp_eq (o := some (E j).1) (u := some 7) hX 28 (by intro r h; cases h; exact Or.inl o2) (by intro r h; cases h; omega) d_EF_block_23 (by decide) (fun c23 => absurd c23 (fun z => h7 (Option.some.inj z))) (fun _ => ?_)
    refine r_iconst (v := -1) hX d_EF_block_26 (by decide) ?_
    refine r_iret hX hR d_EF_block_27 rfl (by first | rfl | assumption) ?_
    exact ⟨rfl, rfl⟩
  · refine q_aload hX 0 d_EF_block_0 rfl (by first | rfl | assumption) ?_
    refine r_getf hX d_EF_block_1 fl_EF_31 he0 rfl ?_
    refine q_iload hX 1 d_EF_block_4 rfl (by first | rfl | assumption) ?_
    refine r_callV (as := [_]) hX d_EF_block_5 lk_EF_87 htr.1 rfl rfl (Nat.le_of_ble_eq_true rfl) (by decide) 2 33 (by decide) (by decide) (c_Tr_at (G := G) htr hn hsd k) (fun v w1 hq => ?_)
    obtain ⟨rfl, hw0⟩ := hq
    rw [hw0, hat]
    refine r_astoreN hX d_EF_block_8 (by decide) ?_
    refine r_aloadN hX d_EF_block_10 (by first | rfl | assumption) ?_
    refine r_ifnullN hX 26 d_EF_block_12 (by decide) ?_
    refine r_iconst (v := -1) hX d_EF_block_26 (by decide) ?_
    refine r_iret hX hR d_EF_block_27 rfl (by first | rfl | assumption) ?_
    exact ⟨rfl, rfl⟩
