/-! ===== ElementFiles: make, block ===== -/
/-- the place, the level, the master's cell of a new element in the master at mo -/
def mk_p (E : Nat → Ev_E) (n : Nat) (mo : Option Nat) : Nat := match mo with
  | none => n
  | some j => tr_end (el_lev E) n j
def mk_lv (E : Nat → Ev_E) (mo : Option Nat) : Int32 := match mo with
  | none => 0
  | some j => (E j).2.2.2 1 + 1
def mk_may (E : Nat → Ev_E) (n s : Nat) (mo : Option Nat) : Bool := match mo with
  | none => so_fits s 1
  | some j => tr_may E n s j
theorem tr_added.at {w w' : Ev_W} {n m p : Nat} {L As : Nat → Option Nat} {sf : Nat → Int32} {sd : Nat} {ad : Nat → Nat} {E : Nat → Ev_E} {PF : Nat → Nat → Int32} {so : Nat} {tg : Int32} {ma : Option Nat} {lev : Int32} (h : tr_added w w' n m p L As sf sd ad E PF so tg ma lev) (hpn : p ≤ n) (hm : n ≤ m) : 139 ≤ tr_e m n ad w.1 ∧ w'.2 (tr_e m n ad w.1) = some (el_C (tr_e m n ad w.1) (el_b (el_n (tr_e m n E tr_e0) (nI p)) so tg ma lev)) ∧ w'.2 (tr_e m n ad w.1 + 1) = some (.inl (0, 16, .inl (tr_e m n PF (fun _ => 0)))) := by
  obtain ⟨h1, h2, h3, h4⟩ := h
  have h5 := h2.1 p (by split <;> omega)
  simp only [tr_ins, tr_insE, if_neg (Nat.lt_irrefl p), if_pos] at h5
  exact h5.2
theorem mk_pn {E : Nat → Ev_E} {n : Nat} {mo : Option Nat} (h : ∀ j, mo = some j → j < n) : mk_p E n mo ≤ n := by
  cases mo with
  | none => exact Nat.le_refl _
  | some j => exact tr_go_le _ _ _ _ _ (by have := h j rfl; omega)
/-- what make() answers, the master being at mo -/
def mk_post (w : Ev_W) (n m sd : Nat) (L As : Nat → Option Nat) (sf : Nat → Int32) (ad : Nat → Nat) (E : Nat → Ev_E) (PF : Nat → Nat → Int32) (mo : Option Nat) (tg : Int32) (x : Int64) (v : Option Value) (w' : Ev_W) : Prop :=
  ((so_of tg = 9 ∨ so_of tg = 16 ∨ mk_may E n (so_of tg) mo = false) ∧ v = some (.int (-4)) ∧ w' = w) ∨
  (¬ (so_of tg = 9 ∨ so_of tg = 16 ∨ mk_may E n (so_of tg) mo = false) ∧ (so_of tg = 15 ∧ (x.toInt < 0 ∨ 64 < x.toInt)) ∧ v = some (.int (-7)) ∧ w' = w) ∨
  (¬ (so_of tg = 9 ∨ so_of tg = 16 ∨ mk_may E n (so_of tg) mo = false) ∧ ¬ (so_of tg = 15 ∧ (x.toInt < 0 ∨ 64 < x.toInt)) ∧ n = 60 ∧ v = some (.int (-6)) ∧ w' = w) ∨
  (¬ (so_of tg = 9 ∨ so_of tg = 16 ∨ mk_may E n (so_of tg) mo = false) ∧ ¬ (so_of tg = 15 ∧ (x.toInt < 0 ∨ 64 < x.toInt)) ∧ n < 60 ∧ v = some (.int (nI (mk_p E n mo))) ∧ ∃ w1, tr_added w w1 n m (mk_p E n mo) L As sf sd ad E PF (so_of tg) tg (mo.map ad) (mk_lv E mo) ∧ ev_sm w1 w' [tr_e m n ad w.1] ∧ w'.2 (tr_e m n ad w.1) = some (el_C (tr_e m n ad w.1) (el_am (el_b (el_n (tr_e m n E tr_e0) (nI (mk_p E n mo))) (so_of tg) tg (mo.map ad) (mk_lv E mo)) (if so_of tg = 15 ∨ so_fm (so_of tg) = 1 then x else 0))))
theorem c_EF_makeS {G : Ev_G} {w : Ev_W} {n sd : Nat} {L As : Nat → Option Nat} {sf : Nat → Int32} (he : is_EF w) (htr : is_Tr w n L As sf sd) (hn : n ≤ 60) (hsd : sd ≤ 1200) {m : Nat} {ad : Nat → Nat} {E : Nat → Ev_E} {PF : Nat → Nat → Int32} {mi : Nat → Option Nat} (hes : is_Es w m L ad E PF) (hm : n ≤ m) (hok : el_ok n ad E mi) (hm60 : m ≤ 60) (hfree : ∀ i, m ≤ i → i < 60 → L i = none) (hw139 : 139 ≤ w.1) {j : Nat} (hj : j < n) (tg : Int32) (x : Int64) : ev_Met G M_EF_make 3 2 33 [.ref 100, .int (nI j), .int tg, .long x] w (mk_post w n m sd L As sf ad E PF (some j) tg x) := by
  have he0 : w.2 100 = some (.inr (0, [.ref 101, .ref 103, .ref 105, .ref 108, .ref 112, .ref 113, .ref 116])) := he
  obtain ⟨t1, t2, t3, t4⟩ := id htr
  obtain ⟨o1, o2, o3, o4⟩ := hok j hj
  obtain ⟨u1, u2, u3, u4⟩ := hes.1 j (by omega)
  obtain ⟨k, hkk⟩ : ∃ k, k = nI j := ⟨_, rfl⟩
  have hat : tr_at n L k = some (ad j) := by rw [hkk, tr_at, nI_toInt (by omega), if_pos ⟨by omega, by omega⟩, nI_clamp (by omega)]; exact u1
  rw [← hkk]
  refine ev_Met.of md_EF_make (Nat.le_of_ble_eq_true rfl) (fun X hX hR => ?_)
  refine q_aload hX 0 d_EF_make_0 rfl (by first | rfl | assumption) ?_
  refine r_getf hX d_EF_make_1 fl_EF_31 he0 rfl ?_
  refine q_iload hX 1 d_EF_make_4 rfl (by first | rfl | assumption) ?_
  refine r_callV (as := [_]) hX d_EF_make_5 lk_EF_87 htr.1 rfl rfl (Nat.le_of_ble_eq_true rfl) (by decide) 2 33 (by decide) (by decide) (c_Tr_at (G := G) htr hn hsd k) (fun v w1 hq => ?_)
  obtain ⟨rfl, hw0⟩ := hq
  rw [hw0, hat]
  refine r_astore hX d_EF_make_8 (by decide) ?_
  refine r_aload hX d_EF_make_10 (by first | rfl | assumption) ?_
  refine r_ifnonnull hX 22 d_EF_make_12 (by decide) ?_
  refine q_iload hX 2 d_EF_make_22 rfl (by first | rfl | assumption) ?_
  refine r_callS (as := [_]) hX d_EF_make_23 lk_EF_90 rfl (Nat.le_of_ble_eq_true rfl) (by decide) 2 33 (by decide) (by decide) (c_So_of (G := G) tg) (fun v w1 hq => ?_)
  obtain ⟨rfl, hw1⟩ := hq
  rw [hw1]
  refine r_astore hX d_EF_make_26 (by decide) ?_
  refine r_aload hX d_EF_make_28 (by first | rfl | assumption) ?_
  refine r_getsE (i := 9) hX d_EF_make_30 (by decide) m_385 ?_
  refine r_acmp_eq (o := some (so_of tg)) (u := some 9) hX 58 (by intro r h; cases h; exact Or.inl (so_of_lt tg)) (by intro r h; cases h; omega) d_EF_make_33 (by decide) (fun c33 => ?_) (fun c33 => ?_)
  · refine r_bipush (v := -4) hX d_EF_make_58 (by decide) ?_
    refine r_iret hX hR d_EF_make_60 rfl (by first | rfl | assumption) ?_
    exact Or.inl ⟨Or.inl (Option.some.inj c33), rfl, rfl⟩
  · refine r_aload hX d_EF_make_36 (by first | rfl | assumption) ?_
    refine r_getsE (i := 16) hX d_EF_make_38 (by decide) m_386 ?_
    refine r_acmp_eq (o := some (so_of tg)) (u := some 16) hX 58 (by intro r h; cases h; exact Or.inl (so_of_lt tg)) (by intro r h; cases h; omega) d_EF_make_41 (by decide) (fun c41 => ?_) (fun c41 => ?_)
    · refine r_bipush (v := -4) hX d_EF_make_58 (by decide) ?_
      refine r_iret hX hR d_EF_make_60 rfl (by first | rfl | assumption) ?_
      exact Or.inl ⟨Or.inr (Or.inl (Option.some.inj c41)), rfl, rfl⟩
    · refine q_aload hX 0 d_EF_make_44 rfl (by first | rfl | assumption) ?_
      refine r_getf hX d_EF_make_45 fl_EF_31 he0 rfl ?_
      refine r_aload hX d_EF_make_48 (by first | rfl | assumption) ?_
      refine r_aload hX d_EF_make_50 (by first | rfl | assumption) ?_
      refine r_callV (as := [_, _]) hX d_EF_make_52 lk_EF_103 t1 rfl rfl (Nat.le_of_ble_eq_true rfl) (by decide) 2 33 (by decide) (by decide) (c_Tr_mayStand (G := G) htr hn hsd hes hm hj o1 (so_of_lt tg) o2) (fun v w1 hq => ?_)
      obtain ⟨rfl, hw1⟩ := hq
      rw [hw1]
      refine r_if_ne hX 61 d_EF_make_55 (by decide) (fun c55 => ?_) (fun c55 => ?_)
      · refine r_aload hX d_EF_make_61 (by first | rfl | assumption) ?_
        refine r_getsE (i := 15) hX d_EF_make_63 (by decide) m_388 ?_
        refine r_acmp_ne (o := some (so_of tg)) (u := some 15) hX 86 (by intro r h; cases h; exact Or.inl (so_of_lt tg)) (by intro r h; cases h; omega) d_EF_make_66 (by decide) (fun c66 => ?_) (fun c66 => ?_)
        · refine q_aload hX 0 d_EF_make_86 rfl (by first | rfl | assumption) ?_
          refine r_getf hX d_EF_make_87 fl_EF_31 he0 rfl ?_
          refine r_aload hX d_EF_make_90 (by first | rfl | assumption) ?_
          refine r_aload hX d_EF_make_92 (by first | rfl | assumption) ?_
          refine q_iload hX 2 d_EF_make_94 rfl (by first | rfl | assumption) ?_
          refine r_callV (as := [_, _, _]) hX d_EF_make_95 lk_EF_112 t1 rfl rfl (Nat.le_of_ble_eq_true rfl) (by decide) 0 0 (by decide) (by decide) (c_Tr_addS (G := G) htr hn hsd hes hm hm60 hfree hw139 hj o1 (so_of tg) tg) (fun v w2 hq => ?_)
          rcases hq with ⟨h60, rfl, hw1⟩ | ⟨h60, rfl, hadd⟩
          · rw [hw1]
            refine r_astoreN hX d_EF_make_98 (by decide) ?_
            refine r_aloadN hX d_EF_make_100 (by first | rfl | assumption) ?_
            refine r_ifnonnullN hX d_EF_make_102 ?_
            refine r_bipush (v := -6) hX d_EF_make_105 (by decide) ?_
            refine r_iret hX hR d_EF_make_107 rfl (by first | rfl | assumption) ?_
            exact Or.inr (Or.inr (Or.inl ⟨(fun z => z.elim (fun z => c33 (by rw [z])) (fun z => z.elim (fun z => c41 (by rw [z])) (fun z => c55 (by have z9 : tr_may E n (so_of tg) j = false := z; rw [z9]; rfl)))), (fun z => c66 (by rw [z.1])), h60, rfl, rfl⟩))
          · obtain ⟨z1, z2, z3⟩ := hadd.at (tr_go_le _ _ _ _ _ (by omega)) hm
            refine r_astore hX d_EF_make_98 (by decide) ?_
            refine r_aload hX d_EF_make_100 (by first | rfl | assumption) ?_
            refine r_ifnonnull hX 108 d_EF_make_102 (by decide) ?_
            refine r_aload hX d_EF_make_108 (by first | rfl | assumption) ?_
            refine r_getsE (i := 15) hX d_EF_make_110 (by decide) m_388 ?_
            refine r_acmp_eq (o := some (so_of tg)) (u := some 15) hX 125 (by intro r h; cases h; exact Or.inl (so_of_lt tg)) (by intro r h; cases h; omega) d_EF_make_113 (by decide) (fun c113 => ?_) (fun c113 => ?_)
            · refine r_aload hX d_EF_make_125 (by first | rfl | assumption) ?_
              refine q_lload hX 3 d_EF_make_127 rfl (by first | rfl | assumption) ?_
              refine r_putf hX d_EF_make_128 fp_EF_119 z2 (by first | assumption | decide | omega) rfl rfl (Nat.le_of_ble_eq_true rfl) ?_
              refine r_aload hX d_EF_make_131 (by first | rfl | assumption) ?_
              refine r_getf hX d_EF_make_133 fl_EF_125 (by first | exact ev_set_self _ _ _ | exact z2) rfl ?_
              refine r_iret hX hR d_EF_make_136 rfl (by first | rfl | assumption) ?_
              exact Or.inr (Or.inr (Or.inr ⟨(fun z => z.elim (fun z => c33 (by rw [z])) (fun z => z.elim (fun z => c41 (by rw [z])) (fun z => c55 (by have z9 : tr_may E n (so_of tg) j = false := z; rw [z9]; rfl)))), (fun z => c66 (by rw [z.1])), h60, rfl, w2, hadd, ev_sm.s1 (by simp), by rw [ev_set_self, if_pos (c := so_of tg = 15 ∨ so_fm (so_of tg) = 1) (Or.inl (Option.some.inj c113))]; rfl⟩))
            · refine r_aload hX d_EF_make_116 (by first | rfl | assumption) ?_
              refine r_getE hX d_EF_make_118 (so_of_lt tg) (q := ev_fl[1]) (by decide) m_875 ?_
              refine r_iconst (v := 1) hX d_EF_make_121 (by decide) ?_
              refine r_icmp_ne hX 131 d_EF_make_122 (by decide) (fun c122 => ?_) (fun c122 => ?_)
              · refine r_aload hX d_EF_make_131 (by first | rfl | assumption) ?_
                refine r_getf hX d_EF_make_133 fl_EF_125 (by first | exact ev_set_self _ _ _ | exact z2) rfl ?_
                refine r_iret hX hR d_EF_make_136 rfl (by first | rfl | assumption) ?_
                exact Or.inr (Or.inr (Or.inr ⟨(fun z => z.elim (fun z => c33 (by rw [z])) (fun z => z.elim (fun z => c41 (by rw [z])) (fun z => c55 (by have z9 : tr_may E n (so_of tg) j = false := z; rw [z9]; rfl)))), (fun z => c66 (by rw [z.1])), h60, rfl, w2, hadd, ev_sm.rf, by rw [z2, if_neg (c := so_of tg = 15 ∨ so_fm (so_of tg) = 1) (fun z => z.elim (fun z => c113 (by rw [z])) c122)]; rfl⟩))
              · refine r_aload hX d_EF_make_125 (by first | rfl | assumption) ?_
                refine q_lload hX 3 d_EF_make_127 rfl (by first | rfl | assumption) ?_
                refine r_putf hX d_EF_make_128 fp_EF_119 z2 (by first | assumption | decide | omega) rfl rfl (Nat.le_of_ble_eq_true rfl) ?_
                refine r_aload hX d_EF_make_131 (by first | rfl | assumption) ?_
                refine r_getf hX d_EF_make_133 fl_EF_125 (by first | exact ev_set_self _ _ _ | exact z2) rfl ?_
                refine r_iret hX hR d_EF_make_136 rfl (by first | rfl | assumption) ?_
                exact Or.inr (Or.inr (Or.inr ⟨(fun z => z.elim (fun z => c33 (by rw [z])) (fun z => z.elim (fun z => c41 (by rw [z])) (fun z => c55 (by have z9 : tr_may E n (so_of tg) j = false := z; rw [z9]; rfl)))), (fun z => c66 (by rw [z.1])), h60, rfl, w2, hadd, ev_sm.s1 (by simp), by rw [ev_set_self, if_pos (c := so_of tg = 15 ∨ so_fm (so_of tg) = 1) (Or.inr c122)]; rfl⟩))
        · refine q_lload hX 3 d_EF_make_69 rfl (by first | rfl | assumption) ?_
          refine r_lconst (v := 0) hX d_EF_make_70 (by decide) ?_
          refine r_lcmp hX d_EF_make_71 ?_
          refine r_if_lt hX 83 d_EF_make_72 (by decide) (fun c72 => ?_) (fun c72 => ?_)
          · refine r_bipush (v := -7) hX d_EF_make_83 (by decide) ?_
            refine r_iret hX hR d_EF_make_85 rfl (by first | rfl | assumption) ?_
            exact Or.inr (Or.inl ⟨(fun z => z.elim (fun z => c33 (by rw [z])) (fun z => z.elim (fun z => c41 (by rw [z])) (fun z => c55 (by have z9 : tr_may E n (so_of tg) j = false := z; rw [z9]; rfl)))), ⟨Option.some.inj c66, Or.inl (by have y1 := l_lt0.mp c72; rw [show (0 : Int64).toInt = 0 from rfl] at y1; exact y1)⟩, rfl, rfl⟩)
          · refine q_lload hX 3 d_EF_make_75 rfl (by first | rfl | assumption) ?_
            refine r_ldc2 hX d_EF_make_76 m_389 ?_
            refine r_lcmp hX d_EF_make_79 ?_
            refine r_if_le hX 86 d_EF_make_80 (by decide) (fun c80 => ?_) (fun c80 => ?_)
            · refine q_aload hX 0 d_EF_make_86 rfl (by first | rfl | assumption) ?_
              refine r_getf hX d_EF_make_87 fl_EF_31 he0 rfl ?_
              refine r_aload hX d_EF_make_90 (by first | rfl | assumption) ?_
              refine r_aload hX d_EF_make_92 (by first | rfl | assumption) ?_
              refine q_iload hX 2 d_EF_make_94 rfl (by first | rfl | assumption) ?_
              refine r_callV (as := [_, _, _]) hX d_EF_make_95 lk_EF_112 t1 rfl rfl (Nat.le_of_ble_eq_true rfl) (by decide) 0 0 (by decide) (by decide) (c_Tr_addS (G := G) htr hn hsd hes hm hm60 hfree hw139 hj o1 (so_of tg) tg) (fun v w2 hq => ?_)
              rcases hq with ⟨h60, rfl, hw1⟩ | ⟨h60, rfl, hadd⟩
              · rw [hw1]
                refine r_astoreN hX d_EF_make_98 (by decide) ?_
                refine r_aloadN hX d_EF_make_100 (by first | rfl | assumption) ?_
                refine r_ifnonnullN hX d_EF_make_102 ?_
                refine r_bipush (v := -6) hX d_EF_make_105 (by decide) ?_
                refine r_iret hX hR d_EF_make_107 rfl (by first | rfl | assumption) ?_
                exact Or.inr (Or.inr (Or.inl ⟨(fun z => z.elim (fun z => c33 (by rw [z])) (fun z => z.elim (fun z => c41 (by rw [z])) (fun z => c55 (by have z9 : tr_may E n (so_of tg) j = false := z; rw [z9]; rfl)))), (fun z => by have y1 := (not_congr l_lt0).mp c72; have y2 := l_le0.mp c80; rw [show (0 : Int64).toInt = 0 from rfl] at y1; rw [show (64 : Int64).toInt = 64 from rfl] at y2; have := z.2; omega), h60, rfl, rfl⟩))
              · obtain ⟨z1, z2, z3⟩ := hadd.at (tr_go_le _ _ _ _ _ (by omega)) hm
                refine r_astore hX d_EF_make_98 (by decide) ?_
                refine r_aload hX d_EF_make_100 (by first | rfl | assumption) ?_
                refine r_ifnonnull hX 108 d_EF_make_102 (by decide) ?_
                refine r_aload hX d_EF_make_108 (by first | rfl | assumption) ?_
                refine r_getsE (i := 15) hX d_EF_make_110 (by decide) m_388 ?_
                refine r_acmp_eq (o := some (so_of tg)) (u := some 15) hX 125 (by intro r h; cases h; exact Or.inl (so_of_lt tg)) (by intro r h; cases h; omega) d_EF_make_113 (by decide) (fun c113 => ?_) (fun c113 => ?_)
                · refine r_aload hX d_EF_make_125 (by first | rfl | assumption) ?_
                  refine q_lload hX 3 d_EF_make_127 rfl (by first | rfl | assumption) ?_
                  refine r_putf hX d_EF_make_128 fp_EF_119 z2 (by first | assumption | decide | omega) rfl rfl (Nat.le_of_ble_eq_true rfl) ?_
                  refine r_aload hX d_EF_make_131 (by first | rfl | assumption) ?_
                  refine r_getf hX d_EF_make_133 fl_EF_125 (by first | exact ev_set_self _ _ _ | exact z2) rfl ?_
                  refine r_iret hX hR d_EF_make_136 rfl (by first | rfl | assumption) ?_
                  exact Or.inr (Or.inr (Or.inr ⟨(fun z => z.elim (fun z => c33 (by rw [z])) (fun z => z.elim (fun z => c41 (by rw [z])) (fun z => c55 (by have z9 : tr_may E n (so_of tg) j = false := z; rw [z9]; rfl)))), (fun z => by have y1 := (not_congr l_lt0).mp c72; have y2 := l_le0.mp c80; rw [show (0 : Int64).toInt = 0 from rfl] at y1; rw [show (64 : Int64).toInt = 64 from rfl] at y2; have := z.2; omega), h60, rfl, w2, hadd, ev_sm.s1 (by simp), by rw [ev_set_self, if_pos (c := so_of tg = 15 ∨ so_fm (so_of tg) = 1) (Or.inl (Option.some.inj c113))]; rfl⟩))
                · refine r_aload hX d_EF_make_116 (by first | rfl | assumption) ?_
                  refine r_getE hX d_EF_make_118 (so_of_lt tg) (q := ev_fl[1]) (by decide) m_875 ?_
                  refine r_iconst (v := 1) hX d_EF_make_121 (by decide) ?_
                  refine r_icmp_ne hX 131 d_EF_make_122 (by decide) (fun c122 => ?_) (fun c122 => ?_)
                  · refine r_aload hX d_EF_make_131 (by first | rfl | assumption) ?_
                    refine r_getf hX d_EF_make_133 fl_EF_125 (by first | exact ev_set_self _ _ _ | exact z2) rfl ?_
                    refine r_iret hX hR d_EF_make_136 rfl (by first | rfl | assumption) ?_
                    exact Or.inr (Or.inr (Or.inr ⟨(fun z => z.elim (fun z => c33 (by rw [z])) (fun z => z.elim (fun z => c41 (by rw [z])) (fun z => c55 (by have z9 : tr_may E n (so_of tg) j = false := z; rw [z9]; rfl)))), (fun z => by have y1 := (not_congr l_lt0).mp c72; have y2 := l_le0.mp c80; rw [show (0 : Int64).toInt = 0 from rfl] at y1; rw [show (64 : Int64).toInt = 64 from rfl] at y2; have := z.2; omega), h60, rfl, w2, hadd, ev_sm.rf, by rw [z2, if_neg (c := so_of tg = 15 ∨ so_fm (so_of tg) = 1) (fun z => z.elim (fun z => c113 (by rw [z])) c122)]; rfl⟩))
                  · refine r_aload hX d_EF_make_125 (by first | rfl | assumption) ?_
                    refine q_lload hX 3 d_EF_make_127 rfl (by first | rfl | assumption) ?_
                    refine r_putf hX d_EF_make_128 fp_EF_119 z2 (by first | assumption | decide | omega) rfl rfl (Nat.le_of_ble_eq_true rfl) ?_
                    refine r_aload hX d_EF_make_131 (by first | rfl | assumption) ?_
                    refine r_getf hX d_EF_make_133 fl_EF_125 (by first | exact ev_set_self _ _ _ | exact z2) rfl ?_
                    refine r_iret hX hR d_EF_make_136 rfl (by first | rfl | assumption) ?_
                    exact Or.inr (Or.inr (Or.inr ⟨(fun z => z.elim (fun z => c33 (by rw [z])) (fun z => z.elim (fun z => c41 (by rw [z])) (fun z => c55 (by have z9 : tr_may E n (so_of tg) j = false := z; rw [z9]; rfl)))), (fun z => by have y1 := (not_congr l_lt0).mp c72; have y2 := l_le0.mp c80; rw [show (0 : Int64).toInt = 0 from rfl] at y1; rw [show (64 : Int64).toInt = 64 from rfl] at y2; have := z.2; omega), h60, rfl, w2, hadd, ev_sm.s1 (by simp), by rw [ev_set_self, if_pos (c := so_of tg = 15 ∨ so_fm (so_of tg) = 1) (Or.inr c122)]; rfl⟩))
            · refine r_bipush (v := -7) hX d_EF_make_83 (by decide) ?_
              refine r_iret hX hR d_EF_make_85 rfl (by first | rfl | assumption) ?_
              exact Or.inr (Or.inl ⟨(fun z => z.elim (fun z => c33 (by rw [z])) (fun z => z.elim (fun z => c41 (by rw [z])) (fun z => c55 (by have z9 : tr_may E n (so_of tg) j = false := z; rw [z9]; rfl)))), ⟨Option.some.inj c66, Or.inr (by have y2 := (not_congr l_le0).mp c80; rw [show (64 : Int64).toInt = 64 from rfl] at y2; omega)⟩, rfl, rfl⟩)
      · refine r_bipush (v := -4) hX d_EF_make_58 (by decide) ?_
        refine r_iret hX hR d_EF_make_60 rfl (by first | rfl | assumption) ?_
        exact Or.inl ⟨Or.inr (Or.inr (b_i_0 c55)), rfl, rfl⟩
theorem c_EF_makeN {G : Ev_G} {w : Ev_W} {n sd : Nat} {L As : Nat → Option Nat} {sf : Nat → Int32} (he : is_EF w) (htr : is_Tr w n L As sf sd) (hn : n ≤ 60) (hsd : sd ≤ 1200) {m : Nat} {ad : Nat → Nat} {E : Nat → Ev_E} {PF : Nat → Nat → Int32} {mi : Nat → Option Nat} (hes : is_Es w m L ad E PF) (hm : n ≤ m) (hok : el_ok n ad E mi) (hm60 : m ≤ 60) (hfree : ∀ i, m ≤ i → i < 60 → L i = none) (hw139 : 139 ≤ w.1) (tg : Int32) (x : Int64) : ev_Met G M_EF_make 3 2 33 [.ref 100, .int (-1), .int tg, .long x] w (mk_post w n m sd L As sf ad E PF none tg x) := by
  have he0 : w.2 100 = some (.inr (0, [.ref 101, .ref 103, .ref 105, .ref 108, .ref 112, .ref 113, .ref 116])) := he
  obtain ⟨t1, t2, t3, t4⟩ := id htr
  obtain ⟨k, hkk⟩ : ∃ k : Int32, k = -1 := ⟨_, rfl⟩
  have hk1 : k = -1 := hkk
  have hat : tr_at n L k = none := by rw [hkk, tr_at, if_neg (by rw [show (-1 : Int32).toInt = -1 from rfl]; omega)]
  rw [← hkk]
  refine ev_Met.of md_EF_make (Nat.le_of_ble_eq_true rfl) (fun X hX hR => ?_)
  refine q_aload hX 0 d_EF_make_0 rfl (by first | rfl | assumption) ?_
  refine r_getf hX d_EF_make_1 fl_EF_31 he0 rfl ?_
  refine q_iload hX 1 d_EF_make_4 rfl (by first | rfl | assumption) ?_
  refine r_callV (as := [_]) hX d_EF_make_5 lk_EF_87 htr.1 rfl rfl (Nat.le_of_ble_eq_true rfl) (by decide) 2 33 (by decide) (by decide) (c_Tr_at (G := G) htr hn hsd k) (fun v w1 hq => ?_)
  obtain ⟨rfl, hw0⟩ := hq
  rw [hw0, hat]
  refine r_astoreN hX d_EF_make_8 (by decide) ?_
  refine r_aloadN hX d_EF_make_10 (by first | rfl | assumption) ?_
  refine r_ifnonnullN hX d_EF_make_12 ?_
  refine q_iload hX 1 d_EF_make_15 rfl (by first | rfl | assumption) ?_
  refine r_iconst (v := -1) hX d_EF_make_16 (by decide) ?_
  refine r_icmp_eq hX 22 d_EF_make_17 (by decide) (fun _ => ?_) (fun c17 => absurd (by exact hk1) c17)
  refine q_iload hX 2 d_EF_make_22 rfl (by first | rfl | assumption) ?_
  refine r_callS (as := [_]) hX d_EF_make_23 lk_EF_90 rfl (Nat.le_of_ble_eq_true rfl) (by decide) 2 33 (by decide) (by decide) (c_So_of (G := G) tg) (fun v w1 hq => ?_)
  obtain ⟨rfl, hw1⟩ := hq
  rw [hw1]
  refine r_astore hX d_EF_make_26 (by decide) ?_
  refine r_aload hX d_EF_make_28 (by first | rfl | assumption) ?_
  refine r_getsE (i := 9) hX d_EF_make_30 (by decide) m_385 ?_
  refine r_acmp_eq (o := some (so_of tg)) (u := some 9) hX 58 (by intro r h; cases h; exact Or.inl (so_of_lt tg)) (by intro r h; cases h; omega) d_EF_make_33 (by decide) (fun c33 => ?_) (fun c33 => ?_)
  · refine r_bipush (v := -4) hX d_EF_make_58 (by decide) ?_
    refine r_iret hX hR d_EF_make_60 rfl (by first | rfl | assumption) ?_
    exact Or.inl ⟨Or.inl (Option.some.inj c33), rfl, rfl⟩
  · refine r_aload hX d_EF_make_36 (by first | rfl | assumption) ?_
    refine r_getsE (i := 16) hX d_EF_make_38 (by decide) m_386 ?_
    refine r_acmp_eq (o := some (so_of tg)) (u := some 16) hX 58 (by intro r h; cases h; exact Or.inl (so_of_lt tg)) (by intro r h; cases h; omega) d_EF_make_41 (by decide) (fun c41 => ?_) (fun c41 => ?_)
    · refine r_bipush (v := -4) hX d_EF_make_58 (by decide) ?_
      refine r_iret hX hR d_EF_make_60 rfl (by first | rfl | assumption) ?_
      exact Or.inl ⟨Or.inr (Or.inl (Option.some.inj c41)), rfl, rfl⟩
    · refine q_aload hX 0 d_EF_make_44 rfl (by first | rfl | assumption) ?_
      refine r_getf hX d_EF_make_45 fl_EF_31 he0 rfl ?_
      refine r_aload hX d_EF_make_48 (by first | rfl | assumption) ?_
      refine r_aloadN hX d_EF_make_50 (by first | rfl | assumption) ?_
      refine r_callV (as := [_, _]) hX d_EF_make_52 lk_EF_103 t1 rfl rfl (Nat.le_of_ble_eq_true rfl) (by decide) 2 33 (by decide) (by decide) (c_Tr_mayStandN (G := G) htr hn hsd (so_of_lt tg)) (fun v w1 hq => ?_)
      obtain ⟨rfl, hw1⟩ := hq
      rw [hw1]
      refine r_if_ne hX 61 d_EF_make_55 (by decide) (fun c55 => ?_) (fun c55 => ?_)
      · refine r_aload hX d_EF_make_61 (by first | rfl | assumption) ?_
        refine r_getsE (i := 15) hX d_EF_make_63 (by decide) m_388 ?_
        refine r_acmp_ne (o := some (so_of tg)) (u := some 15) hX 86 (by intro r h; cases h; exact Or.inl (so_of_lt tg)) (by intro r h; cases h; omega) d_EF_make_66 (by decide) (fun c66 => ?_) (fun c66 => ?_)
        · refine q_aload hX 0 d_EF_make_86 rfl (by first | rfl | assumption) ?_
          refine r_getf hX d_EF_make_87 fl_EF_31 he0 rfl ?_
          refine r_aloadN hX d_EF_make_90 (by first | rfl | assumption) ?_
          refine r_aload hX d_EF_make_92 (by first | rfl | assumption) ?_
          refine q_iload hX 2 d_EF_make_94 rfl (by first | rfl | assumption) ?_
          refine r_callV (as := [_, _, _]) hX d_EF_make_95 lk_EF_112 t1 rfl rfl (Nat.le_of_ble_eq_true rfl) (by decide) 0 0 (by decide) (by decide) (c_Tr_addN (G := G) htr hn hsd hes hm hm60 hfree hw139 (so_of tg) tg) (fun v w2 hq => ?_)
          rcases hq with ⟨h60, rfl, hw1⟩ | ⟨h60, rfl, hadd⟩
          · rw [hw1]
            refine r_astoreN hX d_EF_make_98 (by decide) ?_
            refine r_aloadN hX d_EF_make_100 (by first | rfl | assumption) ?_
            refine r_ifnonnullN hX d_EF_make_102 ?_
            refine r_bipush (v := -6) hX d_EF_make_105 (by decide) ?_
            refine r_iret hX hR d_EF_make_107 rfl (by first | rfl | assumption) ?_
            exact Or.inr (Or.inr (Or.inl ⟨(fun z => z.elim (fun z => c33 (by rw [z])) (fun z => z.elim (fun z => c41 (by rw [z])) (fun z => c55 (by have z9 : so_fits (so_of tg) 1 = false := z; rw [z9]; rfl)))), (fun z => c66 (by rw [z.1])), h60, rfl, rfl⟩))
          · obtain ⟨z1, z2, z3⟩ := hadd.at (Nat.le_refl _) hm
            refine r_astore hX d_EF_make_98 (by decide) ?_
            refine r_aload hX d_EF_make_100 (by first | rfl | assumption) ?_
            refine r_ifnonnull hX 108 d_EF_make_102 (by decide) ?_
            refine r_aload hX d_EF_make_108 (by first | rfl | assumption) ?_
            refine r_getsE (i := 15) hX d_EF_make_110 (by decide) m_388 ?_
            refine r_acmp_eq (o := some (so_of tg)) (u := some 15) hX 125 (by intro r h; cases h; exact Or.inl (so_of_lt tg)) (by intro r h; cases h; omega) d_EF_make_113 (by decide) (fun c113 => ?_) (fun c113 => ?_)
            · refine r_aload hX d_EF_make_125 (by first | rfl | assumption) ?_
              refine q_lload hX 3 d_EF_make_127 rfl (by first | rfl | assumption) ?_
              refine r_putf hX d_EF_make_128 fp_EF_119 z2 (by first | assumption | decide | omega) rfl rfl (Nat.le_of_ble_eq_true rfl) ?_
              refine r_aload hX d_EF_make_131 (by first | rfl | assumption) ?_
              refine r_getf hX d_EF_make_133 fl_EF_125 (by first | exact ev_set_self _ _ _ | exact z2) rfl ?_
              refine r_iret hX hR d_EF_make_136 rfl (by first | rfl | assumption) ?_
              exact Or.inr (Or.inr (Or.inr ⟨(fun z => z.elim (fun z => c33 (by rw [z])) (fun z => z.elim (fun z => c41 (by rw [z])) (fun z => c55 (by have z9 : so_fits (so_of tg) 1 = false := z; rw [z9]; rfl)))), (fun z => c66 (by rw [z.1])), h60, rfl, w2, hadd, ev_sm.s1 (by simp), by rw [ev_set_self, if_pos (c := so_of tg = 15 ∨ so_fm (so_of tg) = 1) (Or.inl (Option.some.inj c113))]; rfl⟩))
            · refine r_aload hX d_EF_make_116 (by first | rfl | assumption) ?_
              refine r_getE hX d_EF_make_118 (so_of_lt tg) (q := ev_fl[1]) (by decide) m_875 ?_
              refine r_iconst (v := 1) hX d_EF_make_121 (by decide) ?_
              refine r_icmp_ne hX 131 d_EF_make_122 (by decide) (fun c122 => ?_) (fun c122 => ?_)
              · refine r_aload hX d_EF_make_131 (by first | rfl | assumption) ?_
                refine r_getf hX d_EF_make_133 fl_EF_125 (by first | exact ev_set_self _ _ _ | exact z2) rfl ?_
                refine r_iret hX hR d_EF_make_136 rfl (by first | rfl | assumption) ?_
                exact Or.inr (Or.inr (Or.inr ⟨(fun z => z.elim (fun z => c33 (by rw [z])) (fun z => z.elim (fun z => c41 (by rw [z])) (fun z => c55 (by have z9 : so_fits (so_of tg) 1 = false := z; rw [z9]; rfl)))), (fun z => c66 (by rw [z.1])), h60, rfl, w2, hadd, ev_sm.rf, by rw [z2, if_neg (c := so_of tg = 15 ∨ so_fm (so_of tg) = 1) (fun z => z.elim (fun z => c113 (by rw [z])) c122)]; rfl⟩))
              · refine r_aload hX d_EF_make_125 (by first | rfl | assumption) ?_
                refine q_lload hX 3 d_EF_make_127 rfl (by first | rfl | assumption) ?_
                refine r_putf hX d_EF_make_128 fp_EF_119 z2 (by first | assumption | decide | omega) rfl rfl (Nat.le_of_ble_eq_true rfl) ?_
                refine r_aload hX d_EF_make_131 (by first | rfl | assumption) ?_
                refine r_getf hX d_EF_make_133 fl_EF_125 (by first | exact ev_set_self _ _ _ | exact z2) rfl ?_
                refine r_iret hX hR d_EF_make_136 rfl (by first | rfl | assumption) ?_
                exact Or.inr (Or.inr (Or.inr ⟨(fun z => z.elim (fun z => c33 (by rw [z])) (fun z => z.elim (fun z => c41 (by rw [z])) (fun z => c55 (by have z9 : so_fits (so_of tg) 1 = false := z; rw [z9]; rfl)))), (fun z => c66 (by rw [z.1])), h60, rfl, w2, hadd, ev_sm.s1 (by simp), by rw [ev_set_self, if_pos (c := so_of tg = 15 ∨ so_fm (so_of tg) = 1) (Or.inr c122)]; rfl⟩))
        · refine q_lload hX 3 d_EF_make_69 rfl (by first | rfl | assumption) ?_
          refine r_lconst (v := 0) hX d_EF_make_70 (by decide) ?_
          refine r_lcmp hX d_EF_make_71 ?_
          refine r_if_lt hX 83 d_EF_make_72 (by decide) (fun c72 => ?_) (fun c72 => ?_)
          · refine r_bipush (v := -7) hX d_EF_make_83 (by decide) ?_
            refine r_iret hX hR d_EF_make_85 rfl (by first | rfl | assumption) ?_
            exact Or.inr (Or.inl ⟨(fun z => z.elim (fun z => c33 (by rw [z])) (fun z => z.elim (fun z => c41 (by rw [z])) (fun z => c55 (by have z9 : so_fits (so_of tg) 1 = false := z; rw [z9]; rfl)))), ⟨Option.some.inj c66, Or.inl (by have y1 := l_lt0.mp c72; rw [show (0 : Int64).toInt = 0 from rfl] at y1; exact y1)⟩, rfl, rfl⟩)
          · refine q_lload hX 3 d_EF_make_75 rfl (by first | rfl | assumption) ?_
            refine r_ldc2 hX d_EF_make_76 m_389 ?_
            refine r_lcmp hX d_EF_make_79 ?_
            refine r_if_le hX 86 d_EF_make_80 (by decide) (fun c80 => ?_) (fun c80 => ?_)
            · refine q_aload hX 0 d_EF_make_86 rfl (by first | rfl | assumption) ?_
              refine r_getf hX d_EF_make_87 fl_EF_31 he0 rfl ?_
              refine r_aloadN hX d_EF_make_90 (by first | rfl | assumption) ?_
              refine r_aload hX d_EF_make_92 (by first | rfl | assumption) ?_
              refine q_iload hX 2 d_EF_make_94 rfl (by first | rfl | assumption) ?_
              refine r_callV (as := [_, _, _]) hX d_EF_make_95 lk_EF_112 t1 rfl rfl (Nat.le_of_ble_eq_true rfl) (by decide) 0 0 (by decide) (by decide) (c_Tr_addN (G := G) htr hn hsd hes hm hm60 hfree hw139 (so_of tg) tg) (fun v w2 hq => ?_)
              rcases hq with ⟨h60, rfl, hw1⟩ | ⟨h60, rfl, hadd⟩
              · rw [hw1]
                refine r_astoreN hX d_EF_make_98 (by decide) ?_
                refine r_aloadN hX d_EF_make_100 (by first | rfl | assumption) ?_
                refine r_ifnonnullN hX d_EF_make_102 ?_
                refine r_bipush (v := -6) hX d_EF_make_105 (by decide) ?_
                refine r_iret hX hR d_EF_make_107 rfl (by first | rfl | assumption) ?_
                exact Or.inr (Or.inr (Or.inl ⟨(fun z => z.elim (fun z => c33 (by rw [z])) (fun z => z.elim (fun z => c41 (by rw [z])) (fun z => c55 (by have z9 : so_fits (so_of tg) 1 = false := z; rw [z9]; rfl)))), (fun z => by have y1 := (not_congr l_lt0).mp c72; have y2 := l_le0.mp c80; rw [show (0 : Int64).toInt = 0 from rfl] at y1; rw [show (64 : Int64).toInt = 64 from rfl] at y2; have := z.2; omega), h60, rfl, rfl⟩))
              · obtain ⟨z1, z2, z3⟩ := hadd.at (Nat.le_refl _) hm
                refine r_astore hX d_EF_make_98 (by decide) ?_
                refine r_aload hX d_EF_make_100 (by first | rfl | assumption) ?_
                refine r_ifnonnull hX 108 d_EF_make_102 (by decide) ?_
                refine r_aload hX d_EF_make_108 (by first | rfl | assumption) ?_
                refine r_getsE (i := 15) hX d_EF_make_110 (by decide) m_388 ?_
                refine r_acmp_eq (o := some (so_of tg)) (u := some 15) hX 125 (by intro r h; cases h; exact Or.inl (so_of_lt tg)) (by intro r h; cases h; omega) d_EF_make_113 (by decide) (fun c113 => ?_) (fun c113 => ?_)
                · refine r_aload hX d_EF_make_125 (by first | rfl | assumption) ?_
                  refine q_lload hX 3 d_EF_make_127 rfl (by first | rfl | assumption) ?_
                  refine r_putf hX d_EF_make_128 fp_EF_119 z2 (by first | assumption | decide | omega) rfl rfl (Nat.le_of_ble_eq_true rfl) ?_
                  refine r_aload hX d_EF_make_131 (by first | rfl | assumption) ?_
                  refine r_getf hX d_EF_make_133 fl_EF_125 (by first | exact ev_set_self _ _ _ | exact z2) rfl ?_
                  refine r_iret hX hR d_EF_make_136 rfl (by first | rfl | assumption) ?_
                  exact Or.inr (Or.inr (Or.inr ⟨(fun z => z.elim (fun z => c33 (by rw [z])) (fun z => z.elim (fun z => c41 (by rw [z])) (fun z => c55 (by have z9 : so_fits (so_of tg) 1 = false := z; rw [z9]; rfl)))), (fun z => by have y1 := (not_congr l_lt0).mp c72; have y2 := l_le0.mp c80; rw [show (0 : Int64).toInt = 0 from rfl] at y1; rw [show (64 : Int64).toInt = 64 from rfl] at y2; have := z.2; omega), h60, rfl, w2, hadd, ev_sm.s1 (by simp), by rw [ev_set_self, if_pos (c := so_of tg = 15 ∨ so_fm (so_of tg) = 1) (Or.inl (Option.some.inj c113))]; rfl⟩))
                · refine r_aload hX d_EF_make_116 (by first | rfl | assumption) ?_
                  refine r_getE hX d_EF_make_118 (so_of_lt tg) (q := ev_fl[1]) (by decide) m_875 ?_
                  refine r_iconst (v := 1) hX d_EF_make_121 (by decide) ?_
                  refine r_icmp_ne hX 131 d_EF_make_122 (by decide) (fun c122 => ?_) (fun c122 => ?_)
                  · refine r_aload hX d_EF_make_131 (by first | rfl | assumption) ?_
                    refine r_getf hX d_EF_make_133 fl_EF_125 (by first | exact ev_set_self _ _ _ | exact z2) rfl ?_
                    refine r_iret hX hR d_EF_make_136 rfl (by first | rfl | assumption) ?_
                    exact Or.inr (Or.inr (Or.inr ⟨(fun z => z.elim (fun z => c33 (by rw [z])) (fun z => z.elim (fun z => c41 (by rw [z])) (fun z => c55 (by have z9 : so_fits (so_of tg) 1 = false := z; rw [z9]; rfl)))), (fun z => by have y1 := (not_congr l_lt0).mp c72; have y2 := l_le0.mp c80; rw [show (0 : Int64).toInt = 0 from rfl] at y1; rw [show (64 : Int64).toInt = 64 from rfl] at y2; have := z.2; omega), h60, rfl, w2, hadd, ev_sm.rf, by rw [z2, if_neg (c := so_of tg = 15 ∨ so_fm (so_of tg) = 1) (fun z => z.elim (fun z => c113 (by rw [z])) c122)]; rfl⟩))
                  · refine r_aload hX d_EF_make_125 (by first | rfl | assumption) ?_
                    refine q_lload hX 3 d_EF_make_127 rfl (by first | rfl | assumption) ?_
                    refine r_putf hX d_EF_make_128 fp_EF_119 z2 (by first | assumption | decide | omega) rfl rfl (Nat.le_of_ble_eq_true rfl) ?_
                    refine r_aload hX d_EF_make_131 (by first | rfl | assumption) ?_
                    refine r_getf hX d_EF_make_133 fl_EF_125 (by first | exact ev_set_self _ _ _ | exact z2) rfl ?_
                    refine r_iret hX hR d_EF_make_136 rfl (by first | rfl | assumption) ?_
                    exact Or.inr (Or.inr (Or.inr ⟨(fun z => z.elim (fun z => c33 (by rw [z])) (fun z => z.elim (fun z => c41 (by rw [z])) (fun z => c55 (by have z9 : so_fits (so_of tg) 1 = false := z; rw [z9]; rfl)))), (fun z => by have y1 := (not_congr l_lt0).mp c72; have y2 := l_le0.mp c80; rw [show (0 : Int64).toInt = 0 from rfl] at y1; rw [show (64 : Int64).toInt = 64 from rfl] at y2; have := z.2; omega), h60, rfl, w2, hadd, ev_sm.s1 (by simp), by rw [ev_set_self, if_pos (c := so_of tg = 15 ∨ so_fm (so_of tg) = 1) (Or.inr c122)]; rfl⟩))
            · refine r_bipush (v := -7) hX d_EF_make_83 (by decide) ?_
              refine r_iret hX hR d_EF_make_85 rfl (by first | rfl | assumption) ?_
              exact Or.inr (Or.inl ⟨(fun z => z.elim (fun z => c33 (by rw [z])) (fun z => z.elim (fun z => c41 (by rw [z])) (fun z => c55 (by have z9 : so_fits (so_of tg) 1 = false := z; rw [z9]; rfl)))), ⟨Option.some.inj c66, Or.inr (by have y2 := (not_congr l_le0).mp c80; rw [show (64 : Int64).toInt = 64 from rfl] at y2; omega)⟩, rfl, rfl⟩)
      · refine r_bipush (v := -4) hX d_EF_make_58 (by decide) ?_
        refine r_iret hX hR d_EF_make_60 rfl (by first | rfl | assumption) ?_
        exact Or.inl ⟨Or.inr (Or.inr (b_i_0 c55)), rfl, rfl⟩
theorem c_EF_make0 {G : Ev_G} {w : Ev_W} {n sd : Nat} {L As : Nat → Option Nat} {sf : Nat → Int32} (he : is_EF w) (htr : is_Tr w n L As sf sd) (hn : n ≤ 60) (hsd : sd ≤ 1200) {m : Nat} {ad : Nat → Nat} {E : Nat → Ev_E} {PF : Nat → Nat → Int32} {mi : Nat → Option Nat} (hes : is_Es w m L ad E PF) (hm : n ≤ m) (hok : el_ok n ad E mi) (hm60 : m ≤ 60) (hfree : ∀ i, m ≤ i → i < 60 → L i = none) (hw139 : 139 ≤ w.1) (k tg : Int32) (x : Int64) (hk : ix n k = none) (hk1 : ¬ k = -1) : ev_Met G M_EF_make 3 2 33 [.ref 100, .int k, .int tg, .long x] w (fun v w' => v = some (.int (-1)) ∧ w' = w) := by
  have he0 : w.2 100 = some (.inr (0, [.ref 101, .ref 103, .ref 105, .ref 108, .ref 112, .ref 113, .ref 116])) := he
  obtain ⟨t1, t2, t3, t4⟩ := id htr
  have hat : tr_at n L k = none := by
    rcases tr_at_cases hn hes hm k with ⟨j, _, _, h3, _⟩ | ⟨_, h⟩
    · rw [hk] at h3; cases h3
    · exact h
  refine ev_Met.of md_EF_make (Nat.le_of_ble_eq_true rfl) (fun X hX hR => ?_)
  refine q_aload hX 0 d_EF_make_0 rfl (by first | rfl | assumption) ?_
  refine r_getf hX d_EF_make_1 fl_EF_31 he0 rfl ?_
  refine q_iload hX 1 d_EF_make_4 rfl (by first | rfl | assumption) ?_
  refine r_callV (as := [_]) hX d_EF_make_5 lk_EF_87 htr.1 rfl rfl (Nat.le_of_ble_eq_true rfl) (by decide) 2 33 (by decide) (by decide) (c_Tr_at (G := G) htr hn hsd k) (fun v w1 hq => ?_)
  obtain ⟨rfl, hw0⟩ := hq
  rw [hw0, hat]
  refine r_astoreN hX d_EF_make_8 (by decide) ?_
  refine r_aloadN hX d_EF_make_10 (by first | rfl | assumption) ?_
  refine r_ifnonnullN hX d_EF_make_12 ?_
  refine q_iload hX 1 d_EF_make_15 rfl (by first | rfl | assumption) ?_
  refine r_iconst (v := -1) hX d_EF_make_16 (by decide) ?_
  refine r_icmp_eq hX 22 d_EF_make_17 (by decide) (fun c17 => absurd c17 hk1) (fun _ => ?_)
  refine r_iconst (v := -1) hX d_EF_make_20 (by decide) ?_
  refine r_iret hX hR d_EF_make_21 rfl (by first | rfl | assumption) ?_
  exact ⟨rfl, rfl⟩
