/-! ===== Element ===== -/
/-- sort, master, amount; numbers: 0 tag, 1 level, 2 number, 3 storedFrom, 4 storedSize, 5 track, 6 time, 7 key, 8 lacing, 9 end, 10 open, 11 dataSize, 12 dataPlace -/
abbrev Ev_E : Type := Nat × Option Nat × Int64 × (Nat → Int32)
def el_C (a : Nat) (E : Ev_E) : Ev_K := .inr (3, [.ref E.1, .int (E.2.2.2 0), va_rf E.2.1, .int (E.2.2.2 1), .int (E.2.2.2 2), .long E.2.2.1, .ref (a + 1), .int (E.2.2.2 3), .int (E.2.2.2 4), .int (E.2.2.2 5), .int (E.2.2.2 6), .int (E.2.2.2 7), .int (E.2.2.2 8), .int (E.2.2.2 9), .int (E.2.2.2 10), .int (E.2.2.2 11), .int (E.2.2.2 12)])
def el_b (E : Ev_E) (so : Nat) (tg : Int32) (ma : Option Nat) (lev : Int32) : Ev_E := (so, ma, 0, upd (upd (upd (upd E.2.2.2 0 tg) 1 lev) 3 0) 4 0)
def el_lv (w : Ev_W) (a : Nat) (ma : Option Nat) (lev : Int32) : Prop := match ma with
  | none => lev = 0
  | some mm => mm ≠ a ∧ ∃ Em : Ev_E, w.2 mm = some (el_C mm Em) ∧ lev = Em.2.2.2 1 + 1
theorem c_El_begin {G : Ev_G} {w : Ev_W} {a : Nat} {E : Ev_E} (h : w.2 a = some (el_C a E)) (ha : 100 ≤ a) (so : Nat) (tg : Int32) (ma : Option Nat) (lev : Int32) (hl : el_lv w a ma lev) : ev_Met G M_El_begin 0 0 0 [.ref a, .ref so, .int tg, va_rf ma] w (fun v w' => v = none ∧ w'.2 a = some (el_C a (el_b E so tg ma lev)) ∧ ev_sm w w' [a]) := by
  cases ma with
  | none =>
    have hl : lev = 0 := hl
    subst hl
    refine ev_Met.of md_El_begin (Nat.le_of_ble_eq_true rfl) (fun X hX hR => ?_)
    refine q_aload hX 0 d_El_begin_0 rfl (by first | rfl | assumption) ?_
    refine q_aload hX 1 d_El_begin_1 rfl (by first | rfl | assumption) ?_
    refine r_putf hX d_El_begin_2 fp_El_15 (by first | assumption | exact ev_set_self _ _ _ | (simp (disch := first | assumption | decide | omega) only [ev_set_self, ev_set_ne, ev_new_self, ev_new_ne]; first | done | assumption)) (by first | assumption | decide | omega) rfl rfl (Nat.le_of_ble_eq_true rfl) ?_
    refine q_aload hX 0 d_El_begin_5 rfl (by first | rfl | assumption) ?_
    refine q_iload hX 2 d_El_begin_6 rfl (by first | rfl | assumption) ?_
    refine r_putf hX d_El_begin_7 fp_El_24 (by first | assumption | exact ev_set_self _ _ _ | (simp (disch := first | assumption | decide | omega) only [ev_set_self, ev_set_ne, ev_new_self, ev_new_ne]; first | done | assumption)) (by first | assumption | decide | omega) rfl rfl (Nat.le_of_ble_eq_true rfl) ?_
    refine q_aload hX 0 d_El_begin_10 rfl (by first | rfl | assumption) ?_
    refine q_aloadN hX 3 d_El_begin_11 rfl (by first | rfl | assumption) ?_
    refine r_putf hX d_El_begin_12 fp_El_28 (by first | assumption | exact ev_set_self _ _ _ | (simp (disch := first | assumption | decide | omega) only [ev_set_self, ev_set_ne, ev_new_self, ev_new_ne]; first | done | assumption)) (by first | assumption | decide | omega) rfl rfl (Nat.le_of_ble_eq_true rfl) ?_
    refine q_aload hX 0 d_El_begin_15 rfl (by first | rfl | assumption) ?_
    refine q_aloadN hX 3 d_El_begin_16 rfl (by first | rfl | assumption) ?_
    refine r_ifnonnullN hX d_El_begin_17 ?_
    refine r_iconst (v := 0) hX d_El_begin_20 (by decide) ?_
    refine r_goto hX 30 d_El_begin_21 (by decide) ?_
    refine r_putf hX d_El_begin_30 fp_El_32 (by first | assumption | exact ev_set_self _ _ _ | (simp (disch := first | assumption | decide | omega) only [ev_set_self, ev_set_ne, ev_new_self, ev_new_ne]; first | done | assumption)) (by first | assumption | decide | omega) rfl rfl (Nat.le_of_ble_eq_true rfl) ?_
    refine q_aload hX 0 d_El_begin_33 rfl (by first | rfl | assumption) ?_
    refine r_lconst (v := 0) hX d_El_begin_34 (by decide) ?_
    refine r_putf hX d_El_begin_35 fp_El_35 (by first | assumption | exact ev_set_self _ _ _ | (simp (disch := first | assumption | decide | omega) only [ev_set_self, ev_set_ne, ev_new_self, ev_new_ne]; first | done | assumption)) (by first | assumption | decide | omega) rfl rfl (Nat.le_of_ble_eq_true rfl) ?_
    refine q_aload hX 0 d_El_begin_38 rfl (by first | rfl | assumption) ?_
    refine r_iconst (v := 0) hX d_El_begin_39 (by decide) ?_
    refine r_putf hX d_El_begin_40 fp_El_39 (by first | assumption | exact ev_set_self _ _ _ | (simp (disch := first | assumption | decide | omega) only [ev_set_self, ev_set_ne, ev_new_self, ev_new_ne]; first | done | assumption)) (by first | assumption | decide | omega) rfl rfl (Nat.le_of_ble_eq_true rfl) ?_
    refine q_aload hX 0 d_El_begin_43 rfl (by first | rfl | assumption) ?_
    refine r_iconst (v := 0) hX d_El_begin_44 (by decide) ?_
    refine r_putf hX d_El_begin_45 fp_El_42 (by first | assumption | exact ev_set_self _ _ _ | (simp (disch := first | assumption | decide | omega) only [ev_set_self, ev_set_ne, ev_new_self, ev_new_ne]; first | done | assumption)) (by first | assumption | decide | omega) rfl rfl (Nat.le_of_ble_eq_true rfl) ?_
    refine r_vret hX hR d_El_begin_48 rfl ?_
    refine ⟨rfl, by rw [ev_set_self]; rfl, ?_⟩
    exact ((((((ev_sm.s1 (by simp)).set (by simp)).set (by simp)).set (by simp)).set (by simp)).set (by simp)).set (by simp)
  | some mm =>
    obtain ⟨hne, Em, hm, hlv⟩ := hl
    subst hlv
    refine ev_Met.of md_El_begin (Nat.le_of_ble_eq_true rfl) (fun X hX hR => ?_)
    refine q_aload hX 0 d_El_begin_0 rfl (by first | rfl | assumption) ?_
    refine q_aload hX 1 d_El_begin_1 rfl (by first | rfl | assumption) ?_
    refine r_putf hX d_El_begin_2 fp_El_15 (by first | assumption | exact ev_set_self _ _ _ | (simp (disch := first | assumption | decide | omega) only [ev_set_self, ev_set_ne, ev_new_self, ev_new_ne]; first | done | assumption)) (by first | assumption | decide | omega) rfl rfl (Nat.le_of_ble_eq_true rfl) ?_
    refine q_aload hX 0 d_El_begin_5 rfl (by first | rfl | assumption) ?_
    refine q_iload hX 2 d_El_begin_6 rfl (by first | rfl | assumption) ?_
    refine r_putf hX d_El_begin_7 fp_El_24 (by first | assumption | exact ev_set_self _ _ _ | (simp (disch := first | assumption | decide | omega) only [ev_set_self, ev_set_ne, ev_new_self, ev_new_ne]; first | done | assumption)) (by first | assumption | decide | omega) rfl rfl (Nat.le_of_ble_eq_true rfl) ?_
    refine q_aload hX 0 d_El_begin_10 rfl (by first | rfl | assumption) ?_
    refine q_aload hX 3 d_El_begin_11 rfl (by first | rfl | assumption) ?_
    refine r_putf hX d_El_begin_12 fp_El_28 (by first | assumption | exact ev_set_self _ _ _ | (simp (disch := first | assumption | decide | omega) only [ev_set_self, ev_set_ne, ev_new_self, ev_new_ne]; first | done | assumption)) (by first | assumption | decide | omega) rfl rfl (Nat.le_of_ble_eq_true rfl) ?_
    refine q_aload hX 0 d_El_begin_15 rfl (by first | rfl | assumption) ?_
    refine q_aload hX 3 d_El_begin_16 rfl (by first | rfl | assumption) ?_
    refine r_ifnonnull hX 24 d_El_begin_17 (by decide) ?_
    refine q_aload hX 3 d_El_begin_24 rfl (by first | rfl | assumption) ?_
    refine r_getf hX d_El_begin_25 fl_El_32 (by first | assumption | exact ev_set_self _ _ _ | (simp (disch := first | assumption | decide | omega) only [ev_set_self, ev_set_ne, ev_new_self, ev_new_ne]; first | done | assumption)) rfl ?_
    refine r_iconst (v := 1) hX d_El_begin_28 (by decide) ?_
    refine r_iadd hX d_El_begin_29 ?_
    refine r_putf hX d_El_begin_30 fp_El_32 (by first | assumption | exact ev_set_self _ _ _ | (simp (disch := first | assumption | decide | omega) only [ev_set_self, ev_set_ne, ev_new_self, ev_new_ne]; first | done | assumption)) (by first | assumption | decide | omega) rfl rfl (Nat.le_of_ble_eq_true rfl) ?_
    refine q_aload hX 0 d_El_begin_33 rfl (by first | rfl | assumption) ?_
    refine r_lconst (v := 0) hX d_El_begin_34 (by decide) ?_
    refine r_putf hX d_El_begin_35 fp_El_35 (by first | assumption | exact ev_set_self _ _ _ | (simp (disch := first | assumption | decide | omega) only [ev_set_self, ev_set_ne, ev_new_self, ev_new_ne]; first | done | assumption)) (by first | assumption | decide | omega) rfl rfl (Nat.le_of_ble_eq_true rfl) ?_
    refine q_aload hX 0 d_El_begin_38 rfl (by first | rfl | assumption) ?_
    refine r_iconst (v := 0) hX d_El_begin_39 (by decide) ?_
    refine r_putf hX d_El_begin_40 fp_El_39 (by first | assumption | exact ev_set_self _ _ _ | (simp (disch := first | assumption | decide | omega) only [ev_set_self, ev_set_ne, ev_new_self, ev_new_ne]; first | done | assumption)) (by first | assumption | decide | omega) rfl rfl (Nat.le_of_ble_eq_true rfl) ?_
    refine q_aload hX 0 d_El_begin_43 rfl (by first | rfl | assumption) ?_
    refine r_iconst (v := 0) hX d_El_begin_44 (by decide) ?_
    refine r_putf hX d_El_begin_45 fp_El_42 (by first | assumption | exact ev_set_self _ _ _ | (simp (disch := first | assumption | decide | omega) only [ev_set_self, ev_set_ne, ev_new_self, ev_new_ne]; first | done | assumption)) (by first | assumption | decide | omega) rfl rfl (Nat.le_of_ble_eq_true rfl) ?_
    refine r_vret hX hR d_El_begin_48 rfl ?_
    refine ⟨rfl, by rw [ev_set_self]; rfl, ?_⟩
    exact ((((((ev_sm.s1 (by simp)).set (by simp)).set (by simp)).set (by simp)).set (by simp)).set (by simp)).set (by simp)
def el_d (E : Ev_E) (tr ti ke la : Int32) : Ev_E := (E.1, E.2.1, E.2.2.1, upd (upd (upd (upd E.2.2.2 5 tr) 6 ti) 7 ke) 8 la)
theorem c_El_setDetails {G : Ev_G} {w : Ev_W} {a : Nat} {E : Ev_E} (h : w.2 a = some (el_C a E)) (ha : 100 ≤ a) (tr ti ke la : Int32) (hk : ke = 0 ∨ ke = 1) : ev_Met G M_El_setDetails 0 0 0 [.ref a, .int tr, .int ti, .int ke, .int la] w (fun v w' => v = none ∧ w'.2 a = some (el_C a (el_d E tr ti ke la)) ∧ ev_sm w w' [a]) := by
  have hn : narrow .boolean (.int ke) = .int ke := by rcases hk with e | e <;> (subst e; rfl)
  have hf : fits .boolean (.int ke) = true := by rcases hk with e | e <;> (subst e; rfl)
  refine ev_Met.of md_El_setDetails (Nat.le_of_ble_eq_true rfl) (fun X hX hR => ?_)
  refine q_aload hX 0 d_El_setDetails_0 rfl (by first | rfl | assumption) ?_
  refine q_iload hX 1 d_El_setDetails_1 rfl (by first | rfl | assumption) ?_
  refine r_putf hX d_El_setDetails_2 fp_El_45 (by first | assumption | exact ev_set_self _ _ _ | (simp (disch := first | assumption | decide | omega) only [ev_set_self, ev_set_ne, ev_new_self, ev_new_ne]; first | done | assumption)) (by first | assumption | decide | omega) rfl rfl (Nat.le_of_ble_eq_true rfl) ?_
  refine q_aload hX 0 d_El_setDetails_5 rfl (by first | rfl | assumption) ?_
  refine q_iload hX 2 d_El_setDetails_6 rfl (by first | rfl | assumption) ?_
  refine r_putf hX d_El_setDetails_7 fp_El_48 (by first | assumption | exact ev_set_self _ _ _ | (simp (disch := first | assumption | decide | omega) only [ev_set_self, ev_set_ne, ev_new_self, ev_new_ne]; first | done | assumption)) (by first | assumption | decide | omega) rfl rfl (Nat.le_of_ble_eq_true rfl) ?_
  refine q_aload hX 0 d_El_setDetails_10 rfl (by first | rfl | assumption) ?_
  refine q_iload hX 3 d_El_setDetails_11 rfl (by first | rfl | assumption) ?_
  refine r_putf hX d_El_setDetails_12 fp_El_51 (by first | assumption | exact ev_set_self _ _ _ | (simp (disch := first | assumption | decide | omega) only [ev_set_self, ev_set_ne, ev_new_self, ev_new_ne]; first | done | assumption)) (by first | assumption | decide | omega) hn hf (Nat.le_of_ble_eq_true rfl) ?_
  refine q_aload hX 0 d_El_setDetails_15 rfl (by first | rfl | assumption) ?_
  refine r_iload hX d_El_setDetails_16 (by first | rfl | assumption) ?_
  refine r_putf hX d_El_setDetails_18 fp_El_55 (by first | assumption | exact ev_set_self _ _ _ | (simp (disch := first | assumption | decide | omega) only [ev_set_self, ev_set_ne, ev_new_self, ev_new_ne]; first | done | assumption)) (by first | assumption | decide | omega) rfl rfl (Nat.le_of_ble_eq_true rfl) ?_
  refine r_vret hX hR d_El_setDetails_21 rfl ?_
  refine ⟨rfl, by rw [ev_set_self]; rfl, ?_⟩
  exact (((ev_sm.s1 (by simp)).set (by simp)).set (by simp)).set (by simp)
/-- addPart where there is room, and where there is none -/
def el_a (E : Ev_E) : Ev_E := (E.1, E.2.1, E.2.2.1 + 1, E.2.2.2)
theorem l_cases (x y : Int64) : (x.toInt < y.toInt ∧ lg_cmp x y = -1) ∨ (x.toInt = y.toInt ∧ lg_cmp x y = 0) ∨ (y.toInt < x.toInt ∧ lg_cmp x y = 1) := by
  unfold lg_cmp
  rcases Int.lt_trichotomy x.toInt y.toInt with h | h | h
  · refine Or.inl ⟨h, ?_⟩
    rw [if_neg (by rw [gt_iff_lt, Int64.lt_iff_toInt_lt]; omega), if_neg (by rw [← Int64.toInt_inj]; omega)]
  · refine Or.inr (Or.inl ⟨h, ?_⟩)
    rw [if_neg (by rw [gt_iff_lt, Int64.lt_iff_toInt_lt]; omega), if_pos (by rw [← Int64.toInt_inj]; omega)]
  · refine Or.inr (Or.inr ⟨h, ?_⟩)
    rw [if_pos (by rw [gt_iff_lt, Int64.lt_iff_toInt_lt]; omega)]
theorem l_lt0 {x y : Int64} : lg_cmp x y < 0 ↔ x.toInt < y.toInt := by
  rcases l_cases x y with ⟨h, e⟩ | ⟨h, e⟩ | ⟨h, e⟩ <;> rw [e]
  · exact ⟨fun _ => h, fun _ => by decide⟩
  · exact ⟨fun z => absurd z (by decide), fun z => by omega⟩
  · exact ⟨fun z => absurd z (by decide), fun z => by omega⟩
theorem l_ge0 {x y : Int64} : 0 ≤ lg_cmp x y ↔ y.toInt ≤ x.toInt := by
  rcases l_cases x y with ⟨h, e⟩ | ⟨h, e⟩ | ⟨h, e⟩ <;> rw [e]
  · exact ⟨fun z => absurd z (by decide), fun z => by omega⟩
  · exact ⟨fun _ => by omega, fun _ => by decide⟩
  · exact ⟨fun _ => by omega, fun _ => by decide⟩
theorem l_gt0 {x y : Int64} : 0 < lg_cmp x y ↔ y.toInt < x.toInt := by
  rcases l_cases x y with ⟨h, e⟩ | ⟨h, e⟩ | ⟨h, e⟩ <;> rw [e]
  · exact ⟨fun z => absurd z (by decide), fun z => by omega⟩
  · exact ⟨fun z => absurd z (by decide), fun z => by omega⟩
  · exact ⟨fun _ => by omega, fun _ => by decide⟩
theorem l_le0 {x y : Int64} : lg_cmp x y ≤ 0 ↔ x.toInt ≤ y.toInt := by
  rcases l_cases x y with ⟨h, e⟩ | ⟨h, e⟩ | ⟨h, e⟩ <;> rw [e]
  · exact ⟨fun _ => by omega, fun _ => by decide⟩
  · exact ⟨fun _ => by omega, fun _ => by decide⟩
  · exact ⟨fun z => absurd z (by decide), fun z => by omega⟩
theorem l_eq0 {x y : Int64} : lg_cmp x y = 0 ↔ x = y := by
  rw [← Int64.toInt_inj]
  rcases l_cases x y with ⟨h, e⟩ | ⟨h, e⟩ | ⟨h, e⟩ <;> rw [e]
  · exact ⟨fun z => absurd z (by decide), fun z => by omega⟩
  · exact ⟨fun _ => by omega, fun _ => rfl⟩
  · exact ⟨fun z => absurd z (by decide), fun z => by omega⟩
theorem l_cmpN {a b : Nat} (ha : a < 2 ^ 63) (hb : b < 2 ^ 63) : lg_cmp (lN a) (lN b) < 0 ↔ a < b := by
  rw [l_lt0, pk_lT ha, pk_lT hb]; omega
theorem c_El_addPart {G : Ev_G} {w : Ev_W} {a n : Nat} {E : Ev_E} {pf : Nat → Int32} (h : w.2 a = some (el_C a E)) (hp : w.2 (a + 1) = some (.inl (0, 16, .inl pf))) (ha : 100 ≤ a) (hn : n < 2 ^ 31) (he : E.2.2.1 = lN n) (x : Int32) : ev_Met G M_El_addPart 0 0 0 [.ref a, .int x] w (fun v w' => if n < 16 then v = some (.int 1) ∧ w'.2 a = some (el_C a (el_a E)) ∧ w'.2 (a + 1) = some (.inl (0, 16, .inl (upd pf n x))) ∧ ev_sm w w' [a, a + 1] else v = some (.int 0) ∧ w' = w) := by
  have hne : a ≠ a + 1 := by omega
  have hne2 : a + 1 ≠ a := by omega
  have ha1 : 100 ≤ a + 1 := by omega
  obtain ⟨so, ma, am, ii⟩ := E
  have he : am = lN n := he
  subst he
  refine ev_Met.of md_El_addPart (Nat.le_of_ble_eq_true rfl) (fun X hX hR => ?_)
  refine q_aload hX 0 d_El_addPart_0 rfl (by first | rfl | assumption) ?_
  refine r_getf hX d_El_addPart_1 fl_El_35 (by first | assumption | exact ev_set_self _ _ _ | (simp (disch := first | assumption | decide | omega) only [ev_set_self, ev_set_ne, ev_new_self, ev_new_ne]; first | done | assumption)) rfl ?_
  refine r_lconst (v := 0) hX d_El_addPart_4 (by decide) ?_
  refine r_lcmp hX d_El_addPart_5 ?_
  refine r_if_lt hX 23 d_El_addPart_6 (by decide) (fun c6 => absurd c6 (by rw [show (0 : Int64) = lN 0 from rfl, l_cmpN (by omega) (by decide)]; omega)) (fun _ => ?_)
  refine q_aload hX 0 d_El_addPart_9 rfl (by first | rfl | assumption) ?_
  refine r_getf hX d_El_addPart_10 fl_El_35 (by first | assumption | exact ev_set_self _ _ _ | (simp (disch := first | assumption | decide | omega) only [ev_set_self, ev_set_ne, ev_new_self, ev_new_ne]; first | done | assumption)) rfl ?_
  refine q_aload hX 0 d_El_addPart_13 rfl (by first | rfl | assumption) ?_
  refine r_getf hX d_El_addPart_14 fl_El_20 (by first | assumption | exact ev_set_self _ _ _ | (simp (disch := first | assumption | decide | omega) only [ev_set_self, ev_set_ne, ev_new_self, ev_new_ne]; first | done | assumption)) rfl ?_
  refine r_alen hX d_El_addPart_17 (by first | assumption | exact ev_set_self _ _ _ | (simp (disch := first | assumption | decide | omega) only [ev_set_self, ev_set_ne, ev_new_self, ev_new_ne]; first | done | assumption)) rfl ?_
  refine r_i2l hX d_El_addPart_18 ?_
  refine r_lcmp hX d_El_addPart_19 ?_
  refine r_if_lt hX 25 d_El_addPart_20 (by decide) (fun c20 => ?_) (fun c20 => ?_)
  · rw [show (nI 16).toInt64 = lN 16 from nI_l (by decide), l_cmpN (by omega) (by decide)] at c20
    refine q_aload hX 0 d_El_addPart_25 rfl (by first | rfl | assumption) ?_
    refine r_getf hX d_El_addPart_26 fl_El_20 (by first | assumption | exact ev_set_self _ _ _ | (simp (disch := first | assumption | decide | omega) only [ev_set_self, ev_set_ne, ev_new_self, ev_new_ne]; first | done | assumption)) rfl ?_
    refine q_aload hX 0 d_El_addPart_29 rfl (by first | rfl | assumption) ?_
    refine r_getf hX d_El_addPart_30 fl_El_35 (by first | assumption | exact ev_set_self _ _ _ | (simp (disch := first | assumption | decide | omega) only [ev_set_self, ev_set_ne, ev_new_self, ev_new_ne]; first | done | assumption)) rfl ?_
    refine r_l2i hX d_El_addPart_33 ?_
    refine q_iload hX 1 d_El_addPart_34 rfl (by first | rfl | assumption) ?_
    rw [lN_i]
    refine r_iast hX d_El_addPart_35 (by first | assumption | exact ev_set_self _ _ _ | (simp (disch := first | assumption | decide | omega) only [ev_set_self, ev_set_ne, ev_new_self, ev_new_ne]; first | done | assumption)) (by first | assumption | decide | omega) rfl (vp_in_nI c20 (by decide)) ?_
    refine q_aload hX 0 d_El_addPart_36 rfl (by first | rfl | assumption) ?_
    refine r_dup hX d_El_addPart_37 rfl ?_
    refine r_getf hX d_El_addPart_38 fl_El_35 (by first | assumption | exact ev_set_self _ _ _ | (simp (disch := first | assumption | decide | omega) only [ev_set_self, ev_set_ne, ev_new_self, ev_new_ne]; first | done | assumption)) rfl ?_
    refine r_lconst (v := 1) hX d_El_addPart_41 (by decide) ?_
    refine r_ladd hX d_El_addPart_42 ?_
    refine r_putf hX d_El_addPart_43 fp_El_35 (by first | assumption | exact ev_set_self _ _ _ | (simp (disch := first | assumption | decide | omega) only [ev_set_self, ev_set_ne, ev_new_self, ev_new_ne]; first | done | assumption)) (by first | assumption | decide | omega) rfl rfl (Nat.le_of_ble_eq_true rfl) ?_
    refine r_iconst (v := 1) hX d_El_addPart_46 (by decide) ?_
    refine r_iret hX hR d_El_addPart_47 rfl (by first | rfl | assumption) ?_
    rw [if_pos c20]
    refine ⟨rfl, by rw [ev_set_self]; rfl, ?_, (ev_sm.s1 (by simp)).set (by simp)⟩
    rw [ev_set_ne _ _ hne2, ev_set_self, nI_clamp (by omega)]
  · rw [show (nI 16).toInt64 = lN 16 from nI_l (by decide), l_cmpN (by omega) (by decide)] at c20
    refine r_iconst (v := 0) hX d_El_addPart_23 (by decide) ?_
    refine r_iret hX hR d_El_addPart_24 rfl (by first | rfl | assumption) ?_
    rw [if_neg c20]; exact ⟨rfl, rfl⟩
def el_at (n : Nat) (pf : Nat → Int32) (i : Int32) : Int32 := if 0 ≤ i.toInt ∧ i.toInt < n ∧ i.toInt < 16 then pf i.toNatClampNeg else -1
theorem l_ofI {i : Int32} (h : 0 ≤ i.toInt) : i.toInt64 = lN i.toNatClampNeg := by
  obtain ⟨j, hj, e⟩ := nI_of (x := i) (by rw [i_lt, i_0]; omega)
  subst e
  rw [nI_clamp hj, nI_l hj]
theorem c_El_partAt {G : Ev_G} {w : Ev_W} {a n : Nat} {E : Ev_E} {pf : Nat → Int32} (h : w.2 a = some (el_C a E)) (hp : w.2 (a + 1) = some (.inl (0, 16, .inl pf))) (hn : n < 2 ^ 31) (he : E.2.2.1 = lN n) (i : Int32) : ev_Met G M_El_partAt 0 0 0 [.ref a, .int i] w (fun v w' => v = some (.int (el_at n pf i)) ∧ w' = w) := by
  obtain ⟨so, ma, am, ii⟩ := E
  have he : am = lN n := he
  subst he
  refine ev_Met.of md_El_partAt (Nat.le_of_ble_eq_true rfl) (fun X hX hR => ?_)
  refine q_iload hX 1 d_El_partAt_0 rfl (by first | rfl | assumption) ?_
  refine r_if_lt hX 32 d_El_partAt_1 (by decide) (fun c1 => ?_) (fun c1 => ?_)
  · rw [i_lt, i_0] at c1
    refine r_iconst (v := -1) hX d_El_partAt_32 (by decide) ?_
    refine r_iret hX hR d_El_partAt_33 rfl rfl ?_
    exact ⟨by rw [el_at, if_neg (by omega)], rfl⟩
  · refine q_iload hX 1 d_El_partAt_4 rfl (by first | rfl | assumption) ?_
    refine r_i2l hX d_El_partAt_5 ?_
    refine q_aload hX 0 d_El_partAt_6 rfl (by first | rfl | assumption) ?_
    refine r_getf hX d_El_partAt_7 fl_El_35 (by first | assumption | exact ev_set_self _ _ _ | (simp (disch := first | assumption | decide | omega) only [ev_set_self, ev_set_ne, ev_new_self, ev_new_ne]; first | done | assumption)) rfl ?_
    refine r_lcmp hX d_El_partAt_10 ?_
    refine r_if_ge hX 32 d_El_partAt_11 (by decide) (fun c11 => ?_) (fun c11 => ?_)
    · rw [i_lt, i_0] at c1
      dsimp only at c11
      rw [i_le, i_0, l_ofI (by omega)] at c11
      have q11 := (not_congr (l_cmpN (a := i.toNatClampNeg) (b := n) (by have := i_cl (x := i) (by omega); have := Int32.toInt_lt i; omega) (by omega))).mp (by rw [i_lt, i_0]; omega)
      have qcl := i_cl (x := i) (by omega)
      refine r_iconst (v := -1) hX d_El_partAt_32 (by decide) ?_
      refine r_iret hX hR d_El_partAt_33 rfl rfl ?_
      exact ⟨by rw [el_at, if_neg (by omega)], rfl⟩
    · refine q_iload hX 1 d_El_partAt_14 rfl (by first | rfl | assumption) ?_
      refine q_aload hX 0 d_El_partAt_15 rfl (by first | rfl | assumption) ?_
      refine r_getf hX d_El_partAt_16 fl_El_20 (by first | assumption | exact ev_set_self _ _ _ | (simp (disch := first | assumption | decide | omega) only [ev_set_self, ev_set_ne, ev_new_self, ev_new_ne]; first | done | assumption)) rfl ?_
      refine r_alen hX d_El_partAt_19 (by first | assumption | exact ev_set_self _ _ _ | (simp (disch := first | assumption | decide | omega) only [ev_set_self, ev_set_ne, ev_new_self, ev_new_ne]; first | done | assumption)) rfl ?_
      refine r_icmp_ge hX 32 d_El_partAt_20 (by decide) (fun c20 => ?_) (fun c20 => ?_)
      · rw [i_lt, i_0] at c1
        rw [i_le, show (nI 16).toInt = 16 from rfl] at c20
        refine r_iconst (v := -1) hX d_El_partAt_32 (by decide) ?_
        refine r_iret hX hR d_El_partAt_33 rfl rfl ?_
        exact ⟨by rw [el_at, if_neg (by omega)], rfl⟩
      · rw [i_lt, i_0] at c1
        dsimp only at c11
        rw [i_le, i_0, l_ofI (by omega)] at c11
        have q11 := (l_cmpN (a := i.toNatClampNeg) (b := n) (by have := i_cl (x := i) (by omega); have := Int32.toInt_lt i; omega) (by omega)).mp (by rw [i_lt, i_0]; omega)
        have qcl := i_cl (x := i) (by omega)
        rw [i_le, show (nI 16).toInt = 16 from rfl] at c20
        refine q_aload hX 0 d_El_partAt_23 rfl (by first | rfl | assumption) ?_
        refine r_getf hX d_El_partAt_24 fl_El_20 (by first | assumption | exact ev_set_self _ _ _ | (simp (disch := first | assumption | decide | omega) only [ev_set_self, ev_set_ne, ev_new_self, ev_new_ne]; first | done | assumption)) rfl ?_
        refine q_iload hX 1 d_El_partAt_27 rfl (by first | rfl | assumption) ?_
        refine r_iald hX d_El_partAt_28 (by first | assumption | exact ev_set_self _ _ _ | (simp (disch := first | assumption | decide | omega) only [ev_set_self, ev_set_ne, ev_new_self, ev_new_ne]; first | done | assumption)) rfl (i_in (by omega) (by omega)) ?_
        refine r_goto hX 33 d_El_partAt_29 (by decide) ?_
        refine r_iret hX hR d_El_partAt_33 rfl (by first | rfl | assumption) ?_
        exact ⟨by rw [el_at, if_pos ⟨by omega, by omega, by omega⟩], rfl⟩
/-- Element(): its sort FOREIGN, its parts the next cell -/
theorem c_El_init {G : Ev_G} {w : Ev_W} {a : Nat} (h : w.2 a = some (.inr (3, [.null, .int 0, .null, .int 0, .int 0, .long 0, .null, .int 0, .int 0, .int 0, .int 0, .int 0, .int 0, .int 0, .int 0, .int 0, .int 0]))) (ha : 100 ≤ a) (hw : w.1 = a + 1) : ev_Met G M_El_init 1 1 16 [.ref a] w (fun v w' => v = none ∧ w'.1 = w.1 + 1 ∧ w'.2 a = some (el_C a (16, none, 0, fun _ => 0)) ∧ w'.2 (a + 1) = some (.inl (0, 16, .inl (fun _ => 0))) ∧ ∀ q, q ≠ a → q ≠ a + 1 → w'.2 q = w.2 q) := by
  refine ev_Met.of md_El_init (Nat.le_of_ble_eq_true rfl) (fun X hX hR => ?_)
  refine q_aload hX 0 d_El_init_0 rfl (by first | rfl | assumption) ?_
  refine r_objI hX d_El_init_1 ol_El_3 (by first | assumption | decide | omega) (Nat.le_of_ble_eq_true rfl) ?_
  refine q_aload hX 0 d_El_init_4 rfl (by first | rfl | assumption) ?_
  refine r_getsE (i := 16) hX d_El_init_5 (by decide) m_247 ?_
  refine r_putf hX d_El_init_8 fp_El_15 (by first | assumption | exact ev_set_self _ _ _ | (simp (disch := first | assumption | decide | omega) only [ev_set_self, ev_set_ne, ev_new_self, ev_new_ne]; first | done | assumption)) (by first | assumption | decide | omega) rfl rfl (Nat.le_of_ble_eq_true rfl) ?_
  refine q_aload hX 0 d_El_init_11 rfl (by first | rfl | assumption) ?_
  refine r_bipush (v := 16) hX d_El_init_12 (by decide) ?_
  refine r_newa (bc' := 0) (bs' := 0) (k := 0) (N := 16) (e0 := .inl (fun _ => 0)) hX d_El_init_14 rfl m_94 rfl rfl (fun G => ⟨rfl, rfl⟩) (by decide) (by decide) (by decide) (by decide) (by decide) (fun hlo hfr => ?_)
  have hq1 : (ev_set w a (Sum.inr (3, List.set [.null, .int 0, .null, .int 0, .int 0, .long 0, .null, .int 0, .int 0, .int 0, .int 0, .int 0, .int 0, .int 0, .int 0, .int 0, .int 0] 0 (.ref 16)))).1 = a + 1 := hw
  refine r_putF hX d_El_init_16 fp_El_20 hR.2.2.2.2 rfl (by rw [ev_new_ne _ _ (by rw [hq1]; omega)]; exact ev_set_self _ _ _) (by first | assumption | decide | omega) rfl rfl (Nat.le_of_ble_eq_true rfl) ?_
  refine r_vret hX hR d_El_init_19 rfl ?_
  refine ⟨rfl, rfl, ?_, ?_, fun q h1 h2 => ?_⟩
  · rw [ev_set_self, hq1]; rfl
  · rw [ev_set_ne _ _ (by omega), ← hq1, ev_new_self]
  · rw [ev_set_ne _ _ h1, ev_new_ne _ _ (by rw [hq1]; exact h2), ev_set_ne _ _ h1]
/-! ===== Sort ===== -/
def so_go (tg : Int32) : Nat → Nat → Nat
  | 0, _ => 16
  | k + 1, i => if ((ev_fl[0]).2.2.2).getD i 0 = tg then i else so_go tg k (i + 1)
def so_of (tg : Int32) : Nat := so_go tg 17 0
theorem so_go_lt (tg : Int32) : ∀ k i : Nat, i + k ≤ 17 → so_go tg k i < 17
  | 0, i, h => by simp [so_go]
  | k + 1, i, h => by
    unfold so_go
    split
    · omega
    · exact so_go_lt tg k (i + 1) (by omega)
theorem so_of_lt (tg : Int32) : so_of tg < 17 := so_go_lt tg 17 0 (by omega)
theorem c_So_of {G : Ev_G} {w : Ev_W} (tg : Int32) : ev_Met G M_So_of 0 0 0 [.int tg] w (fun v w' => v = some (.ref (so_of tg)) ∧ w' = w) := by
  refine ev_Met.of md_So_of (Nat.le_of_ble_eq_true rfl) (fun X hX hR => ?_)
  have loop : ∀ (k i : Nat) (ls : Ev_L), i + k = 17 → so_go tg k i = so_of tg → ls.1 0 = some (.int tg) → ls.1 1 = some (.int (nI i)) → ev_W G M_So_of X 0 0 2 ls [] w := by
    intro k
    induction k with
    | zero =>
      intro i ls e1 e2 l0 l1
      have hi : i = 17 := by omega
      subst hi
      refine q_iload hX 1 d_So_of_2 rfl (by first | rfl | assumption) ?_
      refine r_getsA hX d_So_of_3 m_212 ?_
      refine r_alenA hX d_So_of_6 ?_
      refine r_icmp_ge hX 34 d_So_of_7 (by decide) (fun _ => ?_) (fun c7 => absurd (by decide) c7)
      refine r_getsE (i := 16) hX d_So_of_34 (by decide) m_213 ?_
      refine r_aret (o := some 16) hX hR d_So_of_37 rfl (Or.inl ⟨_, rfl⟩) ?_
      exact ⟨by rw [← e2]; rfl, rfl⟩
    | succ k ih =>
      intro i ls e1 e2 l0 l1
      have hcl : (nI i).toNatClampNeg = i := nI_clamp (by omega)
      refine q_iload hX 1 d_So_of_2 rfl (by first | rfl | assumption) ?_
      refine r_getsA hX d_So_of_3 m_212 ?_
      refine r_alenA hX d_So_of_6 ?_
      refine r_icmp_ge hX 34 d_So_of_7 (by decide) (fun c7 => absurd c7 (nI_ge (a := i) (b := 17) (by omega) (by decide))) (fun _ => ?_)
      refine r_getsA hX d_So_of_10 m_212 ?_
      refine q_iload hX 1 d_So_of_13 rfl (by first | rfl | assumption) ?_
      refine r_aaldA hX d_So_of_14 (vp_in_nI (by omega) (by decide)) ?_
      rw [hcl]
      refine r_getE hX d_So_of_15 (by omega) (q := ev_fl[0]) (by decide) m_870 ?_
      refine q_iload hX 0 d_So_of_18 rfl (by first | rfl | assumption) ?_
      refine r_icmp_ne hX 28 d_So_of_19 (by decide) (fun c19 => ?_) (fun c19 => ?_)
      · refine r_iinc hX d_So_of_28 (by first | rfl | assumption) ?_
        refine r_goto hX 2 d_So_of_31 (by decide) ?_
        exact ih (i + 1) _ (by omega) (by rw [← e2, so_go, if_neg c19]) l0 (by show some (Value.int (nI i + Int32.ofInt 1)) = _; rw [show Int32.ofInt 1 = 1 from rfl, nI_1])
      · refine r_getsA hX d_So_of_22 m_212 ?_
        refine q_iload hX 1 d_So_of_25 rfl (by first | rfl | assumption) ?_
        refine r_aaldA hX d_So_of_26 (vp_in_nI (by omega) (by decide)) ?_
        rw [hcl]
        refine r_aret (o := some i) hX hR d_So_of_27 rfl (Or.inl ⟨_, rfl⟩) ?_
        exact ⟨by rw [← e2, so_go, if_pos c19]; rfl, rfl⟩
  refine r_iconst (v := 0) hX d_So_of_0 (by decide) ?_
  refine q_istore hX 1 d_So_of_1 rfl (by decide) ?_
  exact loop 17 0 _ rfl rfl rfl rfl
def so_fits (i : Nat) (pl : Int32) : Bool := decide (¬ ((ev_fl[2]).2.2.2).getD i 0 &&& pl = 0)
def b_i (b : Bool) : Int32 := if b then 1 else 0
theorem b_i_n (b : Bool) : narrow .boolean (.int (b_i b)) = .int (b_i b) := by cases b <;> rfl
theorem c_So_fits {G : Ev_G} {w : Ev_W} {i : Nat} (hi : i < 17) (pl : Int32) : ev_Met G M_So_fits 0 0 0 [.ref i, .int pl] w (fun v w' => v = some (.int (b_i (so_fits i pl))) ∧ w' = w) := by
  refine ev_Met.of md_So_fits (Nat.le_of_ble_eq_true rfl) (fun X hX hR => ?_)
  refine q_aload hX 0 d_So_fits_0 rfl (by first | rfl | assumption) ?_
  refine r_getE hX d_So_fits_1 (by first | assumption | decide) (q := ev_fl[2]) (by decide) m_872 ?_
  refine q_iload hX 1 d_So_fits_4 rfl (by first | rfl | assumption) ?_
  refine r_iand hX d_So_fits_5 ?_
  refine r_if_eq hX 13 d_So_fits_6 (by decide) (fun c6 => ?_) (fun c6 => ?_)
  · refine r_iconst (v := 0) hX d_So_fits_13 (by decide) ?_
    refine r_iret hX hR d_So_fits_14 rfl (by first | rfl | assumption) ?_
    exact ⟨by first | (rw [so_fits, decide_eq_true c6]; rfl) | (rw [so_fits, decide_eq_false (fun z => z c6)]; rfl), rfl⟩
  · refine r_iconst (v := 1) hX d_So_fits_9 (by decide) ?_
    refine r_goto hX 14 d_So_fits_10 (by decide) ?_
    refine r_iret hX hR d_So_fits_14 rfl (by first | rfl | assumption) ?_
    exact ⟨by first | (rw [so_fits, decide_eq_true c6]; rfl) | (rw [so_fits, decide_eq_false (fun z => z c6)]; rfl), rfl⟩
