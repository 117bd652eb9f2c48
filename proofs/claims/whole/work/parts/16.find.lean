/-! ===== Finder, where it reads ===== -/
/-- the tree's elements: numbers, sorts, masters by their places -/
def el_ok (n : Nat) (ad : Nat → Nat) (E : Nat → Ev_E) (mi : Nat → Option Nat) : Prop := ∀ i, i < n → (E i).2.2.2 2 = nI i ∧ (E i).1 < 17 ∧ (E i).2.1 = (mi i).map ad ∧ ∀ j, mi i = some j → j < i
def is_Fi (w : Ev_W) : Prop := w.2 116 = some (.inr (7, [.ref 108]))
def fi_fn (E : Nat → Ev_E) (s : Nat) : Nat → Nat → Int64
  | 0, _ => 0
  | f + 1, i => if (E i).1 = s then (E i).2.2.1 else fi_fn E s f (i + 1)
/-- the first number of sort s in the master at k -/
def fi_num (E : Nat → Ev_E) (n k s : Nat) : Int64 := fi_fn E s (tr_end (el_lev E) n k - (k + 1)) (k + 1)
def fi_mom (E : Nat → Ev_E) (mi : Nat → Option Nat) (n b : Nat) : Int64 := match mi b with
  | none => ((E b).2.2.2 6).toInt64
  | some j => fi_num E n j 8 + ((E b).2.2.2 6).toInt64
theorem c_Fi_firstNumber {G : Ev_G} {w : Ev_W} {n sd : Nat} {L As : Nat → Option Nat} {sf : Nat → Int32} {m : Nat} {ad : Nat → Nat} {E : Nat → Ev_E} {PF : Nat → Nat → Int32} {mi : Nat → Option Nat} (htr : is_Tr w n L As sf sd) (hn : n ≤ 60) (hsd : sd ≤ 1200) (hes : is_Es w m L ad E PF) (hm : n ≤ m) (hok : el_ok n ad E mi) (hfi : is_Fi w) {k s : Nat} (hk : k < n) (hs : s < 17) : ev_Met G M_Fi_firstNumber 1 0 0 [.ref 116, .ref (ad k), .ref s] w (fun v w' => v = some (.long (fi_num E n k s)) ∧ w' = w) := by
  have hfi0 := hfi
  have htr0 := htr
  obtain ⟨t1, t2, t3, t4⟩ := htr
  have hfi : w.2 116 = some (.inr (7, [.ref 108])) := hfi
  have hn31 : n < 2 ^ 31 := by omega
  obtain ⟨k1, k2, k3, k4⟩ := hes.1 k (by omega)
  have heN : tr_end (el_lev E) n k ≤ n := tr_go_le _ _ _ _ _ (by omega)
  have heK : k + 1 ≤ tr_end (el_lev E) n k := tr_go_ge _ _ _ _ _
  obtain ⟨e, hee⟩ : ∃ e, e = tr_end (el_lev E) n k := ⟨_, rfl⟩
  rw [← hee] at heN heK
  refine ev_Met.of md_Fi_firstNumber (Nat.le_of_ble_eq_true rfl) (fun X hX hR => ?_)
  have loop : ∀ (f i : Nat) (ls : Ev_L), i + f = e → fi_fn E s f i = fi_fn E s (e - (k + 1)) (k + 1) → ls.1 0 = some (.ref 116) → ls.1 2 = some (.ref s) → ls.1 3 = some (.int (nI e)) → ls.1 4 = some (.int (nI i)) → ev_W G M_Fi_firstNumber X 0 0 17 ls [] w := by
    intro f
    induction f with
    | zero =>
      intro i ls e1 e2 l0 l2 l3 l4
      refine r_iload hX d_Fi_firstNumber_17 (by first | rfl | assumption) ?_
      refine q_iload hX 3 d_Fi_firstNumber_19 rfl (by first | rfl | assumption) ?_
      refine r_icmp_ge hX 60 d_Fi_firstNumber_20 (by decide) (fun _ => ?_) (fun c20 => absurd (nI_le (by omega) (by omega)) c20)
      refine r_lconst (v := 0) hX d_Fi_firstNumber_60 (by decide) ?_
      refine r_lret hX hR d_Fi_firstNumber_61 rfl ?_
      exact ⟨by rw [fi_num, ← hee, ← e2]; rfl, rfl⟩
    | succ f ih =>
      intro i ls e1 e2 l0 l2 l3 l4
      have hi : i < n := by omega
      obtain ⟨u1, u2, u3, u4⟩ := hes.1 i (by omega)
      obtain ⟨o1, o2, o3, o4⟩ := hok i hi
      have hcl : (nI i).toNatClampNeg = i := nI_clamp (by omega)
      refine r_iload hX d_Fi_firstNumber_17 (by first | rfl | assumption) ?_
      refine q_iload hX 3 d_Fi_firstNumber_19 rfl (by first | rfl | assumption) ?_
      refine r_icmp_ge hX 60 d_Fi_firstNumber_20 (by decide) (fun c20 => absurd c20 (nI_ge (by omega) (by omega))) (fun _ => ?_)
      refine q_aload hX 0 d_Fi_firstNumber_23 rfl (by first | rfl | assumption) ?_
      refine r_getf hX d_Fi_firstNumber_24 fl_Fi_9 (by first | assumption | exact ev_set_self _ _ _ | (simp (disch := first | assumption | decide | omega) only [ev_set_self, ev_set_ne, ev_new_self, ev_new_ne]; first | done | assumption)) rfl ?_
      refine r_getf hX d_Fi_firstNumber_27 fl_Fi_47 (by first | assumption | exact ev_set_self _ _ _ | (simp (disch := first | assumption | decide | omega) only [ev_set_self, ev_set_ne, ev_new_self, ev_new_ne]; first | done | assumption)) rfl ?_
      refine r_iload hX d_Fi_firstNumber_30 (by first | rfl | assumption) ?_
      refine r_aald hX d_Fi_firstNumber_32 (by first | assumption | exact ev_set_self _ _ _ | (simp (disch := first | assumption | decide | omega) only [ev_set_self, ev_set_ne, ev_new_self, ev_new_ne]; first | done | assumption)) rfl (vp_in_nI (by omega) (by decide)) ?_
      rw [hcl, u1]
      refine r_getf hX d_Fi_firstNumber_33 fl_Fi_51 (by first | assumption | exact ev_set_self _ _ _ | (simp (disch := first | assumption | decide | omega) only [ev_set_self, ev_set_ne, ev_new_self, ev_new_ne]; first | done | assumption)) rfl ?_
      refine q_aload hX 2 d_Fi_firstNumber_36 rfl (by first | rfl | assumption) ?_
      refine r_acmp_ne (o := some (E i).1) (u := some s) hX 54 (by intro r h; cases h; exact Or.inl o2) (by intro r h; cases h; exact Or.inl hs) d_Fi_firstNumber_37 (by decide) (fun c37 => ?_) (fun c37 => ?_)
      · refine r_iinc hX d_Fi_firstNumber_54 (by first | rfl | assumption) ?_
        refine r_goto hX 17 d_Fi_firstNumber_57 (by decide) ?_
        exact ih (i + 1) _ (by omega) (by rw [← e2, fi_fn, if_neg (fun z => c37 (by rw [z]))]) l0 l2 l3 (by show some (Value.int (nI i + Int32.ofInt 1)) = _; rw [show Int32.ofInt 1 = 1 from rfl, nI_1])
      · refine q_aload hX 0 d_Fi_firstNumber_40 rfl (by first | rfl | assumption) ?_
        refine r_getf hX d_Fi_firstNumber_41 fl_Fi_9 (by first | assumption | exact ev_set_self _ _ _ | (simp (disch := first | assumption | decide | omega) only [ev_set_self, ev_set_ne, ev_new_self, ev_new_ne]; first | done | assumption)) rfl ?_
        refine r_getf hX d_Fi_firstNumber_44 fl_Fi_47 (by first | assumption | exact ev_set_self _ _ _ | (simp (disch := first | assumption | decide | omega) only [ev_set_self, ev_set_ne, ev_new_self, ev_new_ne]; first | done | assumption)) rfl ?_
        refine r_iload hX d_Fi_firstNumber_47 (by first | rfl | assumption) ?_
        refine r_aald hX d_Fi_firstNumber_49 (by first | assumption | exact ev_set_self _ _ _ | (simp (disch := first | assumption | decide | omega) only [ev_set_self, ev_set_ne, ev_new_self, ev_new_ne]; first | done | assumption)) rfl (vp_in_nI (by omega) (by decide)) ?_
        rw [hcl, u1]
        refine r_getf hX d_Fi_firstNumber_50 fl_Fi_92 (by first | assumption | exact ev_set_self _ _ _ | (simp (disch := first | assumption | decide | omega) only [ev_set_self, ev_set_ne, ev_new_self, ev_new_ne]; first | done | assumption)) rfl ?_
        refine r_lret hX hR d_Fi_firstNumber_53 rfl ?_
        exact ⟨by rw [fi_num, ← hee, ← e2, fi_fn, if_pos (Option.some.inj c37)], rfl⟩
  refine q_aload hX 0 d_Fi_firstNumber_0 rfl (by first | rfl | assumption) ?_
  refine r_getf hX d_Fi_firstNumber_1 fl_Fi_9 (by first | assumption | exact ev_set_self _ _ _ | (simp (disch := first | assumption | decide | omega) only [ev_set_self, ev_set_ne, ev_new_self, ev_new_ne]; first | done | assumption)) rfl ?_
  refine q_aload hX 1 d_Fi_firstNumber_4 rfl (by first | rfl | assumption) ?_
  refine r_callV (as := [_]) hX d_Fi_firstNumber_5 lk_Fi_39 t1 rfl rfl (Nat.le_of_ble_eq_true rfl) (by decide) 0 0 (Nat.le_refl _) (Nat.le_refl _) (c_Tr_endOf (G := G) htr0 hn hsd hes hm hk (hok k hk).1) (fun v w1 hq => ?_)
  obtain ⟨rfl, rfl⟩ := hq
  refine q_istore hX 3 d_Fi_firstNumber_8 rfl (by decide) ?_
  refine q_aload hX 1 d_Fi_firstNumber_9 rfl (by first | rfl | assumption) ?_
  refine r_getf hX d_Fi_firstNumber_10 fl_Fi_42 (by first | assumption | exact ev_set_self _ _ _ | (simp (disch := first | assumption | decide | omega) only [ev_set_self, ev_set_ne, ev_new_self, ev_new_ne]; first | done | assumption)) rfl ?_
  rw [(hok k hk).1, ← hee]
  refine r_iconst (v := 1) hX d_Fi_firstNumber_13 (by decide) ?_
  refine r_iadd hX d_Fi_firstNumber_14 ?_
  refine r_istore hX d_Fi_firstNumber_15 (by decide) ?_
  exact loop (e - (k + 1)) (k + 1) _ (by omega) rfl rfl rfl rfl (by show some (Value.int (nI k + 1)) = _; rw [nI_1])
theorem c_Fi_momentOf {G : Ev_G} {w : Ev_W} {n sd : Nat} {L As : Nat → Option Nat} {sf : Nat → Int32} {m : Nat} {ad : Nat → Nat} {E : Nat → Ev_E} {PF : Nat → Nat → Int32} {mi : Nat → Option Nat} (htr : is_Tr w n L As sf sd) (hn : n ≤ 60) (hsd : sd ≤ 1200) (hes : is_Es w m L ad E PF) (hm : n ≤ m) (hok : el_ok n ad E mi) (hfi : is_Fi w) {k : Nat} (hk : k < n) : ev_Met G M_Fi_momentOf 2 0 0 [.ref 116, .ref (ad k)] w (fun v w' => v = some (.long (fi_mom E mi n k)) ∧ w' = w) := by
  have hfi0 := hfi
  have htr0 := htr
  obtain ⟨t1, t2, t3, t4⟩ := htr
  have hfi : w.2 116 = some (.inr (7, [.ref 108])) := hfi
  have hn31 : n < 2 ^ 31 := by omega
  obtain ⟨k1, k2, k3, k4⟩ := hes.1 k (by omega)
  have heN : tr_end (el_lev E) n k ≤ n := tr_go_le _ _ _ _ _ (by omega)
  have heK : k + 1 ≤ tr_end (el_lev E) n k := tr_go_ge _ _ _ _ _
  obtain ⟨e, hee⟩ : ∃ e, e = tr_end (el_lev E) n k := ⟨_, rfl⟩
  rw [← hee] at heN heK
  obtain ⟨o1, o2, o3, o4⟩ := hok k hk
  refine ev_Met.of md_Fi_momentOf (Nat.le_of_ble_eq_true rfl) (fun X hX hR => ?_)
  cases hmi : mi k with
  | none =>
    rw [hmi] at o3
    have o3 : (E k).2.1 = none := o3
    refine q_aload hX 1 d_Fi_momentOf_0 rfl (by first | rfl | assumption) ?_
    refine r_getf hX d_Fi_momentOf_1 fl_Fi_96 (by first | assumption | exact ev_set_self _ _ _ | (simp (disch := first | assumption | decide | omega) only [ev_set_self, ev_set_ne, ev_new_self, ev_new_ne]; first | done | assumption)) rfl ?_
    rw [o3]
    refine r_ifnonnullN hX d_Fi_momentOf_4 ?_
    refine q_aload hX 1 d_Fi_momentOf_7 rfl (by first | rfl | assumption) ?_
    refine r_getf hX d_Fi_momentOf_8 fl_Fi_100 (by first | assumption | exact ev_set_self _ _ _ | (simp (disch := first | assumption | decide | omega) only [ev_set_self, ev_set_ne, ev_new_self, ev_new_ne]; first | done | assumption)) rfl ?_
    refine r_i2l hX d_Fi_momentOf_11 ?_
    refine r_goto hX 32 d_Fi_momentOf_12 (by decide) ?_
    refine r_lret hX hR d_Fi_momentOf_32 rfl ?_
    exact ⟨by rw [fi_mom, hmi], rfl⟩
  | some j =>
    rw [hmi] at o3
    have o3 : (E k).2.1 = some (ad j) := o3
    have hj : j < n := by have := o4 j hmi; omega
    refine q_aload hX 1 d_Fi_momentOf_0 rfl (by first | rfl | assumption) ?_
    refine r_getf hX d_Fi_momentOf_1 fl_Fi_96 (by first | assumption | exact ev_set_self _ _ _ | (simp (disch := first | assumption | decide | omega) only [ev_set_self, ev_set_ne, ev_new_self, ev_new_ne]; first | done | assumption)) rfl ?_
    rw [o3]
    refine r_ifnonnull hX 15 d_Fi_momentOf_4 (by decide) ?_
    refine q_aload hX 0 d_Fi_momentOf_15 rfl (by first | rfl | assumption) ?_
    refine q_aload hX 1 d_Fi_momentOf_16 rfl (by first | rfl | assumption) ?_
    refine r_getf hX d_Fi_momentOf_17 fl_Fi_96 (by first | assumption | exact ev_set_self _ _ _ | (simp (disch := first | assumption | decide | omega) only [ev_set_self, ev_set_ne, ev_new_self, ev_new_ne]; first | done | assumption)) rfl ?_
    rw [o3]
    refine r_getsE (i := 8) hX d_Fi_momentOf_20 (by decide) m_576 ?_
    refine r_callV (as := [_, _]) hX d_Fi_momentOf_23 lk_Fi_106 hfi rfl rfl (Nat.le_of_ble_eq_true rfl) (by decide) 0 0 (Nat.le_refl _) (Nat.le_refl _) (c_Fi_firstNumber (G := G) htr0 hn hsd hes hm hok hfi0 (k := j) (s := 8) hj (by decide)) (fun v w1 hq => ?_)
    obtain ⟨rfl, rfl⟩ := hq
    refine q_aload hX 1 d_Fi_momentOf_26 rfl (by first | rfl | assumption) ?_
    refine r_getf hX d_Fi_momentOf_27 fl_Fi_100 (by first | assumption | exact ev_set_self _ _ _ | (simp (disch := first | assumption | decide | omega) only [ev_set_self, ev_set_ne, ev_new_self, ev_new_ne]; first | done | assumption)) rfl ?_
    refine r_i2l hX d_Fi_momentOf_30 ?_
    refine r_ladd hX d_Fi_momentOf_31 ?_
    refine r_lret hX hR d_Fi_momentOf_32 rfl ?_
    exact ⟨by rw [fi_mom, hmi], rfl⟩
def fi_ck (E : Nat → Ev_E) : Nat → Nat → Nat
  | 0, _ => 0
  | f + 1, i => (if (E i).1 = 9 ∧ ¬ (E i).2.2.2 7 = 0 then 1 else 0) + fi_ck E f (i + 1)
theorem fi_ck_le (E : Nat → Ev_E) : ∀ f i : Nat, fi_ck E f i ≤ f
  | 0, _ => Nat.le_refl _
  | f + 1, i => by
    unfold fi_ck
    have := fi_ck_le E f (i + 1)
    split <;> omega
theorem c_Fi_countKeyBlocks {G : Ev_G} {w : Ev_W} {n sd : Nat} {L As : Nat → Option Nat} {sf : Nat → Int32} {m : Nat} {ad : Nat → Nat} {E : Nat → Ev_E} {PF : Nat → Nat → Int32} {mi : Nat → Option Nat} (htr : is_Tr w n L As sf sd) (hn : n ≤ 60) (hsd : sd ≤ 1200) (hes : is_Es w m L ad E PF) (hm : n ≤ m) (hok : el_ok n ad E mi) (hfi : is_Fi w) {k : Nat} (hk : k < n) : ev_Met G M_Fi_countKeyBlocks 1 0 0 [.ref 116, .ref (ad k)] w (fun v w' => v = some (.int (nI (fi_ck E (tr_end (el_lev E) n k - (k + 1)) (k + 1)))) ∧ w' = w) := by
  have hfi0 := hfi
  have htr0 := htr
  obtain ⟨t1, t2, t3, t4⟩ := htr
  have hfi : w.2 116 = some (.inr (7, [.ref 108])) := hfi
  have hn31 : n < 2 ^ 31 := by omega
  obtain ⟨k1, k2, k3, k4⟩ := hes.1 k (by omega)
  have heN : tr_end (el_lev E) n k ≤ n := tr_go_le _ _ _ _ _ (by omega)
  have heK : k + 1 ≤ tr_end (el_lev E) n k := tr_go_ge _ _ _ _ _
  obtain ⟨e, hee⟩ : ∃ e, e = tr_end (el_lev E) n k := ⟨_, rfl⟩
  rw [← hee] at heN heK
  refine ev_Met.of md_Fi_countKeyBlocks (Nat.le_of_ble_eq_true rfl) (fun X hX hR => ?_)
  have loop : ∀ (f i c : Nat) (ls : Ev_L), i + f = e → c + fi_ck E f i = fi_ck E (e - (k + 1)) (k + 1) → c ≤ i → ls.1 0 = some (.ref 116) → ls.1 2 = some (.int (nI c)) → ls.1 3 = some (.int (nI e)) → ls.1 4 = some (.int (nI i)) → ev_W G M_Fi_countKeyBlocks X 0 0 19 ls [] w := by
    intro f
    induction f with
    | zero =>
      intro i c ls e1 e2 e3 l0 l2 l3 l4
      refine r_iload hX d_Fi_countKeyBlocks_19 (by first | rfl | assumption) ?_
      refine q_iload hX 3 d_Fi_countKeyBlocks_21 rfl (by first | rfl | assumption) ?_
      refine r_icmp_ge hX 69 d_Fi_countKeyBlocks_22 (by decide) (fun _ => ?_) (fun c22 => absurd (nI_le (by omega) (by omega)) c22)
      refine q_iload hX 2 d_Fi_countKeyBlocks_69 rfl (by first | rfl | assumption) ?_
      refine r_iret hX hR d_Fi_countKeyBlocks_70 rfl (by first | rfl | assumption) ?_
      exact ⟨by rw [← hee, ← e2]; rfl, rfl⟩
    | succ f ih =>
      intro i c ls e1 e2 e3 l0 l2 l3 l4
      have hi : i < n := by omega
      obtain ⟨u1, u2, u3, u4⟩ := hes.1 i (by omega)
      obtain ⟨o1, o2, o3, o4⟩ := hok i hi
      have hcl : (nI i).toNatClampNeg = i := nI_clamp (by omega)
      refine r_iload hX d_Fi_countKeyBlocks_19 (by first | rfl | assumption) ?_
      refine q_iload hX 3 d_Fi_countKeyBlocks_21 rfl (by first | rfl | assumption) ?_
      refine r_icmp_ge hX 69 d_Fi_countKeyBlocks_22 (by decide) (fun c22 => absurd c22 (nI_ge (by omega) (by omega))) (fun _ => ?_)
      refine q_aload hX 0 d_Fi_countKeyBlocks_25 rfl (by first | rfl | assumption) ?_
      refine r_getf hX d_Fi_countKeyBlocks_26 fl_Fi_9 (by first | assumption | exact ev_set_self _ _ _ | (simp (disch := first | assumption | decide | omega) only [ev_set_self, ev_set_ne, ev_new_self, ev_new_ne]; first | done | assumption)) rfl ?_
      refine r_getf hX d_Fi_countKeyBlocks_29 fl_Fi_47 (by first | assumption | exact ev_set_self _ _ _ | (simp (disch := first | assumption | decide | omega) only [ev_set_self, ev_set_ne, ev_new_self, ev_new_ne]; first | done | assumption)) rfl ?_
      refine r_iload hX d_Fi_countKeyBlocks_32 (by first | rfl | assumption) ?_
      refine r_aald hX d_Fi_countKeyBlocks_34 (by first | assumption | exact ev_set_self _ _ _ | (simp (disch := first | assumption | decide | omega) only [ev_set_self, ev_set_ne, ev_new_self, ev_new_ne]; first | done | assumption)) rfl (vp_in_nI (by omega) (by decide)) ?_
      rw [hcl, u1]
      refine r_getf hX d_Fi_countKeyBlocks_35 fl_Fi_51 (by first | assumption | exact ev_set_self _ _ _ | (simp (disch := first | assumption | decide | omega) only [ev_set_self, ev_set_ne, ev_new_self, ev_new_ne]; first | done | assumption)) rfl ?_
      refine r_getsE (i := 9) hX d_Fi_countKeyBlocks_38 (by decide) m_558 ?_
      refine r_acmp_ne (o := some (E i).1) (u := some 9) hX 63 (by intro r h; cases h; exact Or.inl o2) (by intro r h; cases h; omega) d_Fi_countKeyBlocks_41 (by decide) (fun c41 => ?_) (fun c41 => ?_)
      · refine r_iinc hX d_Fi_countKeyBlocks_63 (by first | rfl | assumption) ?_
        refine r_goto hX 19 d_Fi_countKeyBlocks_66 (by decide) ?_
        exact ih (i + 1) c _ (by omega) (by rw [← e2, fi_ck, if_neg (fun z => c41 (by rw [z.1]))]; omega) (by omega) l0 l2 l3 (by show some (Value.int (nI i + Int32.ofInt 1)) = _; rw [show Int32.ofInt 1 = 1 from rfl, nI_1])
      · refine q_aload hX 0 d_Fi_countKeyBlocks_44 rfl (by first | rfl | assumption) ?_
        refine r_getf hX d_Fi_countKeyBlocks_45 fl_Fi_9 (by first | assumption | exact ev_set_self _ _ _ | (simp (disch := first | assumption | decide | omega) only [ev_set_self, ev_set_ne, ev_new_self, ev_new_ne]; first | done | assumption)) rfl ?_
        refine r_getf hX d_Fi_countKeyBlocks_48 fl_Fi_47 (by first | assumption | exact ev_set_self _ _ _ | (simp (disch := first | assumption | decide | omega) only [ev_set_self, ev_set_ne, ev_new_self, ev_new_ne]; first | done | assumption)) rfl ?_
        refine r_iload hX d_Fi_countKeyBlocks_51 (by first | rfl | assumption) ?_
        refine r_aald hX d_Fi_countKeyBlocks_53 (by first | assumption | exact ev_set_self _ _ _ | (simp (disch := first | assumption | decide | omega) only [ev_set_self, ev_set_ne, ev_new_self, ev_new_ne]; first | done | assumption)) rfl (vp_in_nI (by omega) (by decide)) ?_
        rw [hcl, u1]
        refine r_getf hX d_Fi_countKeyBlocks_54 fl_Fi_57 (by first | assumption | exact ev_set_self _ _ _ | (simp (disch := first | assumption | decide | omega) only [ev_set_self, ev_set_ne, ev_new_self, ev_new_ne]; first | done | assumption)) rfl ?_
        refine r_if_eq hX 63 d_Fi_countKeyBlocks_57 (by decide) (fun c57 => ?_) (fun c57 => ?_)
        · refine r_iinc hX d_Fi_countKeyBlocks_63 (by first | rfl | assumption) ?_
          refine r_goto hX 19 d_Fi_countKeyBlocks_66 (by decide) ?_
          exact ih (i + 1) c _ (by omega) (by rw [← e2, fi_ck, if_neg (fun z => z.2 c57)]; omega) (by omega) l0 l2 l3 (by show some (Value.int (nI i + Int32.ofInt 1)) = _; rw [show Int32.ofInt 1 = 1 from rfl, nI_1])
        · refine r_iinc hX d_Fi_countKeyBlocks_60 (by first | rfl | assumption) ?_
          refine r_iinc hX d_Fi_countKeyBlocks_63 (by first | rfl | assumption) ?_
          refine r_goto hX 19 d_Fi_countKeyBlocks_66 (by decide) ?_
          exact ih (i + 1) (c + 1) _ (by omega) (by rw [← e2, fi_ck, if_pos ⟨Option.some.inj c41, c57⟩]; omega) (by omega) l0 (by show some (Value.int (nI c + Int32.ofInt 1)) = _; rw [show Int32.ofInt 1 = 1 from rfl, nI_1]) l3 (by show some (Value.int (nI i + Int32.ofInt 1)) = _; rw [show Int32.ofInt 1 = 1 from rfl, nI_1])
  refine r_iconst (v := 0) hX d_Fi_countKeyBlocks_0 (by decide) ?_
  refine q_istore hX 2 d_Fi_countKeyBlocks_1 rfl (by decide) ?_
  refine q_aload hX 0 d_Fi_countKeyBlocks_2 rfl (by first | rfl | assumption) ?_
  refine r_getf hX d_Fi_countKeyBlocks_3 fl_Fi_9 (by first | assumption | exact ev_set_self _ _ _ | (simp (disch := first | assumption | decide | omega) only [ev_set_self, ev_set_ne, ev_new_self, ev_new_ne]; first | done | assumption)) rfl ?_
  refine q_aload hX 1 d_Fi_countKeyBlocks_6 rfl (by first | rfl | assumption) ?_
  refine r_callV (as := [_]) hX d_Fi_countKeyBlocks_7 lk_Fi_39 t1 rfl rfl (Nat.le_of_ble_eq_true rfl) (by decide) 0 0 (Nat.le_refl _) (Nat.le_refl _) (c_Tr_endOf (G := G) htr0 hn hsd hes hm hk (hok k hk).1) (fun v w1 hq => ?_)
  obtain ⟨rfl, rfl⟩ := hq
  refine q_istore hX 3 d_Fi_countKeyBlocks_10 rfl (by decide) ?_
  refine q_aload hX 1 d_Fi_countKeyBlocks_11 rfl (by first | rfl | assumption) ?_
  refine r_getf hX d_Fi_countKeyBlocks_12 fl_Fi_42 (by first | assumption | exact ev_set_self _ _ _ | (simp (disch := first | assumption | decide | omega) only [ev_set_self, ev_set_ne, ev_new_self, ev_new_ne]; first | done | assumption)) rfl ?_
  rw [(hok k hk).1, ← hee]
  refine r_iconst (v := 1) hX d_Fi_countKeyBlocks_15 (by decide) ?_
  refine r_iadd hX d_Fi_countKeyBlocks_16 ?_
  refine r_istore hX d_Fi_countKeyBlocks_17 (by decide) ?_
  exact loop (e - (k + 1)) (k + 1) 0 _ (by omega) (by omega) (by omega) rfl rfl rfl (by show some (Value.int (nI k + 1)) = _; rw [nI_1])
def fi_bb (E : Nat → Ev_E) (x : Int64) : Nat → Nat → Nat → Option Nat
  | 0, _, _ => none
  | f + 1, i, c => if (E i).1 = 9 then (if lN c = x then some i else fi_bb E x f (i + 1) (c + 1)) else fi_bb E x f (i + 1) c
theorem c_Fi_blockWithBefore {G : Ev_G} {w : Ev_W} {n sd : Nat} {L As : Nat → Option Nat} {sf : Nat → Int32} {m : Nat} {ad : Nat → Nat} {E : Nat → Ev_E} {PF : Nat → Nat → Int32} {mi : Nat → Option Nat} (htr : is_Tr w n L As sf sd) (hn : n ≤ 60) (hsd : sd ≤ 1200) (hes : is_Es w m L ad E PF) (hm : n ≤ m) (hok : el_ok n ad E mi) (hfi : is_Fi w) {k : Nat} (hk : k < n) (x : Int64) : ev_Met G M_Fi_blockWithBefore 1 0 0 [.ref 116, .ref (ad k), .long x] w (fun v w' => v = some (.int (o_i (fi_bb E x (tr_end (el_lev E) n k - (k + 1)) (k + 1) 0))) ∧ w' = w) := by
  have hfi0 := hfi
  have htr0 := htr
  obtain ⟨t1, t2, t3, t4⟩ := htr
  have hfi : w.2 116 = some (.inr (7, [.ref 108])) := hfi
  have hn31 : n < 2 ^ 31 := by omega
  obtain ⟨k1, k2, k3, k4⟩ := hes.1 k (by omega)
  have heN : tr_end (el_lev E) n k ≤ n := tr_go_le _ _ _ _ _ (by omega)
  have heK : k + 1 ≤ tr_end (el_lev E) n k := tr_go_ge _ _ _ _ _
  obtain ⟨e, hee⟩ : ∃ e, e = tr_end (el_lev E) n k := ⟨_, rfl⟩
  rw [← hee] at heN heK
  refine ev_Met.of md_Fi_blockWithBefore (Nat.le_of_ble_eq_true rfl) (fun X hX hR => ?_)
  have loop : ∀ (f i c : Nat) (ls : Ev_L), i + f = e → fi_bb E x f i c = fi_bb E x (e - (k + 1)) (k + 1) 0 → ls.1 0 = some (.ref 116) → ls.2 2 = some x → ls.2 4 = some (lN c) → ls.1 6 = some (.int (nI e)) → ls.1 7 = some (.int (nI i)) → ev_W G M_Fi_blockWithBefore X 0 0 21 ls [] w := by
    intro f
    induction f with
    | zero =>
      intro i c ls e1 e2 l0 l2 l4 l6 l7
      refine r_iload hX d_Fi_blockWithBefore_21 (by first | rfl | assumption) ?_
      refine r_iload hX d_Fi_blockWithBefore_23 (by first | rfl | assumption) ?_
      refine r_icmp_ge hX 69 d_Fi_blockWithBefore_25 (by decide) (fun _ => ?_) (fun c25 => absurd (nI_le (by omega) (by omega)) c25)
      refine r_iconst (v := -1) hX d_Fi_blockWithBefore_69 (by decide) ?_
      refine r_iret hX hR d_Fi_blockWithBefore_70 rfl (by first | rfl | assumption) ?_
      exact ⟨by rw [← hee, ← e2]; rfl, rfl⟩
    | succ f ih =>
      intro i c ls e1 e2 l0 l2 l4 l6 l7
      have hi : i < n := by omega
      obtain ⟨u1, u2, u3, u4⟩ := hes.1 i (by omega)
      obtain ⟨o1, o2, o3, o4⟩ := hok i hi
      have hcl : (nI i).toNatClampNeg = i := nI_clamp (by omega)
      refine r_iload hX d_Fi_blockWithBefore_21 (by first | rfl | assumption) ?_
      refine r_iload hX d_Fi_blockWithBefore_23 (by first | rfl | assumption) ?_
      refine r_icmp_ge hX 69 d_Fi_blockWithBefore_25 (by decide) (fun c25 => absurd c25 (nI_ge (by omega) (by omega))) (fun _ => ?_)
      refine q_aload hX 0 d_Fi_blockWithBefore_28 rfl (by first | rfl | assumption) ?_
      refine r_getf hX d_Fi_blockWithBefore_29 fl_Fi_9 (by first | assumption | exact ev_set_self _ _ _ | (simp (disch := first | assumption | decide | omega) only [ev_set_self, ev_set_ne, ev_new_self, ev_new_ne]; first | done | assumption)) rfl ?_
      refine r_getf hX d_Fi_blockWithBefore_32 fl_Fi_47 (by first | assumption | exact ev_set_self _ _ _ | (simp (disch := first | assumption | decide | omega) only [ev_set_self, ev_set_ne, ev_new_self, ev_new_ne]; first | done | assumption)) rfl ?_
      refine r_iload hX d_Fi_blockWithBefore_35 (by first | rfl | assumption) ?_
      refine r_aald hX d_Fi_blockWithBefore_37 (by first | assumption | exact ev_set_self _ _ _ | (simp (disch := first | assumption | decide | omega) only [ev_set_self, ev_set_ne, ev_new_self, ev_new_ne]; first | done | assumption)) rfl (vp_in_nI (by omega) (by decide)) ?_
      rw [hcl, u1]
      refine r_getf hX d_Fi_blockWithBefore_38 fl_Fi_51 (by first | assumption | exact ev_set_self _ _ _ | (simp (disch := first | assumption | decide | omega) only [ev_set_self, ev_set_ne, ev_new_self, ev_new_ne]; first | done | assumption)) rfl ?_
      refine r_getsE (i := 9) hX d_Fi_blockWithBefore_41 (by decide) m_558 ?_
      refine r_acmp_ne (o := some (E i).1) (u := some 9) hX 63 (by intro r h; cases h; exact Or.inl o2) (by intro r h; cases h; omega) d_Fi_blockWithBefore_44 (by decide) (fun c44 => ?_) (fun c44 => ?_)
      · refine r_iinc hX d_Fi_blockWithBefore_63 (by first | rfl | assumption) ?_
        refine r_goto hX 21 d_Fi_blockWithBefore_66 (by decide) ?_
        exact ih (i + 1) c _ (by omega) (by rw [← e2, fi_bb, if_neg (fun z => c44 (by rw [z]))]) l0 l2 l4 l6 (by show some (Value.int (nI i + Int32.ofInt 1)) = _; rw [show Int32.ofInt 1 = 1 from rfl, nI_1])
      · refine r_lload hX d_Fi_blockWithBefore_47 (by first | rfl | assumption) ?_
        refine q_lload hX 2 d_Fi_blockWithBefore_49 rfl (by first | rfl | assumption) ?_
        refine r_lcmp hX d_Fi_blockWithBefore_50 ?_
        refine r_if_ne hX 57 d_Fi_blockWithBefore_51 (by decide) (fun c51 => ?_) (fun c51 => ?_)
        · refine r_lload hX d_Fi_blockWithBefore_57 (by first | rfl | assumption) ?_
          refine r_lconst (v := 1) hX d_Fi_blockWithBefore_59 (by decide) ?_
          refine r_ladd hX d_Fi_blockWithBefore_60 ?_
          refine r_lstore hX d_Fi_blockWithBefore_61 (by decide) ?_
          refine r_iinc hX d_Fi_blockWithBefore_63 (by first | rfl | assumption) ?_
          refine r_goto hX 21 d_Fi_blockWithBefore_66 (by decide) ?_
          exact ih (i + 1) (c + 1) _ (by omega) (by rw [← e2, fi_bb, if_pos (Option.some.inj c44), if_neg (fun z => c51 (l_eq0.mpr z))]) l0 l2 (by show some (lN c + 1) = _; rw [lN_1]) l6 (by show some (Value.int (nI i + Int32.ofInt 1)) = _; rw [show Int32.ofInt 1 = 1 from rfl, nI_1])
        · refine r_iload hX d_Fi_blockWithBefore_54 (by first | rfl | assumption) ?_
          refine r_iret hX hR d_Fi_blockWithBefore_56 rfl (by first | rfl | assumption) ?_
          exact ⟨by rw [← hee, ← e2, fi_bb, if_pos (Option.some.inj c44), if_pos (l_eq0.mp c51)]; rfl, rfl⟩
  refine r_lconst (v := 0) hX d_Fi_blockWithBefore_0 (by decide) ?_
  refine r_lstore hX d_Fi_blockWithBefore_1 (by decide) ?_
  refine q_aload hX 0 d_Fi_blockWithBefore_3 rfl (by first | rfl | assumption) ?_
  refine r_getf hX d_Fi_blockWithBefore_4 fl_Fi_9 (by first | assumption | exact ev_set_self _ _ _ | (simp (disch := first | assumption | decide | omega) only [ev_set_self, ev_set_ne, ev_new_self, ev_new_ne]; first | done | assumption)) rfl ?_
  refine q_aload hX 1 d_Fi_blockWithBefore_7 rfl (by first | rfl | assumption) ?_
  refine r_callV (as := [_]) hX d_Fi_blockWithBefore_8 lk_Fi_39 t1 rfl rfl (Nat.le_of_ble_eq_true rfl) (by decide) 0 0 (Nat.le_refl _) (Nat.le_refl _) (c_Tr_endOf (G := G) htr0 hn hsd hes hm hk (hok k hk).1) (fun v w1 hq => ?_)
  obtain ⟨rfl, rfl⟩ := hq
  refine r_istore hX d_Fi_blockWithBefore_11 (by decide) ?_
  refine q_aload hX 1 d_Fi_blockWithBefore_13 rfl (by first | rfl | assumption) ?_
  refine r_getf hX d_Fi_blockWithBefore_14 fl_Fi_42 (by first | assumption | exact ev_set_self _ _ _ | (simp (disch := first | assumption | decide | omega) only [ev_set_self, ev_set_ne, ev_new_self, ev_new_ne]; first | done | assumption)) rfl ?_
  rw [(hok k hk).1, ← hee]
  refine r_iconst (v := 1) hX d_Fi_blockWithBefore_17 (by decide) ?_
  refine r_iadd hX d_Fi_blockWithBefore_18 ?_
  refine r_istore hX d_Fi_blockWithBefore_19 (by decide) ?_
  exact loop (e - (k + 1)) (k + 1) 0 _ (by omega) rfl rfl rfl rfl rfl (by show some (Value.int (nI k + 1)) = _; rw [nI_1])
def fi_fb (E : Nat → Ev_E) (mi : Nat → Option Nat) (n : Nat) (tr : Int32) (mo : Int64) (k : Nat) : Nat → Option Nat
  | 0 => none
  | f + 1 => if (E (k + 1 + f)).1 = 9 ∧ ¬ (E (k + 1 + f)).2.2.2 7 = 0 ∧ (E (k + 1 + f)).2.2.2 5 = tr ∧ (fi_mom E mi n (k + 1 + f)).toInt ≤ mo.toInt then some (k + 1 + f) else fi_fb E mi n tr mo k f
theorem c_Fi_findByBlocks {G : Ev_G} {w : Ev_W} {n sd : Nat} {L As : Nat → Option Nat} {sf : Nat → Int32} {m : Nat} {ad : Nat → Nat} {E : Nat → Ev_E} {PF : Nat → Nat → Int32} {mi : Nat → Option Nat} (htr : is_Tr w n L As sf sd) (hn : n ≤ 60) (hsd : sd ≤ 1200) (hes : is_Es w m L ad E PF) (hm : n ≤ m) (hok : el_ok n ad E mi) (hfi : is_Fi w) {k : Nat} (hk : k < n) (tr : Int32) (mo : Int64) : ev_Met G M_Fi_findByBlocks 3 0 0 [.ref 116, .ref (ad k), .int tr, .long mo] w (fun v w' => v = some (.int (o_i (fi_fb E mi n tr mo k (tr_end (el_lev E) n k - (k + 1))))) ∧ w' = w) := by
  have hfi0 := hfi
  have htr0 := htr
  obtain ⟨t1, t2, t3, t4⟩ := htr
  have hfi : w.2 116 = some (.inr (7, [.ref 108])) := hfi
  have hn31 : n < 2 ^ 31 := by omega
  obtain ⟨k1, k2, k3, k4⟩ := hes.1 k (by omega)
  have heN : tr_end (el_lev E) n k ≤ n := tr_go_le _ _ _ _ _ (by omega)
  have heK : k + 1 ≤ tr_end (el_lev E) n k := tr_go_ge _ _ _ _ _
  obtain ⟨e, hee⟩ : ∃ e, e = tr_end (el_lev E) n k := ⟨_, rfl⟩
  rw [← hee] at heN heK
  refine ev_Met.of md_Fi_findByBlocks (Nat.le_of_ble_eq_true rfl) (fun X hX hR => ?_)
  have loop : ∀ (f : Nat) (ls : Ev_L), k + 1 + f ≤ e → fi_fb E mi n tr mo k f = fi_fb E mi n tr mo k (e - (k + 1)) → ls.1 0 = some (.ref 116) → ls.1 1 = some (.ref (ad k)) → ls.1 2 = some (.int tr) → ls.2 3 = some mo → ls.1 6 = some (.int (nI (k + f))) → ev_W G M_Fi_findByBlocks X 0 0 16 ls [] w := by
    intro f
    induction f with
    | zero =>
      intro ls e1 e2 l0 l1 l2 l3 l6
      refine r_iload hX d_Fi_findByBlocks_16 (by first | rfl | assumption) ?_
      refine q_aload hX 1 d_Fi_findByBlocks_18 rfl (by first | rfl | assumption) ?_
      refine r_getf hX d_Fi_findByBlocks_19 fl_Fi_42 (by first | assumption | exact ev_set_self _ _ _ | (simp (disch := first | assumption | decide | omega) only [ev_set_self, ev_set_ne, ev_new_self, ev_new_ne]; first | done | assumption)) rfl ?_
      refine r_icmp_le hX 85 d_Fi_findByBlocks_22 (by decide) (fun _ => ?_) (fun c22 => absurd (by rw [(hok k hk).1]; exact nI_le (Nat.le_refl _) (by omega)) c22)
      refine r_iconst (v := -1) hX d_Fi_findByBlocks_85 (by decide) ?_
      refine r_iret hX hR d_Fi_findByBlocks_86 rfl (by first | rfl | assumption) ?_
      exact ⟨by rw [← hee, ← e2]; rfl, rfl⟩
    | succ f ih =>
      intro ls e1 e2 l0 l1 l2 l3 l6
      rw [show k + (f + 1) = k + 1 + f by omega] at l6
      have hi : k + 1 + f < n := by omega
      obtain ⟨u1, u2, u3, u4⟩ := hes.1 (k + 1 + f) (by omega)
      obtain ⟨o1, o2, o3, o4⟩ := hok (k + 1 + f) hi
      have hcl : (nI (k + 1 + f)).toNatClampNeg = k + 1 + f := nI_clamp (by omega)
      have hgt : nI k < nI (k + 1 + f) := nI_lt (by omega) (by omega)
      refine r_iload hX d_Fi_findByBlocks_16 (by first | rfl | assumption) ?_
      refine q_aload hX 1 d_Fi_findByBlocks_18 rfl (by first | rfl | assumption) ?_
      refine r_getf hX d_Fi_findByBlocks_19 fl_Fi_42 (by first | assumption | exact ev_set_self _ _ _ | (simp (disch := first | assumption | decide | omega) only [ev_set_self, ev_set_ne, ev_new_self, ev_new_ne]; first | done | assumption)) rfl ?_
      refine r_icmp_le hX 85 d_Fi_findByBlocks_22 (by decide) (fun c22 => absurd c22 (by rw [(hok k hk).1]; exact Int32.not_le.mpr hgt)) (fun _ => ?_)
      refine q_aload hX 0 d_Fi_findByBlocks_25 rfl (by first | rfl | assumption) ?_
      refine r_getf hX d_Fi_findByBlocks_26 fl_Fi_9 (by first | assumption | exact ev_set_self _ _ _ | (simp (disch := first | assumption | decide | omega) only [ev_set_self, ev_set_ne, ev_new_self, ev_new_ne]; first | done | assumption)) rfl ?_
      refine r_getf hX d_Fi_findByBlocks_29 fl_Fi_47 (by first | assumption | exact ev_set_self _ _ _ | (simp (disch := first | assumption | decide | omega) only [ev_set_self, ev_set_ne, ev_new_self, ev_new_ne]; first | done | assumption)) rfl ?_
      refine r_iload hX d_Fi_findByBlocks_32 (by first | rfl | assumption) ?_
      refine r_aald hX d_Fi_findByBlocks_34 (by first | assumption | exact ev_set_self _ _ _ | (simp (disch := first | assumption | decide | omega) only [ev_set_self, ev_set_ne, ev_new_self, ev_new_ne]; first | done | assumption)) rfl (vp_in_nI (by omega) (by decide)) ?_
      rw [hcl, u1]
      refine r_astore hX d_Fi_findByBlocks_35 (by decide) ?_
      refine r_aload hX d_Fi_findByBlocks_37 (by first | rfl | assumption) ?_
      refine r_getf hX d_Fi_findByBlocks_39 fl_Fi_51 (by first | assumption | exact ev_set_self _ _ _ | (simp (disch := first | assumption | decide | omega) only [ev_set_self, ev_set_ne, ev_new_self, ev_new_ne]; first | done | assumption)) rfl ?_
      refine r_getsE (i := 9) hX d_Fi_findByBlocks_42 (by decide) m_558 ?_
      refine r_acmp_ne (o := some (E (k + 1 + f)).1) (u := some 9) hX 79 (by intro r h; cases h; exact Or.inl o2) (by intro r h; cases h; omega) d_Fi_findByBlocks_45 (by decide) (fun c45 => ?_) (fun c45 => ?_)
      · refine r_iinc hX d_Fi_findByBlocks_79 (by first | rfl | assumption) ?_
        refine r_goto hX 16 d_Fi_findByBlocks_82 (by decide) ?_
        exact ih _ (by omega) (by rw [← e2, fi_fb, if_neg (fun z => c45 (by rw [z.1]))]) l0 l1 l2 l3 (by show some (Value.int (nI (k + 1 + f) + Int32.ofInt (-1))) = _; rw [i_dec, show k + 1 + f = (k + f) + 1 by omega, nI_pred])
      · refine r_aload hX d_Fi_findByBlocks_48 (by first | rfl | assumption) ?_
        refine r_getf hX d_Fi_findByBlocks_50 fl_Fi_57 (by first | assumption | exact ev_set_self _ _ _ | (simp (disch := first | assumption | decide | omega) only [ev_set_self, ev_set_ne, ev_new_self, ev_new_ne]; first | done | assumption)) rfl ?_
        refine r_if_eq hX 79 d_Fi_findByBlocks_53 (by decide) (fun c53 => ?_) (fun c53 => ?_)
        · refine r_iinc hX d_Fi_findByBlocks_79 (by first | rfl | assumption) ?_
          refine r_goto hX 16 d_Fi_findByBlocks_82 (by decide) ?_
          exact ih _ (by omega) (by rw [← e2, fi_fb, if_neg (fun z => z.2.1 c53)]) l0 l1 l2 l3 (by show some (Value.int (nI (k + 1 + f) + Int32.ofInt (-1))) = _; rw [i_dec, show k + 1 + f = (k + f) + 1 by omega, nI_pred])
        · refine r_aload hX d_Fi_findByBlocks_56 (by first | rfl | assumption) ?_
          refine r_getf hX d_Fi_findByBlocks_58 fl_Fi_86 (by first | assumption | exact ev_set_self _ _ _ | (simp (disch := first | assumption | decide | omega) only [ev_set_self, ev_set_ne, ev_new_self, ev_new_ne]; first | done | assumption)) rfl ?_
          refine q_iload hX 2 d_Fi_findByBlocks_61 rfl (by first | rfl | assumption) ?_
          refine r_icmp_ne hX 79 d_Fi_findByBlocks_62 (by decide) (fun c62 => ?_) (fun c62 => ?_)
          · refine r_iinc hX d_Fi_findByBlocks_79 (by first | rfl | assumption) ?_
            refine r_goto hX 16 d_Fi_findByBlocks_82 (by decide) ?_
            exact ih _ (by omega) (by rw [← e2, fi_fb, if_neg (fun z => c62 z.2.2.1)]) l0 l1 l2 l3 (by show some (Value.int (nI (k + 1 + f) + Int32.ofInt (-1))) = _; rw [i_dec, show k + 1 + f = (k + f) + 1 by omega, nI_pred])
          · refine q_aload hX 0 d_Fi_findByBlocks_65 rfl (by first | rfl | assumption) ?_
            refine r_aload hX d_Fi_findByBlocks_66 (by first | rfl | assumption) ?_
            refine r_callV (as := [_]) hX d_Fi_findByBlocks_68 lk_Fi_75 hfi rfl rfl (Nat.le_of_ble_eq_true rfl) (by decide) 0 0 (Nat.le_refl _) (Nat.le_refl _) (c_Fi_momentOf (G := G) htr0 hn hsd hes hm hok hfi0 (k := k + 1 + f) hi) (fun v w1 hq => ?_)
            obtain ⟨rfl, rfl⟩ := hq
            refine q_lload hX 3 d_Fi_findByBlocks_71 rfl (by first | rfl | assumption) ?_
            refine r_lcmp hX d_Fi_findByBlocks_72 ?_
            refine r_if_gt hX 79 d_Fi_findByBlocks_73 (by decide) (fun c73 => ?_) (fun c73 => ?_)
            · refine r_iinc hX d_Fi_findByBlocks_79 (by first | rfl | assumption) ?_
              refine r_goto hX 16 d_Fi_findByBlocks_82 (by decide) ?_
              exact ih _ (by omega) (by rw [← e2, fi_fb, if_neg (fun z => absurd (l_le0.mpr z.2.2.2) (Int32.not_le.mpr c73))]) l0 l1 l2 l3 (by show some (Value.int (nI (k + 1 + f) + Int32.ofInt (-1))) = _; rw [i_dec, show k + 1 + f = (k + f) + 1 by omega, nI_pred])
            · refine r_iload hX d_Fi_findByBlocks_76 (by first | rfl | assumption) ?_
              refine r_iret hX hR d_Fi_findByBlocks_78 rfl (by first | rfl | assumption) ?_
              exact ⟨by rw [← hee, ← e2, fi_fb, if_pos ⟨Option.some.inj c45, c53, c62, l_le0.mp (Int32.not_lt.mp c73)⟩]; rfl, rfl⟩
  refine q_aload hX 0 d_Fi_findByBlocks_0 rfl (by first | rfl | assumption) ?_
  refine r_getf hX d_Fi_findByBlocks_1 fl_Fi_9 (by first | assumption | exact ev_set_self _ _ _ | (simp (disch := first | assumption | decide | omega) only [ev_set_self, ev_set_ne, ev_new_self, ev_new_ne]; first | done | assumption)) rfl ?_
  refine q_aload hX 1 d_Fi_findByBlocks_4 rfl (by first | rfl | assumption) ?_
  refine r_callV (as := [_]) hX d_Fi_findByBlocks_5 lk_Fi_39 t1 rfl rfl (Nat.le_of_ble_eq_true rfl) (by decide) 0 0 (Nat.le_refl _) (Nat.le_refl _) (c_Tr_endOf (G := G) htr0 hn hsd hes hm hk (hok k hk).1) (fun v w1 hq => ?_)
  obtain ⟨rfl, rfl⟩ := hq
  refine r_istore hX d_Fi_findByBlocks_8 (by decide) ?_
  rw [← hee]
  refine r_iload hX d_Fi_findByBlocks_10 (by first | rfl | assumption) ?_
  refine r_iconst (v := 1) hX d_Fi_findByBlocks_12 (by decide) ?_
  refine r_isub hX d_Fi_findByBlocks_13 ?_
  refine r_istore hX d_Fi_findByBlocks_14 (by decide) ?_
  exact loop (e - (k + 1)) _ (by omega) rfl rfl rfl rfl rfl (by show some (Value.int (nI e - 1)) = _; rw [show e = (k + (e - (k + 1))) + 1 by omega, nI_pred]; congr 3; omega)
def fi_fc (E : Nat → Ev_E) (n : Nat) (tr : Int32) (mo : Int64) (k : Nat) : Nat → Option Nat
  | 0 => none
  | f + 1 => if (E (k + 1 + f)).1 = 10 ∧ fi_num E n (k + 1 + f) 12 = tr.toInt64 ∧ (fi_num E n (k + 1 + f) 11).toInt ≤ mo.toInt then fi_bb E (fi_num E n (k + 1 + f) 13) (tr_end (el_lev E) n k - (k + 1)) (k + 1) 0 else fi_fc E n tr mo k f
theorem c_Fi_findByCues {G : Ev_G} {w : Ev_W} {n sd : Nat} {L As : Nat → Option Nat} {sf : Nat → Int32} {m : Nat} {ad : Nat → Nat} {E : Nat → Ev_E} {PF : Nat → Nat → Int32} {mi : Nat → Option Nat} (htr : is_Tr w n L As sf sd) (hn : n ≤ 60) (hsd : sd ≤ 1200) (hes : is_Es w m L ad E PF) (hm : n ≤ m) (hok : el_ok n ad E mi) (hfi : is_Fi w) {k : Nat} (hk : k < n) (tr : Int32) (mo : Int64) : ev_Met G M_Fi_findByCues 2 0 0 [.ref 116, .ref (ad k), .int tr, .long mo] w (fun v w' => v = some (.int (o_i (fi_fc E n tr mo k (tr_end (el_lev E) n k - (k + 1))))) ∧ w' = w) := by
  have hfi0 := hfi
  have htr0 := htr
  obtain ⟨t1, t2, t3, t4⟩ := htr
  have hfi : w.2 116 = some (.inr (7, [.ref 108])) := hfi
  have hn31 : n < 2 ^ 31 := by omega
  obtain ⟨k1, k2, k3, k4⟩ := hes.1 k (by omega)
  have heN : tr_end (el_lev E) n k ≤ n := tr_go_le _ _ _ _ _ (by omega)
  have heK : k + 1 ≤ tr_end (el_lev E) n k := tr_go_ge _ _ _ _ _
  obtain ⟨e, hee⟩ : ∃ e, e = tr_end (el_lev E) n k := ⟨_, rfl⟩
  rw [← hee] at heN heK
  refine ev_Met.of md_Fi_findByCues (Nat.le_of_ble_eq_true rfl) (fun X hX hR => ?_)
  have loop : ∀ (f : Nat) (ls : Ev_L), k + 1 + f ≤ e → fi_fc E n tr mo k f = fi_fc E n tr mo k (e - (k + 1)) → ls.1 0 = some (.ref 116) → ls.1 1 = some (.ref (ad k)) → ls.1 2 = some (.int tr) → ls.2 3 = some mo → ls.1 6 = some (.int (nI (k + f))) → ev_W G M_Fi_findByCues X 0 0 16 ls [] w := by
    intro f
    induction f with
    | zero =>
      intro ls e1 e2 l0 l1 l2 l3 l6
      refine r_iload hX d_Fi_findByCues_16 (by first | rfl | assumption) ?_
      refine q_aload hX 1 d_Fi_findByCues_18 rfl (by first | rfl | assumption) ?_
      refine r_getf hX d_Fi_findByCues_19 fl_Fi_42 (by first | assumption | exact ev_set_self _ _ _ | (simp (disch := first | assumption | decide | omega) only [ev_set_self, ev_set_ne, ev_new_self, ev_new_ne]; first | done | assumption)) rfl ?_
      refine r_icmp_le hX 98 d_Fi_findByCues_22 (by decide) (fun _ => ?_) (fun c22 => absurd (by rw [(hok k hk).1]; exact nI_le (Nat.le_refl _) (by omega)) c22)
      refine r_iconst (v := -1) hX d_Fi_findByCues_98 (by decide) ?_
      refine r_iret hX hR d_Fi_findByCues_99 rfl (by first | rfl | assumption) ?_
      exact ⟨by rw [← hee, ← e2]; rfl, rfl⟩
    | succ f ih =>
      intro ls e1 e2 l0 l1 l2 l3 l6
      rw [show k + (f + 1) = k + 1 + f by omega] at l6
      have hi : k + 1 + f < n := by omega
      obtain ⟨u1, u2, u3, u4⟩ := hes.1 (k + 1 + f) (by omega)
      obtain ⟨o1, o2, o3, o4⟩ := hok (k + 1 + f) hi
      have hcl : (nI (k + 1 + f)).toNatClampNeg = k + 1 + f := nI_clamp (by omega)
      have hgt : nI k < nI (k + 1 + f) := nI_lt (by omega) (by omega)
      refine r_iload hX d_Fi_findByCues_16 (by first | rfl | assumption) ?_
      refine q_aload hX 1 d_Fi_findByCues_18 rfl (by first | rfl | assumption) ?_
      refine r_getf hX d_Fi_findByCues_19 fl_Fi_42 (by first | assumption | exact ev_set_self _ _ _ | (simp (disch := first | assumption | decide | omega) only [ev_set_self, ev_set_ne, ev_new_self, ev_new_ne]; first | done | assumption)) rfl ?_
      refine r_icmp_le hX 98 d_Fi_findByCues_22 (by decide) (fun c22 => absurd c22 (by rw [(hok k hk).1]; exact Int32.not_le.mpr hgt)) (fun _ => ?_)
      refine q_aload hX 0 d_Fi_findByCues_25 rfl (by first | rfl | assumption) ?_
      refine r_getf hX d_Fi_findByCues_26 fl_Fi_9 (by first | assumption | exact ev_set_self _ _ _ | (simp (disch := first | assumption | decide | omega) only [ev_set_self, ev_set_ne, ev_new_self, ev_new_ne]; first | done | assumption)) rfl ?_
      refine r_getf hX d_Fi_findByCues_29 fl_Fi_47 (by first | assumption | exact ev_set_self _ _ _ | (simp (disch := first | assumption | decide | omega) only [ev_set_self, ev_set_ne, ev_new_self, ev_new_ne]; first | done | assumption)) rfl ?_
      refine r_iload hX d_Fi_findByCues_32 (by first | rfl | assumption) ?_
      refine r_aald hX d_Fi_findByCues_34 (by first | assumption | exact ev_set_self _ _ _ | (simp (disch := first | assumption | decide | omega) only [ev_set_self, ev_set_ne, ev_new_self, ev_new_ne]; first | done | assumption)) rfl (vp_in_nI (by omega) (by decide)) ?_
      rw [hcl, u1]
      refine r_astore hX d_Fi_findByCues_35 (by decide) ?_
      refine r_aload hX d_Fi_findByCues_37 (by first | rfl | assumption) ?_
      refine r_getf hX d_Fi_findByCues_39 fl_Fi_51 (by first | assumption | exact ev_set_self _ _ _ | (simp (disch := first | assumption | decide | omega) only [ev_set_self, ev_set_ne, ev_new_self, ev_new_ne]; first | done | assumption)) rfl ?_
      refine r_getsE (i := 10) hX d_Fi_findByCues_42 (by decide) m_559 ?_
      refine r_acmp_ne (o := some (E (k + 1 + f)).1) (u := some 10) hX 92 (by intro r h; cases h; exact Or.inl o2) (by intro r h; cases h; omega) d_Fi_findByCues_45 (by decide) (fun c45 => ?_) (fun c45 => ?_)
      · refine r_iinc hX d_Fi_findByCues_92 (by first | rfl | assumption) ?_
        refine r_goto hX 16 d_Fi_findByCues_95 (by decide) ?_
        exact ih _ (by omega) (by rw [← e2, fi_fc, if_neg (fun z => c45 (by rw [z.1]))]) l0 l1 l2 l3 (by show some (Value.int (nI (k + 1 + f) + Int32.ofInt (-1))) = _; rw [i_dec, show k + 1 + f = (k + f) + 1 by omega, nI_pred])
      · refine q_aload hX 0 d_Fi_findByCues_48 rfl (by first | rfl | assumption) ?_
        refine r_aload hX d_Fi_findByCues_49 (by first | rfl | assumption) ?_
        refine r_getsE (i := 12) hX d_Fi_findByCues_51 (by decide) m_583 ?_
        refine r_callV (as := [_, _]) hX d_Fi_findByCues_54 lk_Fi_106 hfi rfl rfl (Nat.le_of_ble_eq_true rfl) (by decide) 0 0 (Nat.le_refl _) (Nat.le_refl _) (c_Fi_firstNumber (G := G) htr0 hn hsd hes hm hok hfi0 (k := k + 1 + f) (s := 12) hi (by decide)) (fun v w1 hq => ?_)
        obtain ⟨rfl, rfl⟩ := hq
        refine q_iload hX 2 d_Fi_findByCues_57 rfl (by first | rfl | assumption) ?_
        refine r_i2l hX d_Fi_findByCues_58 ?_
        refine r_lcmp hX d_Fi_findByCues_59 ?_
        refine r_if_ne hX 92 d_Fi_findByCues_60 (by decide) (fun c60 => ?_) (fun c60 => ?_)
        · refine r_iinc hX d_Fi_findByCues_92 (by first | rfl | assumption) ?_
          refine r_goto hX 16 d_Fi_findByCues_95 (by decide) ?_
          exact ih _ (by omega) (by rw [← e2, fi_fc, if_neg (fun z => c60 (l_eq0.mpr z.2.1))]) l0 l1 l2 l3 (by show some (Value.int (nI (k + 1 + f) + Int32.ofInt (-1))) = _; rw [i_dec, show k + 1 + f = (k + f) + 1 by omega, nI_pred])
        · refine q_aload hX 0 d_Fi_findByCues_63 rfl (by first | rfl | assumption) ?_
          refine r_aload hX d_Fi_findByCues_64 (by first | rfl | assumption) ?_
          refine r_getsE (i := 11) hX d_Fi_findByCues_66 (by decide) m_572 ?_
          refine r_callV (as := [_, _]) hX d_Fi_findByCues_69 lk_Fi_106 hfi rfl rfl (Nat.le_of_ble_eq_true rfl) (by decide) 0 0 (Nat.le_refl _) (Nat.le_refl _) (c_Fi_firstNumber (G := G) htr0 hn hsd hes hm hok hfi0 (k := k + 1 + f) (s := 11) hi (by decide)) (fun v w1 hq => ?_)
          obtain ⟨rfl, rfl⟩ := hq
          refine q_lload hX 3 d_Fi_findByCues_72 rfl (by first | rfl | assumption) ?_
          refine r_lcmp hX d_Fi_findByCues_73 ?_
          refine r_if_gt hX 92 d_Fi_findByCues_74 (by decide) (fun c74 => ?_) (fun c74 => ?_)
          · refine r_iinc hX d_Fi_findByCues_92 (by first | rfl | assumption) ?_
            refine r_goto hX 16 d_Fi_findByCues_95 (by decide) ?_
            exact ih _ (by omega) (by rw [← e2, fi_fc, if_neg (fun z => absurd (l_le0.mpr z.2.2) (Int32.not_le.mpr c74))]) l0 l1 l2 l3 (by show some (Value.int (nI (k + 1 + f) + Int32.ofInt (-1))) = _; rw [i_dec, show k + 1 + f = (k + f) + 1 by omega, nI_pred])
          · refine q_aload hX 0 d_Fi_findByCues_77 rfl (by first | rfl | assumption) ?_
            refine q_aload hX 1 d_Fi_findByCues_78 rfl (by first | rfl | assumption) ?_
            refine q_aload hX 0 d_Fi_findByCues_79 rfl (by first | rfl | assumption) ?_
            refine r_aload hX d_Fi_findByCues_80 (by first | rfl | assumption) ?_
            refine r_getsE (i := 13) hX d_Fi_findByCues_82 (by decide) m_584 ?_
            refine r_callV (as := [_, _]) hX d_Fi_findByCues_85 lk_Fi_106 hfi rfl rfl (Nat.le_of_ble_eq_true rfl) (by decide) 0 0 (Nat.le_refl _) (Nat.le_refl _) (c_Fi_firstNumber (G := G) htr0 hn hsd hes hm hok hfi0 (k := k + 1 + f) (s := 13) hi (by decide)) (fun v w1 hq => ?_)
            obtain ⟨rfl, rfl⟩ := hq
            refine r_callV (as := [_, _]) hX d_Fi_findByCues_88 lk_Fi_110 hfi rfl rfl (Nat.le_of_ble_eq_true rfl) (by decide) 0 0 (Nat.le_refl _) (Nat.le_refl _) (c_Fi_blockWithBefore (G := G) htr0 hn hsd hes hm hok hfi0 hk _) (fun v w1 hq => ?_)
            obtain ⟨rfl, rfl⟩ := hq
            refine r_iret hX hR d_Fi_findByCues_91 rfl (by first | rfl | assumption) ?_
            exact ⟨by rw [← hee, ← e2, fi_fc, if_pos ⟨Option.some.inj c45, l_eq0.mp c60, l_le0.mp (Int32.not_lt.mp c74)⟩, ← hee], rfl⟩
  refine q_aload hX 0 d_Fi_findByCues_0 rfl (by first | rfl | assumption) ?_
  refine r_getf hX d_Fi_findByCues_1 fl_Fi_9 (by first | assumption | exact ev_set_self _ _ _ | (simp (disch := first | assumption | decide | omega) only [ev_set_self, ev_set_ne, ev_new_self, ev_new_ne]; first | done | assumption)) rfl ?_
  refine q_aload hX 1 d_Fi_findByCues_4 rfl (by first | rfl | assumption) ?_
  refine r_callV (as := [_]) hX d_Fi_findByCues_5 lk_Fi_39 t1 rfl rfl (Nat.le_of_ble_eq_true rfl) (by decide) 0 0 (Nat.le_refl _) (Nat.le_refl _) (c_Tr_endOf (G := G) htr0 hn hsd hes hm hk (hok k hk).1) (fun v w1 hq => ?_)
  obtain ⟨rfl, rfl⟩ := hq
  refine r_istore hX d_Fi_findByCues_8 (by decide) ?_
  rw [← hee]
  refine r_iload hX d_Fi_findByCues_10 (by first | rfl | assumption) ?_
  refine r_iconst (v := 1) hX d_Fi_findByCues_12 (by decide) ?_
  refine r_isub hX d_Fi_findByCues_13 ?_
  refine r_istore hX d_Fi_findByCues_14 (by decide) ?_
  exact loop (e - (k + 1)) _ (by omega) rfl rfl rfl rfl rfl (by show some (Value.int (nI e - 1)) = _; rw [show e = (k + (e - (k + 1))) + 1 by omega, nI_pred]; congr 3; omega)
