/-! ===== Writer: blocks ===== -/
def is_Wr (w : Ev_W) : Prop := w.2 113 = some (.inr (6, [.ref 108, .ref 103, .ref 114]))
theorem ro_more.el {w w1 : Ev_W} {a b n c : Nat} {f : Nat → Int32} {x : List Int32} {K : Option Ev_K} (h : ro_more w w1 a b n c f x) {e : Nat} (hE : w.2 e = K) (he : ¬ e = a ∧ ¬ e = b) : w1.2 e = K := by rw [h.2.2 e (by simp; exact he)]; exact hE
theorem ro_more.un {w w1 : Ev_W} {a b n c : Nat} {f : Nat → Int32} {x y : List Int32} (h : ro_more w w1 a b n c f x) (e : x = y) : ro_more w w1 a b n c f y := e ▸ h
def st_L (sf : Nat → Int32) (sd : Nat) (fr : Int32) : Nat → Nat → List Int32
  | 0, _ => []
  | k + 1, i => tr_sa sf sd (fr + nI i) :: st_L sf sd fr k (i + 1)
theorem st_len (sf : Nat → Int32) (sd : Nat) (fr : Int32) : ∀ k i, (st_L sf sd fr k i).length = k
  | 0, _ => rfl
  | k + 1, i => by simp [st_L, st_len sf sd fr k (i + 1)]
theorem c_Wr_putStored {G : Ev_G} {w : Ev_W} (hwr : is_Wr w) {N sd : Nat} {L As : Nat → Option Nat} {sf : Nat → Int32} (htr : is_Tr w N L As sf sd) (hN : N ≤ 60) (hsd : sd ≤ 1200) {a b n c : Nat} {f : Nat → Int32} (h : is_Ro w a b n c f) (hab : (a = 103 ∧ b = 104) ∨ (a = 114 ∧ b = 115)) (hn : n < 2 ^ 31) (hc : c < 2 ^ 30) {e : Nat} {E : Ev_E} (hE : w.2 e = some (el_C e E)) (he : 139 ≤ e) {ss : Nat} (hss : E.2.2.2 4 = nI ss) (hs2 : ss ≤ 1200) : ev_Met G M_Wr_putStored 1 0 0 [.ref 113, .ref e, .ref a] w (fun v w' => v = none ∧ ro_more w w' a b n c f (st_L sf sd (E.2.2.2 3) ss 0)) := by
  refine ev_Met.of md_Wr_putStored (Nat.le_of_ble_eq_true rfl) (fun X hX hR => ?_)
  have loop : ∀ (k i : Nat) (ls : Ev_L) (w1 : Ev_W) (bs : List Int32), i + k = ss → bs.length = i → bs ++ st_L sf sd (E.2.2.2 3) k i = st_L sf sd (E.2.2.2 3) ss 0 → ro_more w w1 a b n c f bs → ls.1 0 = some (.ref 113) → ls.1 1 = some (.ref e) → ls.1 2 = some (.ref a) → ls.1 3 = some (.int (nI i)) → ev_W G M_Wr_putStored X 0 0 2 ls [] w1 := by
    intro k
    induction k with
    | zero =>
      intro i ls w1 bs e1 e2 e3 hm1 l0 l1 l2 l3
      have hE1 := hm1.el hE (by omega)
      refine q_iload hX 3 d_Wr_putStored_2 rfl (by first | rfl | assumption) ?_
      refine q_aload hX 1 d_Wr_putStored_3 rfl (by first | rfl | assumption) ?_
      refine r_getf hX d_Wr_putStored_4 fl_Wr_127 (by first | assumption | exact ev_set_self _ _ _ | (simp (disch := first | assumption | decide | omega) only [ev_set_self, ev_set_ne, ev_new_self, ev_new_ne]; first | done | assumption)) rfl ?_
      refine r_icmp_ge hX 33 d_Wr_putStored_7 (by decide) (fun _ => ?_) (fun c7 => absurd (by rw [hss]; exact nI_le (by omega) (by omega)) c7)
      refine r_vret hX hR d_Wr_putStored_33 rfl ?_
      exact ⟨rfl, hm1.un (by rw [← e3]; simp [st_L])⟩
    | succ k ih =>
      intro i ls w1 bs e1 e2 e3 hm1 l0 l1 l2 l3
      have hE1 := hm1.el hE (by omega)
      have hw1 : is_Wr w1 := hm1.el hwr (by omega)
      have htr1 : is_Tr w1 N L As sf sd := ⟨hm1.el htr.1 (by omega), hm1.el htr.2.1 (by omega), hm1.el htr.2.2.1 (by omega), hm1.el htr.2.2.2 (by omega)⟩
      refine q_iload hX 3 d_Wr_putStored_2 rfl (by first | rfl | assumption) ?_
      refine q_aload hX 1 d_Wr_putStored_3 rfl (by first | rfl | assumption) ?_
      refine r_getf hX d_Wr_putStored_4 fl_Wr_127 (by first | assumption | exact ev_set_self _ _ _ | (simp (disch := first | assumption | decide | omega) only [ev_set_self, ev_set_ne, ev_new_self, ev_new_ne]; first | done | assumption)) rfl ?_
      refine r_icmp_ge hX 33 d_Wr_putStored_7 (by decide) (fun c7 => absurd c7 (by rw [hss]; exact nI_ge (by omega) (by omega))) (fun _ => ?_)
      refine q_aload hX 2 d_Wr_putStored_10 rfl (by first | rfl | assumption) ?_
      refine q_aload hX 0 d_Wr_putStored_11 rfl (by first | rfl | assumption) ?_
      refine r_getf hX d_Wr_putStored_12 fl_Wr_20 hw1 rfl ?_
      refine q_aload hX 1 d_Wr_putStored_15 rfl (by first | rfl | assumption) ?_
      refine r_getf hX d_Wr_putStored_16 fl_Wr_130 (by first | assumption | exact ev_set_self _ _ _ | (simp (disch := first | assumption | decide | omega) only [ev_set_self, ev_set_ne, ev_new_self, ev_new_ne]; first | done | assumption)) rfl ?_
      refine q_iload hX 3 d_Wr_putStored_19 rfl (by first | rfl | assumption) ?_
      refine r_iadd hX d_Wr_putStored_20 ?_
      refine r_callV (as := [_]) hX d_Wr_putStored_21 lk_Wr_133 htr1.1 rfl rfl (Nat.le_of_ble_eq_true rfl) (by decide) 0 0 (Nat.le_refl _) (Nat.le_refl _) (c_Tr_storedAt (G := G) htr1 hN hsd _) (fun v w2 hq => ?_)
      obtain ⟨rfl, hw⟩ := hq
      rw [hw]
      refine r_callV (as := [_]) hX d_Wr_putStored_24 lk_Wr_92 hm1.1.1 rfl rfl (Nat.le_of_ble_eq_true rfl) (by decide) 0 0 (Nat.le_refl _) (Nat.le_refl _) (c_Ro_putL (G := G) hm1.1 (by omega) (by omega) (by omega) hn _) (fun v w3 hq => ?_)
      obtain ⟨rfl, q1⟩ := hq
      refine r_iinc hX d_Wr_putStored_27 (by first | rfl | assumption) ?_
      refine r_goto hX 2 d_Wr_putStored_30 (by decide) ?_
      exact ih (i + 1) _ w3 (bs ++ [tr_sa sf sd (E.2.2.2 3 + nI i)]) (by omega) (by simp; omega) (by rw [← e3, List.append_assoc]; rfl) (hm1.tr q1) l0 l1 l2 (by show some (Value.int (nI i + Int32.ofInt 1)) = _; rw [show Int32.ofInt 1 = 1 from rfl, nI_1])
  refine r_iconst (v := 0) hX d_Wr_putStored_0 (by decide) ?_
  refine q_istore hX 3 d_Wr_putStored_1 rfl (by decide) ?_
  exact loop ss 0 _ w [] (by omega) rfl rfl (ro_more.rf h) rfl rfl rfl rfl
def sb_L : Nat → Nat → List Int32
  | 0, q => [nI q]
  | k + 1, q => if q < 255 then [nI q] else 255 :: sb_L k (q - 255)
theorem sb_len : ∀ k q, (sb_L k q).length ≤ k + 1
  | 0, q => Nat.le_refl _
  | k + 1, q => by unfold sb_L; have := sb_len k (q - 255); split <;> simp <;> omega
theorem nI_sub255 {q : Nat} (h : 255 ≤ q) : nI q + Int32.ofInt (-255) = nI (q - 255) := by
  have h1 : nI q = nI (q - 255) + nI 255 := by rw [nI_add, Nat.sub_add_cancel h]
  rw [h1, Int32.add_assoc, show nI 255 + Int32.ofInt (-255) = 0 from by decide, Int32.add_zero]
theorem c_Wr_putSizeOfBytes {G : Ev_G} {w : Ev_W} {a b n c : Nat} {f : Nat → Int32} (h : is_Ro w a b n c f) (hab : (a = 103 ∧ b = 104) ∨ (a = 114 ∧ b = 115)) (hn : n < 2 ^ 31) (hc : c < 2 ^ 30) (x : Nat) (hx : x ≤ 700) : ev_Met G M_Wr_putSizeOfBytes 1 0 0 [.int (nI x), .ref a] w (fun v w' => v = none ∧ ro_more w w' a b n c f (sb_L 3 x)) := by
  refine ev_Met.of md_Wr_putSizeOfBytes (Nat.le_of_ble_eq_true rfl) (fun X hX hR => ?_)
  have loop : ∀ (k q : Nat) (ls : Ev_L) (w1 : Ev_W) (bs : List Int32), q < 255 * (k + 1) → k + bs.length = 3 → bs ++ sb_L k q = sb_L 3 x → ro_more w w1 a b n c f bs → ls.1 1 = some (.ref a) → ls.1 2 = some (.int (nI q)) → ev_W G M_Wr_putSizeOfBytes X 0 0 2 ls [] w1 := by
    intro k
    induction k with
    | zero =>
      intro q ls w1 bs e1 e2 e3 hm1 l1 l2
      refine q_iload hX 2 d_Wr_putSizeOfBytes_2 rfl (by first | rfl | assumption) ?_
      refine r_sipush (v := 255) hX d_Wr_putSizeOfBytes_3 (by decide) ?_
      refine r_icmp_lt hX 25 d_Wr_putSizeOfBytes_6 (by decide) (fun _ => ?_) (fun c6 => absurd (nI_lt (a := q) (b := 255) (by omega) (by decide)) c6)
      refine q_aload hX 1 d_Wr_putSizeOfBytes_25 rfl (by first | rfl | assumption) ?_
      refine q_iload hX 2 d_Wr_putSizeOfBytes_26 rfl (by first | rfl | assumption) ?_
      refine r_callV (as := [_]) hX d_Wr_putSizeOfBytes_27 lk_Wr_92 hm1.1.1 rfl rfl (Nat.le_of_ble_eq_true rfl) (by decide) 0 0 (Nat.le_refl _) (Nat.le_refl _) (c_Ro_putL (G := G) hm1.1 (by omega) (by omega) (by omega) hn _) (fun v w3 hq => ?_)
      obtain ⟨rfl, q1⟩ := hq
      refine r_vret hX hR d_Wr_putSizeOfBytes_30 rfl ?_
      exact ⟨rfl, (hm1.tr q1).un e3⟩
    | succ k ih =>
      intro q ls w1 bs e1 e2 e3 hm1 l1 l2
      refine q_iload hX 2 d_Wr_putSizeOfBytes_2 rfl (by first | rfl | assumption) ?_
      refine r_sipush (v := 255) hX d_Wr_putSizeOfBytes_3 (by decide) ?_
      refine r_icmp_lt hX 25 d_Wr_putSizeOfBytes_6 (by decide) (fun c6 => ?_) (fun c6 => ?_)
      · refine q_aload hX 1 d_Wr_putSizeOfBytes_25 rfl (by first | rfl | assumption) ?_
        refine q_iload hX 2 d_Wr_putSizeOfBytes_26 rfl (by first | rfl | assumption) ?_
        refine r_callV (as := [_]) hX d_Wr_putSizeOfBytes_27 lk_Wr_92 hm1.1.1 rfl rfl (Nat.le_of_ble_eq_true rfl) (by decide) 0 0 (Nat.le_refl _) (Nat.le_refl _) (c_Ro_putL (G := G) hm1.1 (by omega) (by omega) (by omega) hn _) (fun v w3 hq => ?_)
        obtain ⟨rfl, q1⟩ := hq
        refine r_vret hX hR d_Wr_putSizeOfBytes_30 rfl ?_
        have hq : q < 255 := (nI_ltI (a := q) (b := 255) (by omega) (by decide)).mp c6
        exact ⟨rfl, (hm1.tr q1).un (by rw [← e3, sb_L, if_pos hq])⟩
      · refine q_aload hX 1 d_Wr_putSizeOfBytes_9 rfl (by first | rfl | assumption) ?_
        refine r_sipush (v := 255) hX d_Wr_putSizeOfBytes_10 (by decide) ?_
        refine r_callV (as := [_]) hX d_Wr_putSizeOfBytes_13 lk_Wr_92 hm1.1.1 rfl rfl (Nat.le_of_ble_eq_true rfl) (by decide) 0 0 (Nat.le_refl _) (Nat.le_refl _) (c_Ro_putL (G := G) hm1.1 (by omega) (by omega) (by omega) hn _) (fun v w3 hq => ?_)
        obtain ⟨rfl, q1⟩ := hq
        refine r_iincW hX d_Wr_putSizeOfBytes_16 (by first | rfl | assumption) ?_
        refine r_goto hX 2 d_Wr_putSizeOfBytes_22 (by decide) ?_
        have hq : ¬ q < 255 := fun z => c6 (nI_lt (a := q) (b := 255) z (by decide))
        exact ih (q - 255) _ w3 (bs ++ [255]) (by omega) (by simp; omega) (by rw [← e3, sb_L, if_neg hq, List.append_assoc]; rfl) (hm1.tr q1) l1 (by show some (Value.int (nI q + Int32.ofInt (-255))) = _; rw [nI_sub255 (by omega)])
  refine q_iload hX 0 d_Wr_putSizeOfBytes_0 rfl (by first | rfl | assumption) ?_
  refine q_istore hX 2 d_Wr_putSizeOfBytes_1 rfl (by decide) ?_
  exact loop 3 x _ w [] (by omega) rfl rfl (ro_more.rf h) rfl rfl
theorem vn_len (x : Int64) (k : Nat) : (vn_L x k).length = k := nm_len _ _
def bh_L (E : Ev_E) : List Int32 := (vn_L (E.2.2.2 5).toInt64 (wr_sv (E.2.2.2 5).toInt64 7 1) ++ nm_L (E.2.2.2 6).toInt64 2) ++ (((if E.2.2.2 7 = 0 then 0 else 128) + 2 * E.2.2.2 8) :: (if E.2.2.2 8 = 0 then [] else [E.2.2.1.toInt32 - 1]))
theorem bh_len (E : Ev_E) : (bh_L E).length ≤ 12 := by
  have := wr_sv_le (E.2.2.2 5).toInt64 7 1
  unfold bh_L
  have h2 : (if E.2.2.2 8 = 0 then ([] : List Int32) else [E.2.2.1.toInt32 - 1]).length ≤ 1 := by split <;> simp
  rw [List.length_append, List.length_append, vn_len, nm_len, List.length_cons]
  omega
theorem c_Wr_putBlockHead {G : Ev_G} {w : Ev_W} {a b n c : Nat} {f : Nat → Int32} (h : is_Ro w a b n c f) (hab : (a = 103 ∧ b = 104) ∨ (a = 114 ∧ b = 115)) (hn : n < 2 ^ 31) (hc : c < 2 ^ 30) {e : Nat} {E : Ev_E} (hE : w.2 e = some (el_C e E)) (he : 139 ≤ e) : ev_Met G M_Wr_putBlockHead 3 0 0 [.ref e, .ref a] w (fun v w' => v = none ∧ ro_more w w' a b n c f (bh_L E)) := by
  refine ev_Met.of md_Wr_putBlockHead (Nat.le_of_ble_eq_true rfl) (fun X hX hR => ?_)
  have hsv := wr_sv_le (E.2.2.2 5).toInt64 7 1
  have tail : ∀ (x : Int32) (ls : Ev_L) (w1 : Ev_W), x = (if E.2.2.2 7 = 0 then 0 else 128) → ro_more w w1 a b n c f (vn_L (E.2.2.2 5).toInt64 (wr_sv (E.2.2.2 5).toInt64 7 1) ++ nm_L (E.2.2.2 6).toInt64 2) → ls.1 0 = some (.ref e) → ls.1 1 = some (.ref a) → ev_W G M_Wr_putBlockHead X 0 0 42 ls [.int x, .ref a] w1 := by
    intro x ls w1 hx hm1 l0 l1
    have hE1 := hm1.el hE (by omega)
    have hl1 : (vn_L (E.2.2.2 5).toInt64 (wr_sv (E.2.2.2 5).toInt64 7 1) ++ nm_L (E.2.2.2 6).toInt64 2).length ≤ 10 := by rw [List.length_append, vn_len, nm_len]; omega
    refine r_iconst (v := 2) hX d_Wr_putBlockHead_42 (by decide) ?_
    refine q_aload hX 0 d_Wr_putBlockHead_43 rfl (by first | rfl | assumption) ?_
    refine r_getf hX d_Wr_putBlockHead_44 fl_Wr_146 (by first | assumption | exact ev_set_self _ _ _ | (simp (disch := first | assumption | decide | omega) only [ev_set_self, ev_set_ne, ev_new_self, ev_new_ne]; first | done | assumption)) rfl ?_
    refine r_imul hX d_Wr_putBlockHead_47 ?_
    refine r_iadd hX d_Wr_putBlockHead_48 ?_
    refine r_callV (as := [_]) hX d_Wr_putBlockHead_49 lk_Wr_92 hm1.1.1 rfl rfl (Nat.le_of_ble_eq_true rfl) (by decide) 0 0 (Nat.le_refl _) (Nat.le_refl _) (c_Ro_putL (G := G) hm1.1 (by omega) (by omega) (by omega) hn _) (fun v w2 hq => ?_)
    obtain ⟨rfl, q1⟩ := hq
    have hm2 := hm1.tr q1
    have hE2 := hm2.el hE (by omega)
    have hl2 : ((vn_L (E.2.2.2 5).toInt64 (wr_sv (E.2.2.2 5).toInt64 7 1) ++ nm_L (E.2.2.2 6).toInt64 2) ++ [x + 2 * E.2.2.2 8]).length ≤ 11 := by rw [List.length_append]; exact Nat.succ_le_succ hl1
    refine q_aload hX 0 d_Wr_putBlockHead_52 rfl (by first | rfl | assumption) ?_
    refine r_getf hX d_Wr_putBlockHead_53 fl_Wr_146 (by first | assumption | exact ev_set_self _ _ _ | (simp (disch := first | assumption | decide | omega) only [ev_set_self, ev_set_ne, ev_new_self, ev_new_ne]; first | done | assumption)) rfl ?_
    refine r_if_eq hX 70 d_Wr_putBlockHead_56 (by decide) (fun c56 => ?_) (fun c56 => ?_)
    · refine r_vret hX hR d_Wr_putBlockHead_70 rfl ?_
      exact ⟨rfl, hm2.un (by rw [bh_L, if_pos c56, ← hx])⟩
    · refine q_aload hX 1 d_Wr_putBlockHead_59 rfl (by first | rfl | assumption) ?_
      refine q_aload hX 0 d_Wr_putBlockHead_60 rfl (by first | rfl | assumption) ?_
      refine r_getf hX d_Wr_putBlockHead_61 fl_Wr_104 (by first | assumption | exact ev_set_self _ _ _ | (simp (disch := first | assumption | decide | omega) only [ev_set_self, ev_set_ne, ev_new_self, ev_new_ne]; first | done | assumption)) rfl ?_
      refine r_l2i hX d_Wr_putBlockHead_64 ?_
      refine r_iconst (v := 1) hX d_Wr_putBlockHead_65 (by decide) ?_
      refine r_isub hX d_Wr_putBlockHead_66 ?_
      refine r_callV (as := [_]) hX d_Wr_putBlockHead_67 lk_Wr_92 hm2.1.1 rfl rfl (Nat.le_of_ble_eq_true rfl) (by decide) 0 0 (Nat.le_refl _) (Nat.le_refl _) (c_Ro_putL (G := G) hm2.1 (by omega) (by omega) (by have := hl2; omega) hn _) (fun v w3 hq => ?_)
      obtain ⟨rfl, q2⟩ := hq
      refine r_vret hX hR d_Wr_putBlockHead_70 rfl ?_
      exact ⟨rfl, (hm2.tr q2).un (by rw [bh_L, if_neg c56, ← hx, List.append_assoc]; rfl)⟩
  refine q_aload hX 1 d_Wr_putBlockHead_0 rfl (by first | rfl | assumption) ?_
  refine q_aload hX 0 d_Wr_putBlockHead_1 rfl (by first | rfl | assumption) ?_
  refine r_getf hX d_Wr_putBlockHead_2 fl_Wr_136 (by first | assumption | exact ev_set_self _ _ _ | (simp (disch := first | assumption | decide | omega) only [ev_set_self, ev_set_ne, ev_new_self, ev_new_ne]; first | done | assumption)) rfl ?_
  refine r_i2l hX d_Wr_putBlockHead_5 ?_
  refine q_aload hX 0 d_Wr_putBlockHead_6 rfl (by first | rfl | assumption) ?_
  refine r_getf hX d_Wr_putBlockHead_7 fl_Wr_136 (by first | assumption | exact ev_set_self _ _ _ | (simp (disch := first | assumption | decide | omega) only [ev_set_self, ev_set_ne, ev_new_self, ev_new_ne]; first | done | assumption)) rfl ?_
  refine r_i2l hX d_Wr_putBlockHead_10 ?_
  refine r_callSN (as := [_]) hX d_Wr_putBlockHead_11 lk_Wr_51 rfl (Nat.le_of_ble_eq_true rfl) (by decide) 0 0 (Nat.le_refl _) (Nat.le_refl _) (c_EF_shortestVintLength (G := G) _) (fun v w1 hq => ?_)
  obtain ⟨rfl, hw⟩ := hq
  rw [hw]
  refine r_callV (as := [_, _]) hX d_Wr_putBlockHead_14 lk_Wr_95 h.1 rfl rfl (Nat.le_of_ble_eq_true rfl) (by decide) 0 0 (Nat.le_refl _) (Nat.le_refl _) (c_Ro_vintL (G := G) h (by omega) (by omega) hn _ _ (by omega)) (fun v w1 hq => ?_)
  obtain ⟨rfl, hm1⟩ := hq
  have hE1 := hm1.el hE (by omega)
  refine q_aload hX 1 d_Wr_putBlockHead_17 rfl (by first | rfl | assumption) ?_
  refine q_aload hX 0 d_Wr_putBlockHead_18 rfl (by first | rfl | assumption) ?_
  refine r_getf hX d_Wr_putBlockHead_19 fl_Wr_139 (by first | assumption | exact ev_set_self _ _ _ | (simp (disch := first | assumption | decide | omega) only [ev_set_self, ev_set_ne, ev_new_self, ev_new_ne]; first | done | assumption)) rfl ?_
  refine r_i2l hX d_Wr_putBlockHead_22 ?_
  refine r_iconst (v := 2) hX d_Wr_putBlockHead_23 (by decide) ?_
  refine r_callV (as := [_, _]) hX d_Wr_putBlockHead_24 lk_Wr_88 hm1.1.1 rfl rfl (Nat.le_of_ble_eq_true rfl) (by decide) 0 0 (Nat.le_refl _) (Nat.le_refl _) (c_Ro_numL (G := G) hm1.1 (by omega) (by omega) hn _ 2 (by rw [vn_len]; omega)) (fun v w2 hq => ?_)
  obtain ⟨rfl, q1⟩ := hq
  have hm2 := hm1.tr q1
  have hE2 := hm2.el hE (by omega)
  refine q_aload hX 1 d_Wr_putBlockHead_27 rfl (by first | rfl | assumption) ?_
  refine q_aload hX 0 d_Wr_putBlockHead_28 rfl (by first | rfl | assumption) ?_
  refine r_getf hX d_Wr_putBlockHead_29 fl_Wr_142 (by first | assumption | exact ev_set_self _ _ _ | (simp (disch := first | assumption | decide | omega) only [ev_set_self, ev_set_ne, ev_new_self, ev_new_ne]; first | done | assumption)) rfl ?_
  refine r_if_eq hX 41 d_Wr_putBlockHead_32 (by decide) (fun c32 => ?_) (fun c32 => ?_)
  · refine r_iconst (v := 0) hX d_Wr_putBlockHead_41 (by decide) ?_
    exact tail _ _ _ (by rw [if_pos c32]) hm2 rfl rfl
  · refine r_sipush (v := 128) hX d_Wr_putBlockHead_35 (by decide) ?_
    refine r_goto hX 42 d_Wr_putBlockHead_38 (by decide) ?_
    exact tail _ _ _ (by rw [if_neg c32]) hm2 rfl rfl
def ps_1 (la : Int32) (sz : Nat → Nat) (i : Nat) : List Int32 :=
  if la = 1 then sb_L 3 (sz i) else if la = 3 then (if i = 0 then vn_L (lN (sz i)) (wr_sv (lN (sz i)) 7 1) else vn_L ((nI (sz i) - nI (sz (i - 1))).toInt64 + ef_surplus (nI (wr_sd (nI (sz i) - nI (sz (i - 1))) 7 1))) (wr_sd (nI (sz i) - nI (sz (i - 1))) 7 1)) else []
def ps_L (la : Int32) (sz : Nat → Nat) : Nat → Nat → List Int32
  | 0, _ => []
  | k + 1, i => ps_1 la sz i ++ ps_L la sz k (i + 1)
theorem ps_1_len (la : Int32) (sz : Nat → Nat) (i : Nat) : (ps_1 la sz i).length ≤ 8 := by
  unfold ps_1
  have h1 := sb_len 3 (sz i)
  have h2 := wr_sv_le (lN (sz i)) 7 1
  have h3 := wr_sd_le (nI (sz i) - nI (sz (i - 1))) 7 1
  split
  · omega
  · split
    · split
      · rw [vn_len]; exact h2
      · rw [vn_len]; exact h3
    · exact Nat.zero_le _
theorem ps_len (la : Int32) (sz : Nat → Nat) : ∀ k i, (ps_L la sz k i).length ≤ 8 * k
  | 0, _ => Nat.le_refl _
  | k + 1, i => by
    have h1 := ps_1_len la sz i
    have h2 := ps_len la sz k (i + 1)
    rw [ps_L, List.length_append]; omega
theorem nI_1m {i : Nat} (h : 0 < i) : nI i - 1 = nI (i - 1) := by
  have h1 : nI i = nI (i - 1) + nI 1 := by rw [nI_add, Nat.sub_add_cancel h]
  rw [h1, show nI 1 = 1 from rfl, Int32.sub_eq_add_neg, Int32.add_assoc, show (1 : Int32) + -1 = 0 from by decide, Int32.add_zero]
theorem c_Wr_putSizes {G : Ev_G} {w : Ev_W} {a b n c : Nat} {f : Nat → Int32} (h : is_Ro w a b n c f) (hab : (a = 103 ∧ b = 104) ∨ (a = 114 ∧ b = 115)) (hn : n < 2 ^ 31) (hc : c < 2 ^ 29) {e : Nat} {E : Ev_E} (hE : w.2 e = some (el_C e E)) (he : 139 ≤ e) {am : Nat} {pf : Nat → Int32} (hp : w.2 (e + 1) = some (.inl (0, 16, .inl pf))) (hma : E.2.2.1 = lN am) (hm : am ≤ 16) (ham1 : 1 ≤ am) {sz : Nat → Nat} (hsz : ∀ i, i < am → pf i = nI (sz i) ∧ sz i ≤ 700) : ev_Met G M_Wr_putSizes 3 0 0 [.ref e, .ref a] w (fun v w' => v = none ∧ ro_more w w' a b n c f (ps_L (E.2.2.2 8) sz (am - 1) 0)) := by
  refine ev_Met.of md_Wr_putSizes (Nat.le_of_ble_eq_true rfl) (fun X hX hR => ?_)
  have hms : lN am - 1 = lN (am - 1) := lN_sub ham1
  have loop : ∀ (k i : Nat) (ls : Ev_L) (w1 : Ev_W) (bs : List Int32), i + k = am - 1 → bs.length ≤ 8 * i → bs ++ ps_L (E.2.2.2 8) sz k i = ps_L (E.2.2.2 8) sz (am - 1) 0 → ro_more w w1 a b n c f bs → ls.1 0 = some (.ref e) → ls.1 1 = some (.ref a) → ls.1 2 = some (.int (nI i)) → ev_W G M_Wr_putSizes X 0 0 2 ls [] w1 := by
    intro k
    induction k with
    | zero =>
      intro i ls w1 bs e1 e2 e3 hm1 l0 l1 l2
      have hE1 := hm1.el hE (by omega)
      refine q_iload hX 2 d_Wr_putSizes_2 rfl (by first | rfl | assumption) ?_
      refine r_i2l hX d_Wr_putSizes_3 ?_
      refine q_aload hX 0 d_Wr_putSizes_4 rfl (by first | rfl | assumption) ?_
      refine r_getf hX d_Wr_putSizes_5 fl_Wr_104 (by first | assumption | exact ev_set_self _ _ _ | (simp (disch := first | assumption | decide | omega) only [ev_set_self, ev_set_ne, ev_new_self, ev_new_ne]; first | done | assumption)) rfl ?_
      refine r_lconst (v := 1) hX d_Wr_putSizes_8 (by decide) ?_
      refine r_lsub hX d_Wr_putSizes_9 ?_
      refine r_lcmp hX d_Wr_putSizes_10 ?_
      refine r_if_ge hX 109 d_Wr_putSizes_11 (by decide) (fun _ => ?_) (fun c11 => absurd (by rw [l_ge0, hma, hms, nI_l (by omega), pk_lT (by omega), pk_lT (by omega)]; omega) c11)
      refine r_vret hX hR d_Wr_putSizes_109 rfl ?_
      exact ⟨rfl, hm1.un (by rw [← e3]; simp [ps_L])⟩
    | succ k ih =>
      intro i ls w1 bs e1 e2 e3 hm1 l0 l1 l2
      have hE1 := hm1.el hE (by omega)
      have hp1 := hm1.el hp (by omega)
      have hpi : el_at am pf (nI i) = nI (sz i) := by
        rw [el_at, nI_toInt (by omega), nI_clamp (by omega), if_pos (by omega), (hsz i (by omega)).1]
      have hpi1 : 0 < i → el_at am pf (nI (i - 1)) = nI (sz (i - 1)) := fun _ => by
        rw [el_at, nI_toInt (by omega), nI_clamp (by omega), if_pos (by omega), (hsz (i - 1) (by omega)).1]
      have hl := ps_1_len (E.2.2.2 8) sz i
      have step : ∀ (ls2 : Ev_L) (w3 : Ev_W) (y : List Int32), y = ps_1 (E.2.2.2 8) sz i → ro_more w w3 a b n c f (bs ++ y) → ls2.1 0 = some (.ref e) → ls2.1 1 = some (.ref a) → ls2.1 2 = some (.int (nI i)) → ev_W G M_Wr_putSizes X 0 0 103 ls2 [] w3 := by
        intro ls2 w3 y hy hm3 l0 l1 l2
        refine r_iinc hX d_Wr_putSizes_103 (by first | rfl | assumption) ?_
        refine r_goto hX 2 d_Wr_putSizes_106 (by decide) ?_
        exact ih (i + 1) _ w3 (bs ++ y) (by omega) (by rw [List.length_append, hy]; omega) (by rw [← e3, hy, List.append_assoc]; rfl) hm3 l0 l1 (by show some (Value.int (nI i + Int32.ofInt 1)) = _; rw [show Int32.ofInt 1 = 1 from rfl, nI_1])
      refine q_iload hX 2 d_Wr_putSizes_2 rfl (by first | rfl | assumption) ?_
      refine r_i2l hX d_Wr_putSizes_3 ?_
      refine q_aload hX 0 d_Wr_putSizes_4 rfl (by first | rfl | assumption) ?_
      refine r_getf hX d_Wr_putSizes_5 fl_Wr_104 (by first | assumption | exact ev_set_self _ _ _ | (simp (disch := first | assumption | decide | omega) only [ev_set_self, ev_set_ne, ev_new_self, ev_new_ne]; first | done | assumption)) rfl ?_
      refine r_lconst (v := 1) hX d_Wr_putSizes_8 (by decide) ?_
      refine r_lsub hX d_Wr_putSizes_9 ?_
      refine r_lcmp hX d_Wr_putSizes_10 ?_
      refine r_if_ge hX 109 d_Wr_putSizes_11 (by decide) (fun c11 => absurd c11 (by rw [l_ge0, hma, hms, nI_l (by omega), pk_lT (by omega), pk_lT (by omega)]; omega)) (fun _ => ?_)
      refine q_aload hX 0 d_Wr_putSizes_14 rfl (by first | rfl | assumption) ?_
      refine q_iload hX 2 d_Wr_putSizes_15 rfl (by first | rfl | assumption) ?_
      refine r_callV (as := [_]) hX d_Wr_putSizes_16 lk_Wr_123 hE1 rfl rfl (Nat.le_of_ble_eq_true rfl) (by decide) 0 0 (Nat.le_refl _) (Nat.le_refl _) (c_El_partAt (G := G) hE1 hp1 (by omega) hma _) (fun v w2 hq => ?_)
      obtain ⟨rfl, hw⟩ := hq
      rw [hw, hpi]
      refine q_istore hX 3 d_Wr_putSizes_19 rfl (by decide) ?_
      refine q_aload hX 0 d_Wr_putSizes_20 rfl (by first | rfl | assumption) ?_
      refine r_getf hX d_Wr_putSizes_21 fl_Wr_146 (by first | assumption | exact ev_set_self _ _ _ | (simp (disch := first | assumption | decide | omega) only [ev_set_self, ev_set_ne, ev_new_self, ev_new_ne]; first | done | assumption)) rfl ?_
      refine r_iconst (v := 1) hX d_Wr_putSizes_24 (by decide) ?_
      refine r_icmp_ne hX 36 d_Wr_putSizes_25 (by decide) (fun c25 => ?_) (fun c25 => ?_)
      · refine q_aload hX 0 d_Wr_putSizes_36 rfl (by first | rfl | assumption) ?_
        refine r_getf hX d_Wr_putSizes_37 fl_Wr_146 (by first | assumption | exact ev_set_self _ _ _ | (simp (disch := first | assumption | decide | omega) only [ev_set_self, ev_set_ne, ev_new_self, ev_new_ne]; first | done | assumption)) rfl ?_
        refine r_iconst (v := 3) hX d_Wr_putSizes_40 (by decide) ?_
        refine r_icmp_ne hX 62 d_Wr_putSizes_41 (by decide) (fun c41 => ?_) (fun c41 => ?_)
        · refine q_aload hX 0 d_Wr_putSizes_62 rfl (by first | rfl | assumption) ?_
          refine r_getf hX d_Wr_putSizes_63 fl_Wr_146 (by first | assumption | exact ev_set_self _ _ _ | (simp (disch := first | assumption | decide | omega) only [ev_set_self, ev_set_ne, ev_new_self, ev_new_ne]; first | done | assumption)) rfl ?_
          refine r_iconst (v := 3) hX d_Wr_putSizes_66 (by decide) ?_
          refine r_icmp_ne hX 103 d_Wr_putSizes_67 (by decide) (fun c67 => ?_) (fun c67 => ?_)
          · exact step _ _ [] (by rw [ps_1, if_neg c25, if_neg c41]) (by simpa using hm1) l0 l1 l2
          · refine q_iload hX 3 d_Wr_putSizes_70 rfl (by first | rfl | assumption) ?_
            refine q_aload hX 0 d_Wr_putSizes_71 rfl (by first | rfl | assumption) ?_
            refine q_iload hX 2 d_Wr_putSizes_72 rfl (by first | rfl | assumption) ?_
            refine r_iconst (v := 1) hX d_Wr_putSizes_73 (by decide) ?_
            refine r_isub hX d_Wr_putSizes_74 ?_
            have hi0 : 0 < i := Nat.pos_of_ne_zero (fun z => c41 c67)
            rw [nI_1m hi0]
            refine r_callV (as := [_]) hX d_Wr_putSizes_75 lk_Wr_123 hE1 rfl rfl (Nat.le_of_ble_eq_true rfl) (by decide) 0 0 (Nat.le_refl _) (Nat.le_refl _) (c_El_partAt (G := G) hE1 hp1 (by omega) hma _) (fun v w2 hq => ?_)
            obtain ⟨rfl, hw⟩ := hq
            rw [hw, hpi1 hi0]
            refine r_isub hX d_Wr_putSizes_78 ?_
            refine r_istore hX d_Wr_putSizes_79 (by decide) ?_
            refine r_iload hX d_Wr_putSizes_81 (by first | rfl | assumption) ?_
            refine r_callS (as := [_]) hX d_Wr_putSizes_83 lk_Wr_153 rfl (Nat.le_of_ble_eq_true rfl) (by decide) 0 0 (Nat.le_refl _) (Nat.le_refl _) (c_Wr_shortestDifferenceLength (G := G) _) (fun v w2 hq => ?_)
            obtain ⟨rfl, hw⟩ := hq
            rw [hw]
            refine r_istore hX d_Wr_putSizes_86 (by decide) ?_
            refine q_aload hX 1 d_Wr_putSizes_88 rfl (by first | rfl | assumption) ?_
            refine r_iload hX d_Wr_putSizes_89 (by first | rfl | assumption) ?_
            refine r_i2l hX d_Wr_putSizes_91 ?_
            refine r_iload hX d_Wr_putSizes_92 (by first | rfl | assumption) ?_
            refine r_callSN (as := [_]) hX d_Wr_putSizes_94 lk_Wr_156 rfl (Nat.le_of_ble_eq_true rfl) (by decide) 0 0 (Nat.le_refl _) (Nat.le_refl _) (c_EF_surplus (G := G) _) (fun v w2 hq => ?_)
            obtain ⟨rfl, hw⟩ := hq
            rw [hw]
            refine r_ladd hX d_Wr_putSizes_97 ?_
            refine r_iload hX d_Wr_putSizes_98 (by first | rfl | assumption) ?_
            refine r_callV (as := [_, _]) hX d_Wr_putSizes_100 lk_Wr_95 hm1.1.1 rfl rfl (Nat.le_of_ble_eq_true rfl) (by decide) 0 0 (Nat.le_refl _) (Nat.le_refl _) (c_Ro_vintL (G := G) hm1.1 (by omega) (by omega) hn _ _ (by have := wr_sd_le (nI (sz i) - nI (sz (i - 1))) 7 1; omega)) (fun v w3 hq => ?_)
            obtain ⟨rfl, q1⟩ := hq
            exact absurd c67 c41
        · refine q_iload hX 2 d_Wr_putSizes_44 rfl (by first | rfl | assumption) ?_
          refine r_if_ne hX 62 d_Wr_putSizes_45 (by decide) (fun c45 => ?_) (fun c45 => ?_)
          · refine q_aload hX 0 d_Wr_putSizes_62 rfl (by first | rfl | assumption) ?_
            refine r_getf hX d_Wr_putSizes_63 fl_Wr_146 (by first | assumption | exact ev_set_self _ _ _ | (simp (disch := first | assumption | decide | omega) only [ev_set_self, ev_set_ne, ev_new_self, ev_new_ne]; first | done | assumption)) rfl ?_
            refine r_iconst (v := 3) hX d_Wr_putSizes_66 (by decide) ?_
            refine r_icmp_ne hX 103 d_Wr_putSizes_67 (by decide) (fun c67 => ?_) (fun c67 => ?_)
            · exact absurd c41 c67
            · refine q_iload hX 3 d_Wr_putSizes_70 rfl (by first | rfl | assumption) ?_
              refine q_aload hX 0 d_Wr_putSizes_71 rfl (by first | rfl | assumption) ?_
              refine q_iload hX 2 d_Wr_putSizes_72 rfl (by first | rfl | assumption) ?_
              refine r_iconst (v := 1) hX d_Wr_putSizes_73 (by decide) ?_
              refine r_isub hX d_Wr_putSizes_74 ?_
              have hi0 : 0 < i := Nat.pos_of_ne_zero (fun z => c45 (by rw [z]; rfl))
              rw [nI_1m hi0]
              refine r_callV (as := [_]) hX d_Wr_putSizes_75 lk_Wr_123 hE1 rfl rfl (Nat.le_of_ble_eq_true rfl) (by decide) 0 0 (Nat.le_refl _) (Nat.le_refl _) (c_El_partAt (G := G) hE1 hp1 (by omega) hma _) (fun v w2 hq => ?_)
              obtain ⟨rfl, hw⟩ := hq
              rw [hw, hpi1 hi0]
              refine r_isub hX d_Wr_putSizes_78 ?_
              refine r_istore hX d_Wr_putSizes_79 (by decide) ?_
              refine r_iload hX d_Wr_putSizes_81 (by first | rfl | assumption) ?_
              refine r_callS (as := [_]) hX d_Wr_putSizes_83 lk_Wr_153 rfl (Nat.le_of_ble_eq_true rfl) (by decide) 0 0 (Nat.le_refl _) (Nat.le_refl _) (c_Wr_shortestDifferenceLength (G := G) _) (fun v w2 hq => ?_)
              obtain ⟨rfl, hw⟩ := hq
              rw [hw]
              refine r_istore hX d_Wr_putSizes_86 (by decide) ?_
              refine q_aload hX 1 d_Wr_putSizes_88 rfl (by first | rfl | assumption) ?_
              refine r_iload hX d_Wr_putSizes_89 (by first | rfl | assumption) ?_
              refine r_i2l hX d_Wr_putSizes_91 ?_
              refine r_iload hX d_Wr_putSizes_92 (by first | rfl | assumption) ?_
              refine r_callSN (as := [_]) hX d_Wr_putSizes_94 lk_Wr_156 rfl (Nat.le_of_ble_eq_true rfl) (by decide) 0 0 (Nat.le_refl _) (Nat.le_refl _) (c_EF_surplus (G := G) _) (fun v w2 hq => ?_)
              obtain ⟨rfl, hw⟩ := hq
              rw [hw]
              refine r_ladd hX d_Wr_putSizes_97 ?_
              refine r_iload hX d_Wr_putSizes_98 (by first | rfl | assumption) ?_
              refine r_callV (as := [_, _]) hX d_Wr_putSizes_100 lk_Wr_95 hm1.1.1 rfl rfl (Nat.le_of_ble_eq_true rfl) (by decide) 0 0 (Nat.le_refl _) (Nat.le_refl _) (c_Ro_vintL (G := G) hm1.1 (by omega) (by omega) hn _ _ (by have := wr_sd_le (nI (sz i) - nI (sz (i - 1))) 7 1; omega)) (fun v w3 hq => ?_)
              obtain ⟨rfl, q1⟩ := hq
              exact step _ _ _ (by rw [ps_1, if_neg c25, if_pos c41, if_neg (fun z => c45 (by rw [z]; rfl))]) (hm1.tr q1) l0 l1 l2
          · refine q_aload hX 1 d_Wr_putSizes_48 rfl (by first | rfl | assumption) ?_
            refine q_iload hX 3 d_Wr_putSizes_49 rfl (by first | rfl | assumption) ?_
            refine r_i2l hX d_Wr_putSizes_50 ?_
            refine q_iload hX 3 d_Wr_putSizes_51 rfl (by first | rfl | assumption) ?_
            refine r_i2l hX d_Wr_putSizes_52 ?_
            refine r_callSN (as := [_]) hX d_Wr_putSizes_53 lk_Wr_51 rfl (Nat.le_of_ble_eq_true rfl) (by decide) 0 0 (Nat.le_refl _) (Nat.le_refl _) (c_EF_shortestVintLength (G := G) _) (fun v w2 hq => ?_)
            obtain ⟨rfl, hw⟩ := hq
            rw [hw]
            refine r_callV (as := [_, _]) hX d_Wr_putSizes_56 lk_Wr_95 hm1.1.1 rfl rfl (Nat.le_of_ble_eq_true rfl) (by decide) 0 0 (Nat.le_refl _) (Nat.le_refl _) (c_Ro_vintL (G := G) hm1.1 (by omega) (by omega) hn _ _ (by have := wr_sv_le (nI (sz i)).toInt64 7 1; omega)) (fun v w3 hq => ?_)
            obtain ⟨rfl, q1⟩ := hq
            refine r_goto hX 103 d_Wr_putSizes_59 (by decide) ?_
            exact step _ _ _ (by rw [ps_1, if_neg c25, if_pos c41, if_pos ((nI_eq (by omega) (by decide)).mp (c45.trans nI_0.symm)), nI_l (by have := (hsz i (by omega)).2; omega)]) (hm1.tr q1) l0 l1 l2
      · refine q_iload hX 3 d_Wr_putSizes_28 rfl (by first | rfl | assumption) ?_
        refine q_aload hX 1 d_Wr_putSizes_29 rfl (by first | rfl | assumption) ?_
        refine r_callS (as := [_, _]) hX d_Wr_putSizes_30 lk_Wr_149 rfl (Nat.le_of_ble_eq_true rfl) (by decide) 0 0 (Nat.le_refl _) (Nat.le_refl _) (c_Wr_putSizeOfBytes (G := G) hm1.1 hab hn (by omega) _ (hsz i (by omega)).2) (fun v w3 hq => ?_)
        obtain ⟨rfl, q1⟩ := hq
        refine r_goto hX 103 d_Wr_putSizes_33 (by decide) ?_
        exact step _ _ _ (by rw [ps_1, if_pos c25]) (hm1.tr q1) l0 l1 l2
  refine r_iconst (v := 0) hX d_Wr_putSizes_0 (by decide) ?_
  refine q_istore hX 2 d_Wr_putSizes_1 rfl (by decide) ?_
  exact loop (am - 1) 0 _ w [] (by omega) (by simp) rfl (ro_more.rf h) rfl rfl rfl
