/-! ===== Reader: sizes, stores, texts ===== -/
theorem nI_dv {a b : Nat} (ha : a < 2 ^ 31) (hb : b < 2 ^ 31) : nI a / nI b = nI (a / b) := by
  have h1 : a / b ≤ a := Nat.div_le_self a b
  apply Int32.toInt_inj.mp
  rw [Int32.toInt_div, nI_toInt ha, nI_toInt hb, nI_toInt (by omega), ← Int.ofNat_tdiv]
  generalize a / b = q at h1 ⊢
  exact Int.bmod_eq_of_le (by omega) (by omega)
theorem el_s_s (E : Ev_E) (x y z u : Int32) : el_s (el_s E x y) z u = el_s E z u := by
  unfold el_s
  simp only [Prod.mk.injEq, true_and]
  funext j
  by_cases z4 : j = 4
  · simp [upd, z4]
  · by_cases z3 : j = 3
    · simp [upd, z3]
    · simp [upd, z4, z3]
theorem nI_ml (a b : Nat) : nI a * nI b = nI (a * b) := (Int32.ofNat_mul a b).symm
theorem nI_md {a b : Nat} (ha : a < 2 ^ 31) (hb : b < 2 ^ 31) : nI a - nI a / nI b * nI b = nI (a % b) := by
  rw [nI_dv ha hb, nI_ml, nI_sb (Nat.div_mul_le_self a b)]
  congr 1
  have := Nat.div_add_mod a b
  rw [Nat.mul_comm] at this
  omega
def sz_b (g : Nat → Nat) : Nat → Nat → Nat → Option (Nat × Nat)
  | 0, _, _ => none
  | k + 1, p, a => if g p < 255 then some (a + g p, p + 1) else sz_b g k (p + 1) (a + g p)
theorem sz_b_le {g : Nat → Nat} : ∀ {k p a : Nat} {r : Nat × Nat}, sz_b g k p a = some r → p < r.2 ∧ r.2 ≤ p + k
  | 0, _, _, _, h => by cases h
  | k + 1, p, a, r, h => by
    unfold sz_b at h
    split at h
    · cases h; exact ⟨Nat.lt_succ_self _, by dsimp only; omega⟩
    · have := sz_b_le h; omega
theorem sz_b_b {g : Nat → Nat} : ∀ {k p a : Nat} {r : Nat × Nat}, (∀ i, i < p + k → g i < 256) → sz_b g k p a = some r → r.1 ≤ a + 256 * k
  | 0, _, _, _, _, h => by cases h
  | k + 1, p, a, r, hg, h => by
    have h0 := hg p (by omega)
    unfold sz_b at h
    split at h
    · cases h; dsimp only; omega
    · have := sz_b_b (fun i hi => hg i (by omega)) h; omega
/-- a reading that fails leaves the reader somewhere before the end -/
def re_no (w w' : Ev_W) (fp : Int32) (ms : Option Nat) (e : Nat) (tg : Int32) (l : List Nat) : Prop := (∃ p' vf' vL', p' ≤ e ∧ is_Re w' fp ms (nI p') (nI e) tg vf' vL') ∧ ev_sm w w' l
def sz_post (w w' : Ev_W) (g : Nat → Nat) (p e : Nat) (fp : Int32) (ms : Option Nat) (tg vf vL : Int32) (v : Option Value) : Prop := match sz_b g (e - p) p 0 with
  | none => v = some (.long (-1)) ∧ re_no w w' fp ms e tg [112]
  | some r => v = some (.long (lN r.1)) ∧ is_Re w' fp ms (nI r.2) (nI e) tg vf vL ∧ ev_sm w w' [112]
theorem c_Re_nextSizeOfBytes {G : Ev_G} {w : Ev_W} {c : Nat} {f : Nat → Int32} (hin : is_Ro w 101 102 640 c f) {g : Nat → Nat} (hg : rd_g c f g) {fp tg vf vL : Int32} {ms : Option Nat} {p e : Nat} (hre : is_Re w fp ms (nI p) (nI e) tg vf vL) (hec : e ≤ c) (hpe : p ≤ e) : ev_Met G M_Re_nextSizeOfBytes 2 0 0 [.ref 112] w (fun v w' => sz_post w w' g p e fp ms tg vf vL v) := by
  have hc := hg.1
  refine ev_Met.of md_Re_nextSizeOfBytes (Nat.le_of_ble_eq_true rfl) (fun X hX hR => ?_)
  have loop : ∀ (k i acc : Nat) (ls : Ev_L) (w1 : Ev_W), i + k = e → sz_b g k i acc = sz_b g (e - p) p 0 → is_Re w1 fp ms (nI i) (nI e) tg vf vL → ev_sm w w1 [112] → ls.1 0 = some (.ref 112) → ls.2 1 = some (lN acc) → ls.1 3 = some (.int (nI i)) → ev_W G M_Re_nextSizeOfBytes X 0 0 7 ls [] w1 := by
    intro k
    induction k with
    | zero =>
      intro i acc ls w1 e1 e2 hr1 hs1 l0 l1 l3
      refine q_iload hX 3 d_Re_nextSizeOfBytes_7 rfl (by first | rfl | assumption) ?_
      refine q_aload hX 0 d_Re_nextSizeOfBytes_8 rfl (by first | rfl | assumption) ?_
      refine r_getf hX d_Re_nextSizeOfBytes_9 fl_Re_57 hr1 rfl ?_
      refine r_icmp_ge hX 43 d_Re_nextSizeOfBytes_12 (by decide) (fun _ => ?_) (fun c12 => absurd (nI_le (by omega) (by omega)) c12)
      refine r_ldc2 hX d_Re_nextSizeOfBytes_43 m_234 ?_
      refine r_lret hX hR d_Re_nextSizeOfBytes_46 rfl ?_
      rw [sz_post, ← e2, sz_b]
      exact ⟨rfl, ⟨i, vf, vL, by omega, hr1⟩, hs1⟩
    | succ k ih =>
      intro i acc ls w1 e1 e2 hr1 hs1 l0 l1 l3
      refine q_iload hX 3 d_Re_nextSizeOfBytes_7 rfl (by first | rfl | assumption) ?_
      refine q_aload hX 0 d_Re_nextSizeOfBytes_8 rfl (by first | rfl | assumption) ?_
      refine r_getf hX d_Re_nextSizeOfBytes_9 fl_Re_57 hr1 rfl ?_
      refine r_icmp_ge hX 43 d_Re_nextSizeOfBytes_12 (by decide) (fun c12 => absurd c12 (nI_ge (by omega) (by omega))) (fun _ => ?_)
      refine q_aload hX 0 d_Re_nextSizeOfBytes_15 rfl (by first | rfl | assumption) ?_
      refine r_callV (as := []) hX d_Re_nextSizeOfBytes_16 lk_Re_160 hr1 rfl rfl (Nat.le_of_ble_eq_true rfl) (by decide) 0 0 (Nat.le_refl _) (Nat.le_refl _) (c_Re_nextByte (G := G) (hin.sm hs1 (by decide) (by decide)) hg hr1 hec (by omega)) (fun v w2 hq => ?_)
      rw [if_pos (show i < e by omega)] at hq
      obtain ⟨rfl, q1, q2⟩ := hq
      have hgi := (hg.2 i (by omega)).2
      refine r_istore hX d_Re_nextSizeOfBytes_19 (by decide) ?_
      refine q_lload hX 1 d_Re_nextSizeOfBytes_21 rfl (by first | rfl | assumption) ?_
      refine r_iload hX d_Re_nextSizeOfBytes_22 (by first | rfl | assumption) ?_
      refine r_i2l hX d_Re_nextSizeOfBytes_24 ?_
      refine r_ladd hX d_Re_nextSizeOfBytes_25 ?_
      rw [nI_l (by omega), lN_add]
      refine q_lstore hX 1 d_Re_nextSizeOfBytes_26 rfl (by decide) ?_
      refine r_iload hX d_Re_nextSizeOfBytes_27 (by first | rfl | assumption) ?_
      refine r_sipush (v := 255) hX d_Re_nextSizeOfBytes_29 (by decide) ?_
      refine r_icmp_ge hX 37 d_Re_nextSizeOfBytes_32 (by decide) (fun c32 => ?_) (fun c32 => ?_)
      · refine r_iinc hX d_Re_nextSizeOfBytes_37 (by first | rfl | assumption) ?_
        refine r_goto hX 7 d_Re_nextSizeOfBytes_40 (by decide) ?_
        exact ih (i + 1) (acc + g i) _ w2 (by omega) (by rw [← e2, sz_b, if_neg (fun z => (nI_ge (a := g i) (b := 255) z (by decide)) c32)]) q1 (hs1.tr q2) l0 rfl (by show some (Value.int (nI i + Int32.ofInt 1)) = _; rw [show Int32.ofInt 1 = 1 from rfl, nI_1])
      · refine q_lload hX 1 d_Re_nextSizeOfBytes_35 rfl (by first | rfl | assumption) ?_
        refine r_lret hX hR d_Re_nextSizeOfBytes_36 rfl ?_
        rw [sz_post, ← e2, sz_b, if_pos (show g i < 255 by have := (nI_leI (a := 255) (b := g i) (by decide) (by omega)); exact Nat.lt_of_not_le (fun z => c32 (this.mpr z)))]
        exact ⟨rfl, q1, hs1.tr q2⟩
  refine r_lconst (v := 0) hX d_Re_nextSizeOfBytes_0 (by decide) ?_
  refine q_lstore hX 1 d_Re_nextSizeOfBytes_1 rfl (by decide) ?_
  refine q_aload hX 0 d_Re_nextSizeOfBytes_2 rfl (by first | rfl | assumption) ?_
  refine r_getf hX d_Re_nextSizeOfBytes_3 fl_Re_32 hre rfl ?_
  refine q_istore hX 3 d_Re_nextSizeOfBytes_6 rfl (by decide) ?_
  exact loop (e - p) p 0 _ w (by omega) rfl hre ev_sm.rf rfl rfl rfl
theorem fr_s1 (sd i : Nat) (hb sf : Nat → Int32) : upd (fr_s sd i hb sf) (sd + i) (hb i) = fr_s sd (i + 1) hb sf := by
  funext j
  unfold upd fr_s
  by_cases z : j = sd + i
  · subst z; rw [if_pos rfl, if_pos (by omega), show sd + i - sd = i by omega]
  · rw [if_neg z]
    by_cases z2 : sd ≤ j ∧ j < sd + i
    · rw [if_pos z2, if_pos (by omega)]
    · rw [if_neg z2, if_neg (by omega)]
theorem fr_s0 (sd : Nat) (hb sf : Nat → Int32) : fr_s sd 0 hb sf = sf := by funext j; unfold fr_s; rw [if_neg (by omega)]
theorem c_Re_storeRest {G : Ev_G} {w : Ev_W} {c : Nat} {f : Nat → Int32} (hin : is_Ro w 101 102 640 c f) {g : Nat → Nat} (hg : rd_g c f g) {fp tg vf vL : Int32} {ms : Option Nat} {p e : Nat} (hre : is_Re w fp ms (nI p) (nI e) tg vf vL) (hec : e ≤ c) (hpe : p ≤ e) {n sd : Nat} {L As : Nat → Option Nat} {sf : Nat → Int32} (htr : is_Tr w n L As sf sd) (hn : n ≤ 60) (hsd : sd + (e - p) ≤ 1200) {a : Nat} {E : Ev_E} (hE : w.2 a = some (el_C a E)) (ha : 139 ≤ a) : ev_Met G M_Re_storeRest 1 0 0 [.ref 112, .ref a] w (fun v w' => v = none ∧ is_Tr w' n L As (fr_s sd (e - p) (fun i => nI (g (p + i))) sf) (sd + (e - p)) ∧ w'.2 a = some (el_C a (el_s E (nI sd) (nI (e - p)))) ∧ ev_sm w w' [108, 111, a]) := by
  have hc := hg.1
  unfold is_Re at hre
  refine ev_Met.of md_Re_storeRest (Nat.le_of_ble_eq_true rfl) (fun X hX hR => ?_)
  have loop : ∀ (k i : Nat) (ls : Ev_L) (w1 : Ev_W), i + k = e - p → is_Tr w1 n L As (fr_s sd i (fun i => nI (g (p + i))) sf) (sd + i) → w1.2 a = some (el_C a (el_s E (nI sd) (nI i))) → ev_sm w w1 [108, 111, a] → ls.1 0 = some (.ref 112) → ls.1 1 = some (.ref a) → ls.1 2 = some (.int (nI (p + i))) → ev_W G M_Re_storeRest X 0 0 13 ls [] w1 := by
    intro k
    induction k with
    | zero =>
      intro i ls w1 e1 ht1 hE1 hs1 l0 l1 l2
      have hr1 := (hs1.2 112 (by simp; omega)).trans hre
      have hi : i = e - p := by omega
      subst hi
      refine q_iload hX 2 d_Re_storeRest_13 rfl (by first | rfl | assumption) ?_
      refine q_aload hX 0 d_Re_storeRest_14 rfl (by first | rfl | assumption) ?_
      refine r_getf hX d_Re_storeRest_15 fl_Re_57 hr1 rfl ?_
      refine r_icmp_ge hX 43 d_Re_storeRest_18 (by decide) (fun _ => ?_) (fun c18 => absurd (nI_le (by omega) (by omega)) c18)
      refine r_vret hX hR d_Re_storeRest_43 rfl ?_
      exact ⟨rfl, ht1, hE1, hs1⟩
    | succ k ih =>
      intro i ls w1 e1 ht1 hE1 hs1 l0 l1 l2
      have hr1 := (hs1.2 112 (by simp; omega)).trans hre
      have hin1 := hin.sm hs1 (by simp; omega) (by simp; omega)
      refine q_iload hX 2 d_Re_storeRest_13 rfl (by first | rfl | assumption) ?_
      refine q_aload hX 0 d_Re_storeRest_14 rfl (by first | rfl | assumption) ?_
      refine r_getf hX d_Re_storeRest_15 fl_Re_57 hr1 rfl ?_
      refine r_icmp_ge hX 43 d_Re_storeRest_18 (by decide) (fun c18 => absurd c18 (nI_ge (by omega) (by omega))) (fun _ => ?_)
      refine q_aload hX 0 d_Re_storeRest_21 rfl (by first | rfl | assumption) ?_
      refine r_getf hX d_Re_storeRest_22 fl_Re_19 hr1 rfl ?_
      refine q_aload hX 1 d_Re_storeRest_25 rfl (by first | rfl | assumption) ?_
      refine q_aload hX 0 d_Re_storeRest_26 rfl (by first | rfl | assumption) ?_
      refine r_getf hX d_Re_storeRest_27 fl_Re_15 hr1 rfl ?_
      refine q_iload hX 2 d_Re_storeRest_30 rfl (by first | rfl | assumption) ?_
      refine r_callV (as := [_]) hX d_Re_storeRest_31 lk_Re_58 hin1.1 rfl rfl (Nat.le_of_ble_eq_true rfl) (by decide) 0 0 (Nat.le_refl _) (Nat.le_refl _) (c_Ro_at (G := G) hin1 (by omega) (by decide) (nI (p + i))) (fun v w2 hq => ?_)
      obtain ⟨rfl, hw⟩ := hq
      rw [hw, rd_at hg (by omega)]
      refine r_callV (as := [_, _]) hX d_Re_storeRest_34 lk_Re_187 ht1.1 rfl rfl (Nat.le_of_ble_eq_true rfl) (by decide) 0 0 (Nat.le_refl _) (Nat.le_refl _) (c_Tr_storeFor (G := G) ht1 hn (by omega) hE1 ha (by omega) _) (fun v w3 hq => ?_)
      obtain ⟨rfl, q1, q2, q3⟩ := hq
      refine r_iinc hX d_Re_storeRest_37 (by first | rfl | assumption) ?_
      refine r_goto hX 13 d_Re_storeRest_40 (by decide) ?_
      refine ih (i + 1) _ w3 (by omega) ?_ ?_ (hs1.tr q3) l0 l1 (by show some (Value.int (nI (p + i) + Int32.ofInt 1)) = _; rw [show Int32.ofInt 1 = 1 from rfl, nI_1]; rfl)
      · rw [← fr_s1]; exact q1
      · rw [q2, show (el_s E (nI sd) (nI i)).2.2.2 3 = nI sd from rfl, show (el_s E (nI sd) (nI i)).2.2.2 4 + 1 = nI (i + 1) from nI_1 i]
        rw [el_s_s]
  refine q_aload hX 0 d_Re_storeRest_0 rfl (by first | rfl | assumption) ?_
  refine r_getf hX d_Re_storeRest_1 fl_Re_19 hre rfl ?_
  refine q_aload hX 1 d_Re_storeRest_4 rfl (by first | rfl | assumption) ?_
  refine r_callV (as := [_]) hX d_Re_storeRest_5 lk_Re_184 htr.1 rfl rfl (Nat.le_of_ble_eq_true rfl) (by decide) 0 0 (Nat.le_refl _) (Nat.le_refl _) (c_Tr_beginStoring (G := G) htr hn (by omega) hE (by omega)) (fun v w1 hq => ?_)
  obtain ⟨rfl, q1, q2⟩ := hq
  refine q_aload hX 0 d_Re_storeRest_8 rfl (by first | rfl | assumption) ?_
  refine r_getf hX d_Re_storeRest_9 fl_Re_32 ((q2.2 112 (by simp; omega)).trans hre) rfl ?_
  refine q_istore hX 2 d_Re_storeRest_12 rfl (by decide) ?_
  exact loop (e - p) 0 _ w1 (by omega) (by rw [fr_s0]; exact ⟨(q2.2 108 (by simp; omega)).trans htr.1, (q2.2 109 (by simp; omega)).trans htr.2.1, (q2.2 110 (by simp; omega)).trans htr.2.2.1, (q2.2 111 (by simp; omega)).trans htr.2.2.2⟩) q1 (q2.up (by simp)) rfl rfl rfl
/-- an element whose parts are these -/
def pa_f (l : List Nat) (pf : Nat → Int32) : Nat → Int32 := fun j => if j < l.length then nI (l.getD j 0) else pf j
theorem pa_1 (l : List Nat) (x : Nat) (pf : Nat → Int32) : upd (pa_f l pf) l.length (nI x) = pa_f (l ++ [x]) pf := by
  funext j
  unfold upd pa_f
  rw [List.length_append, List.length_singleton]
  by_cases z : j = l.length
  · subst z; rw [if_pos rfl, if_pos (by omega), gd_r]
  · rw [if_neg z]
    by_cases z2 : j < l.length
    · rw [if_pos z2, if_pos (by omega), gd_l z2]
    · rw [if_neg z2, if_neg (by omega)]
theorem am_1 (E : Ev_E) (n : Nat) : el_a (el_am E (lN n)) = el_am E (lN (n + 1)) := by unfold el_a el_am; rw [lN_1]
def is_pa (w : Ev_W) (a : Nat) (E : Ev_E) (pf : Nat → Int32) (l : List Nat) : Prop := w.2 a = some (el_C a (el_am E (lN l.length))) ∧ w.2 (a + 1) = some (.inl (0, 16, .inl (pa_f l pf)))
theorem is_pa.sm {w w' : Ev_W} {a : Nat} {E : Ev_E} {pf : Nat → Int32} {l : List Nat} {k : List Nat} (h : is_pa w a E pf l) (hs : ev_sm w w' k) (h1 : a ∉ k) (h2 : a + 1 ∉ k) : is_pa w' a E pf l := ⟨(hs.2 _ h1).trans h.1, (hs.2 _ h2).trans h.2⟩
theorem is_pa.st {w : Ev_W} {a : Nat} {E : Ev_E} {pf : Nat → Int32} (hE : w.2 a = some (el_C a E)) (hp : w.2 (a + 1) = some (.inl (0, 16, .inl pf))) (h0 : E.2.2.1 = 0) : is_pa w a E pf [] := by
  refine ⟨?_, ?_⟩
  · rw [hE]; unfold el_am; rw [show lN ([] : List Nat).length = 0 from rfl, ← h0]
  · rw [hp]; rfl
theorem c_El_addPartL {G : Ev_G} {w : Ev_W} {a : Nat} {E : Ev_E} {pf : Nat → Int32} {l : List Nat} (h : is_pa w a E pf l) (ha : 100 ≤ a) (hl : l.length < 16) (x : Nat) : ev_Met G M_El_addPart 0 0 0 [.ref a, .int (nI x)] w (fun v w' => v = some (.int 1) ∧ is_pa w' a E pf (l ++ [x]) ∧ ev_sm w w' [a, a + 1]) := by
  refine (c_El_addPart h.1 h.2 ha (by omega) (n := l.length) rfl (nI x)).mono (fun v w' q => ?_)
  rw [if_pos hl] at q
  refine ⟨q.1, ⟨?_, ?_⟩, q.2.2.2⟩
  · rw [q.2.1, am_1, List.length_append]; rfl
  · rw [q.2.2.1, pa_1]
theorem c_Re_shareEvenly {G : Ev_G} {w : Ev_W} {fp tg vf vL : Int32} {ms : Option Nat} {p e : Nat} (hre : is_Re w fp ms (nI p) (nI e) tg vf vL) (hec : e ≤ 640) (hpe : p ≤ e) {a : Nat} {E : Ev_E} {pf : Nat → Int32} (hpa : is_pa w a E pf []) (ha : 139 ≤ a) (k : Nat) (hk1 : 1 ≤ k) (hk : k ≤ 8) : ev_Met G M_Re_shareEvenly 1 0 0 [.ref 112, .ref a, .int (nI k)] w (fun v w' => if (e - p) % k = 0 then v = some (.int 1) ∧ is_pa w' a E pf (List.replicate k ((e - p) / k)) ∧ ev_sm w w' [a, a + 1] else v = some (.int 0) ∧ w' = w) := by
  unfold is_Re at hre
  refine ev_Met.of md_Re_shareEvenly (Nat.le_of_ble_eq_true rfl) (fun X hX hR => ?_)
  have hdv : (nI e - nI p) / nI k = nI ((e - p) / k) := by rw [nI_sb hpe, nI_dv (by omega) (by omega)]
  have loop : (e - p) % k = 0 → ∀ (t i : Nat) (ls : Ev_L) (w1 : Ev_W), i + t = k → is_pa w1 a E pf (List.replicate i ((e - p) / k)) → ev_sm w w1 [a, a + 1] → ls.1 0 = some (.ref 112) → ls.1 1 = some (.ref a) → ls.1 2 = some (.int (nI k)) → ls.1 3 = some (.int (nI i)) → ev_W G M_Re_shareEvenly X 0 0 23 ls [] w1 := by
    intro hz t
    induction t with
    | zero =>
      intro i ls w1 e1 hp1 hs1 l0 l1 l2 l3
      have hi : i = k := by omega
      subst hi
      refine q_iload hX 3 d_Re_shareEvenly_23 rfl (by first | rfl | assumption) ?_
      refine q_iload hX 2 d_Re_shareEvenly_24 rfl (by first | rfl | assumption) ?_
      refine r_icmp_ge hX 50 d_Re_shareEvenly_25 (by decide) (fun _ => ?_) (fun c25 => absurd (nI_le (Nat.le_refl _) (by omega)) c25)
      refine r_iconst (v := 1) hX d_Re_shareEvenly_50 (by decide) ?_
      refine r_iret hX hR d_Re_shareEvenly_51 rfl (by first | rfl | assumption) ?_
      rw [if_pos hz]
      exact ⟨rfl, hp1, hs1⟩
    | succ t ih =>
      intro i ls w1 e1 hp1 hs1 l0 l1 l2 l3
      have hr1 := (hs1.2 112 (by simp; omega)).trans hre
      refine q_iload hX 3 d_Re_shareEvenly_23 rfl (by first | rfl | assumption) ?_
      refine q_iload hX 2 d_Re_shareEvenly_24 rfl (by first | rfl | assumption) ?_
      refine r_icmp_ge hX 50 d_Re_shareEvenly_25 (by decide) (fun c25 => absurd c25 (nI_ge (by omega) (by omega))) (fun _ => ?_)
      refine q_aload hX 1 d_Re_shareEvenly_28 rfl (by first | rfl | assumption) ?_
      refine q_aload hX 0 d_Re_shareEvenly_29 rfl (by first | rfl | assumption) ?_
      refine r_getf hX d_Re_shareEvenly_30 fl_Re_57 hr1 rfl ?_
      refine q_aload hX 0 d_Re_shareEvenly_33 rfl (by first | rfl | assumption) ?_
      refine r_getf hX d_Re_shareEvenly_34 fl_Re_32 hr1 rfl ?_
      refine r_isub hX d_Re_shareEvenly_37 ?_
      refine q_iload hX 2 d_Re_shareEvenly_38 rfl (by first | rfl | assumption) ?_
      refine r_idiv hX d_Re_shareEvenly_39 (fun z => nI_ne0 (by omega) (by omega) z) ?_
      rw [hdv]
      refine r_callV (as := [_]) hX d_Re_shareEvenly_40 lk_Re_152 hp1.1 rfl rfl (Nat.le_of_ble_eq_true rfl) (by decide) 0 0 (Nat.le_refl _) (Nat.le_refl _) (c_El_addPartL (G := G) hp1 (by omega) (by rw [List.length_replicate]; omega) _) (fun v w3 hq => ?_)
      obtain ⟨rfl, q1, q2⟩ := hq
      refine r_pop hX d_Re_shareEvenly_43 rfl ?_
      refine r_iinc hX d_Re_shareEvenly_44 (by first | rfl | assumption) ?_
      refine r_goto hX 23 d_Re_shareEvenly_47 (by decide) ?_
      exact ih (i + 1) _ w3 (by omega) (by rw [List.replicate_succ']; exact q1) (hs1.tr q2) l0 l1 l2 (by show some (Value.int (nI i + Int32.ofInt 1)) = _; rw [show Int32.ofInt 1 = 1 from rfl, nI_1])
  refine q_iload hX 2 d_Re_shareEvenly_0 rfl (by first | rfl | assumption) ?_
  refine r_iconst (v := 1) hX d_Re_shareEvenly_1 (by decide) ?_
  refine r_icmp_lt hX 19 d_Re_shareEvenly_2 (by decide) (fun c2 => absurd c2 (nI_nlt (a := k) (b := 1) hk1 (by omega))) (fun _ => ?_)
  refine q_aload hX 0 d_Re_shareEvenly_5 rfl (by first | rfl | assumption) ?_
  refine r_getf hX d_Re_shareEvenly_6 fl_Re_57 hre rfl ?_
  refine q_aload hX 0 d_Re_shareEvenly_9 rfl (by first | rfl | assumption) ?_
  refine r_getf hX d_Re_shareEvenly_10 fl_Re_32 hre rfl ?_
  refine r_isub hX d_Re_shareEvenly_13 ?_
  refine q_iload hX 2 d_Re_shareEvenly_14 rfl (by first | rfl | assumption) ?_
  refine r_irem hX d_Re_shareEvenly_15 (fun z => nI_ne0 (by omega) (by omega) z) ?_
  rw [nI_sb hpe, nI_md (by omega) (by omega)]
  refine r_if_eq hX 21 d_Re_shareEvenly_16 (by decide) (fun c16 => ?_) (fun c16 => ?_)
  · have hz : (e - p) % k = 0 := (nI_eq (by have := Nat.mod_lt (e - p) (show k > 0 by omega); omega) (by decide)).mp (c16.trans nI_0.symm)
    refine r_iconst (v := 0) hX d_Re_shareEvenly_21 (by decide) ?_
    refine q_istore hX 3 d_Re_shareEvenly_22 rfl (by decide) ?_
    exact loop hz k 0 _ w (by omega) hpa ev_sm.rf rfl rfl rfl rfl
  · refine r_iconst (v := 0) hX d_Re_shareEvenly_19 (by decide) ?_
    refine r_iret hX hR d_Re_shareEvenly_20 rfl (by first | rfl | assumption) ?_
    rw [if_neg (fun z => c16 (by rw [z]; rfl))]
    exact ⟨rfl, rfl⟩
