/-! ===== Writer: bytes as lists ===== -/
def ro_bs (n : Nat) : List Int32 → (Nat → Int32) → Nat → (Nat → Int32)
  | [], f, _ => f
  | x :: t, f, c => ro_bs n t (ro_p1 n f c x) (c + 1)
theorem ro_bs_app (n : Nat) : ∀ (a b : List Int32) (f : Nat → Int32) (c : Nat), ro_bs n (a ++ b) f c = ro_bs n b (ro_bs n a f c) (c + a.length)
  | [], b, f, c => rfl
  | x :: t, b, f, c => by
    show ro_bs n (t ++ b) _ (c + 1) = _
    rw [ro_bs_app n t b, show c + 1 + t.length = c + (x :: t).length by simp; omega]; rfl
def nm_L (x : Int64) : Nat → List Int32
  | 0 => []
  | k + 1 => ro_bt x k :: nm_L x k
theorem nm_len (x : Int64) : ∀ k, (nm_L x k).length = k
  | 0 => rfl
  | k + 1 => by simp [nm_L, nm_len x k]
theorem nm_bs (n : Nat) (x : Int64) : ∀ (k : Nat) (f : Nat → Int32) (c : Nat), ro_num n x k f c = ro_bs n (nm_L x k) f c
  | 0, f, c => rfl
  | k + 1, f, c => nm_bs n x k _ _
/-- a row, with bytes more -/
def ro_more (w w' : Ev_W) (a b n c : Nat) (f : Nat → Int32) (bs : List Int32) : Prop := is_Ro w' a b n (c + bs.length) (ro_bs n bs f c) ∧ ev_sm w w' [a, b]
theorem ro_more.rf {w : Ev_W} {a b n c : Nat} {f : Nat → Int32} (h : is_Ro w a b n c f) : ro_more w w a b n c f [] := ⟨h, ev_sm.rf⟩
theorem ro_more.tr {w w1 w2 : Ev_W} {a b n c : Nat} {f : Nat → Int32} {x y : List Int32} (h : ro_more w w1 a b n c f x) (k : ro_more w1 w2 a b n (c + x.length) (ro_bs n x f c) y) : ro_more w w2 a b n c f (x ++ y) := ⟨by rw [ro_bs_app, List.length_append, ← Nat.add_assoc]; exact k.1, h.2.tr k.2⟩
theorem c_Ro_putL {G : Ev_G} {w : Ev_W} {a b n c : Nat} {f : Nat → Int32} (h : is_Ro w a b n c f) (ha : 100 ≤ a) (hb : 100 ≤ b) (hc : c < 2 ^ 31) (hn : n < 2 ^ 31) (x : Int32) : ev_Met G M_Ro_put 0 0 0 [.ref a, .int x] w (fun v w' => v = none ∧ ro_more w w' a b n c f [x]) := (c_Ro_put h ha hb hc hn x).mono (fun v w' q => ⟨q.1, q.2.1, q.2.2⟩)
theorem c_Ro_numL {G : Ev_G} {w : Ev_W} {a b n c : Nat} {f : Nat → Int32} (h : is_Ro w a b n c f) (ha : 100 ≤ a) (hb : 100 ≤ b) (hn : n < 2 ^ 31) (x : Int64) (k : Nat) (hk : c + k < 2 ^ 31) : ev_Met G M_Ro_putNumber 1 0 0 [.ref a, .long x, .int (nI k)] w (fun v w' => v = none ∧ ro_more w w' a b n c f (nm_L x k)) := (c_Ro_putNumber h ha hb hn x k hk).mono (fun v w' q => ⟨q.1, by rw [nm_len, ← nm_bs]; exact q.2.1, q.2.2⟩)
def vn_L (x : Int64) (k : Nat) : List Int32 := nm_L ((ef_allOnes (nI k) + 1) ||| x) k
theorem c_Ro_vintL {G : Ev_G} {w : Ev_W} {a b n c : Nat} {f : Nat → Int32} (h : is_Ro w a b n c f) (ha : 100 ≤ a) (hb : 100 ≤ b) (hn : n < 2 ^ 31) (x : Int64) (k : Nat) (hk : c + k < 2 ^ 31) : ev_Met G M_Ro_putVint 2 0 0 [.ref a, .long x, .int (nI k)] w (fun v w' => v = none ∧ ro_more w w' a b n c f (vn_L x k)) := (c_Ro_putVint h ha hb hn x k hk).mono (fun v w' q => ⟨q.1, by rw [vn_L, nm_len, ← nm_bs]; exact q.2.1, q.2.2⟩)
def wr_sh (x : Int64) (i : Nat) : Int64 := (x.toUInt64 >>> ((8 * nI i).toInt64.toUInt64 &&& Int64.toUInt64 63)).toInt64
def wr_fb (x : Int64) : Nat → Nat → Nat
  | 0, i => i
  | f + 1, i => if wr_sh x i = 0 then i else wr_fb x f (i + 1)
def wr_sv (x : Int64) : Nat → Nat → Nat
  | 0, i => i
  | f + 1, i => if x.toInt < (ef_allOnes (nI i)).toInt then i else wr_sv x f (i + 1)
def wr_ab (d : Int32) : Int32 := if 0 ≤ d then d else 0 - d
def wr_sd (d : Int32) : Nat → Nat → Nat
  | 0, i => i
  | f + 1, i => if (wr_ab d).toInt64.toInt ≤ (ef_surplus (nI i)).toInt then i else wr_sd d f (i + 1)
theorem wr_fb_le (x : Int64) : ∀ f i, wr_fb x f i ≤ i + f
  | 0, i => Nat.le_refl _
  | f + 1, i => by unfold wr_fb; have := wr_fb_le x f (i + 1); split <;> omega
theorem wr_sv_le (x : Int64) : ∀ f i, wr_sv x f i ≤ i + f
  | 0, i => Nat.le_refl _
  | f + 1, i => by unfold wr_sv; have := wr_sv_le x f (i + 1); split <;> omega
theorem wr_sd_le (x : Int32) : ∀ f i, wr_sd x f i ≤ i + f
  | 0, i => Nat.le_refl _
  | f + 1, i => by unfold wr_sd; have := wr_sd_le x f (i + 1); split <;> omega
theorem c_Wr_fewestBytes {G : Ev_G} {w : Ev_W} (x : Int64) : ev_Met G M_Wr_fewestBytes 0 0 0 [.long x] w (fun v w' => v = some (.int (nI (wr_fb x 7 1))) ∧ w' = w) := by
  refine ev_Met.of md_Wr_fewestBytes (Nat.le_of_ble_eq_true rfl) (fun X hX hR => ?_)
  have loop : ∀ (f i : Nat) (ls : Ev_L), i + f = 8 → wr_fb x f i = wr_fb x 7 1 → ls.2 0 = some x → ls.1 2 = some (.int (nI i)) → ev_W G M_Wr_fewestBytes X 0 0 2 ls [] w := by
    intro f
    induction f with
    | zero =>
      intro i ls e1 e2 l0 l2
      have hi : i = 8 := by omega
      subst hi
      refine q_iload hX 2 d_Wr_fewestBytes_2 rfl (by first | rfl | assumption) ?_
      refine r_bipush (v := 8) hX d_Wr_fewestBytes_3 (by decide) ?_
      refine r_icmp_ge hX 25 d_Wr_fewestBytes_5 (by decide) (fun _ => ?_) (fun c5 => absurd (by decide) c5)
      refine q_iload hX 2 d_Wr_fewestBytes_25 rfl (by first | rfl | assumption) ?_
      refine r_iret hX hR d_Wr_fewestBytes_26 rfl (by first | rfl | assumption) ?_
      exact ⟨by rw [← e2]; rfl, rfl⟩
    | succ f ih =>
      intro i ls e1 e2 l0 l2
      refine q_iload hX 2 d_Wr_fewestBytes_2 rfl (by first | rfl | assumption) ?_
      refine r_bipush (v := 8) hX d_Wr_fewestBytes_3 (by decide) ?_
      refine r_icmp_ge hX 25 d_Wr_fewestBytes_5 (by decide) (fun c5 => absurd c5 (nI_ge (a := i) (b := 8) (by omega) (by decide))) (fun _ => ?_)
      refine q_lload hX 0 d_Wr_fewestBytes_8 rfl (by first | rfl | assumption) ?_
      refine r_bipush (v := 8) hX d_Wr_fewestBytes_9 (by decide) ?_
      refine q_iload hX 2 d_Wr_fewestBytes_11 rfl (by first | rfl | assumption) ?_
      refine r_imul hX d_Wr_fewestBytes_12 ?_
      refine r_lushr hX d_Wr_fewestBytes_13 ?_
      refine r_lconst (v := 0) hX d_Wr_fewestBytes_14 (by decide) ?_
      refine r_lcmp hX d_Wr_fewestBytes_15 ?_
      refine r_if_eq hX 25 d_Wr_fewestBytes_16 (by decide) (fun c16 => ?_) (fun c16 => ?_)
      · refine q_iload hX 2 d_Wr_fewestBytes_25 rfl (by first | rfl | assumption) ?_
        refine r_iret hX hR d_Wr_fewestBytes_26 rfl (by first | rfl | assumption) ?_
        exact ⟨by rw [← e2, wr_fb, if_pos (show wr_sh x i = 0 from l_eq0.mp c16)], rfl⟩
      · refine r_iinc hX d_Wr_fewestBytes_19 (by first | rfl | assumption) ?_
        refine r_goto hX 2 d_Wr_fewestBytes_22 (by decide) ?_
        exact ih (i + 1) _ (by omega) (by rw [← e2, wr_fb, if_neg (fun z : wr_sh x i = 0 => c16 (l_eq0.mpr z))]) l0 (by show some (Value.int (nI i + Int32.ofInt 1)) = _; rw [show Int32.ofInt 1 = 1 from rfl, nI_1])
  refine r_iconst (v := 1) hX d_Wr_fewestBytes_0 (by decide) ?_
  refine q_istore hX 2 d_Wr_fewestBytes_1 rfl (by decide) ?_
  exact loop 7 1 _ rfl rfl rfl rfl
theorem c_EF_shortestVintLength {G : Ev_G} {w : Ev_W} (x : Int64) : ev_Met G M_EF_shortestVintLength 1 0 0 [.long x] w (fun v w' => v = some (.int (nI (wr_sv x 7 1))) ∧ w' = w) := by
  refine ev_Met.of md_EF_shortestVintLength (Nat.le_of_ble_eq_true rfl) (fun X hX hR => ?_)
  have loop : ∀ (f i : Nat) (ls : Ev_L), i + f = 8 → wr_sv x f i = wr_sv x 7 1 → ls.2 0 = some x → ls.1 2 = some (.int (nI i)) → ev_W G M_EF_shortestVintLength X 0 0 2 ls [] w := by
    intro f
    induction f with
    | zero =>
      intro i ls e1 e2 l0 l2
      have hi : i = 8 := by omega
      subst hi
      refine q_iload hX 2 d_EF_shortestVintLength_2 rfl (by first | rfl | assumption) ?_
      refine r_bipush (v := 8) hX d_EF_shortestVintLength_3 (by decide) ?_
      refine r_icmp_ge hX 23 d_EF_shortestVintLength_5 (by decide) (fun _ => ?_) (fun c5 => absurd (by decide) c5)
      refine q_iload hX 2 d_EF_shortestVintLength_23 rfl (by first | rfl | assumption) ?_
      refine r_iret hX hR d_EF_shortestVintLength_24 rfl (by first | rfl | assumption) ?_
      exact ⟨by rw [← e2]; rfl, rfl⟩
    | succ f ih =>
      intro i ls e1 e2 l0 l2
      refine q_iload hX 2 d_EF_shortestVintLength_2 rfl (by first | rfl | assumption) ?_
      refine r_bipush (v := 8) hX d_EF_shortestVintLength_3 (by decide) ?_
      refine r_icmp_ge hX 23 d_EF_shortestVintLength_5 (by decide) (fun c5 => absurd c5 (nI_ge (a := i) (b := 8) (by omega) (by decide))) (fun _ => ?_)
      refine q_lload hX 0 d_EF_shortestVintLength_8 rfl (by first | rfl | assumption) ?_
      refine q_iload hX 2 d_EF_shortestVintLength_9 rfl (by first | rfl | assumption) ?_
      refine r_callS (as := [_]) hX d_EF_shortestVintLength_10 lk_EF_229 rfl (Nat.le_of_ble_eq_true rfl) (by decide) 0 0 (Nat.le_refl _) (Nat.le_refl _) (c_EF_allOnes (G := G) _) (fun v w1 hq => ?_)
      obtain ⟨rfl, hw⟩ := hq
      rw [hw]
      refine r_lcmp hX d_EF_shortestVintLength_13 ?_
      refine r_if_lt hX 23 d_EF_shortestVintLength_14 (by decide) (fun c14 => ?_) (fun c14 => ?_)
      · refine q_iload hX 2 d_EF_shortestVintLength_23 rfl (by first | rfl | assumption) ?_
        refine r_iret hX hR d_EF_shortestVintLength_24 rfl (by first | rfl | assumption) ?_
        exact ⟨by rw [← e2, wr_sv, if_pos (l_lt0.mp c14)], rfl⟩
      · refine r_iinc hX d_EF_shortestVintLength_17 (by first | rfl | assumption) ?_
        refine r_goto hX 2 d_EF_shortestVintLength_20 (by decide) ?_
        exact ih (i + 1) _ (by omega) (by rw [← e2, wr_sv, if_neg (fun z => c14 (l_lt0.mpr z))]) l0 (by show some (Value.int (nI i + Int32.ofInt 1)) = _; rw [show Int32.ofInt 1 = 1 from rfl, nI_1])
  refine r_iconst (v := 1) hX d_EF_shortestVintLength_0 (by decide) ?_
  refine q_istore hX 2 d_EF_shortestVintLength_1 rfl (by decide) ?_
  exact loop 7 1 _ rfl rfl rfl rfl
theorem c_Wr_shortestDifferenceLength {G : Ev_G} {w : Ev_W} (x : Int32) : ev_Met G M_Wr_shortestDifferenceLength 1 0 0 [.int x] w (fun v w' => v = some (.int (nI (wr_sd x 7 1))) ∧ w' = w) := by
  refine ev_Met.of md_Wr_shortestDifferenceLength (Nat.le_of_ble_eq_true rfl) (fun X hX hR => ?_)
  have loop : ∀ (f i : Nat) (ls : Ev_L), i + f = 8 → wr_sd x f i = wr_sd x 7 1 → ls.1 0 = some (.int x) → ls.1 1 = some (.int (nI i)) → ev_W G M_Wr_shortestDifferenceLength X 0 0 2 ls [] w := by
    intro f
    induction f with
    | zero =>
      intro i ls e1 e2 l0 l2
      have hi : i = 8 := by omega
      subst hi
      refine q_iload hX 1 d_Wr_shortestDifferenceLength_2 rfl (by first | rfl | assumption) ?_
      refine r_bipush (v := 8) hX d_Wr_shortestDifferenceLength_3 (by decide) ?_
      refine r_icmp_ge hX 27 d_Wr_shortestDifferenceLength_5 (by decide) (fun _ => ?_) (fun c5 => absurd (by decide) c5)
      refine q_iload hX 1 d_Wr_shortestDifferenceLength_27 rfl (by first | rfl | assumption) ?_
      refine r_iret hX hR d_Wr_shortestDifferenceLength_28 rfl (by first | rfl | assumption) ?_
      exact ⟨by rw [← e2]; rfl, rfl⟩
    | succ f ih =>
      intro i ls e1 e2 l0 l2
      refine q_iload hX 1 d_Wr_shortestDifferenceLength_2 rfl (by first | rfl | assumption) ?_
      refine r_bipush (v := 8) hX d_Wr_shortestDifferenceLength_3 (by decide) ?_
      refine r_icmp_ge hX 27 d_Wr_shortestDifferenceLength_5 (by decide) (fun c5 => absurd c5 (nI_ge (a := i) (b := 8) (by omega) (by decide))) (fun _ => ?_)
      refine q_iload hX 0 d_Wr_shortestDifferenceLength_8 rfl (by first | rfl | assumption) ?_
      refine r_mabs hX d_Wr_shortestDifferenceLength_9 m_511 m_512 m_74 m_513 (by decide) (Nat.le_of_ble_eq_true rfl) ?_
      refine r_i2l hX d_Wr_shortestDifferenceLength_12 ?_
      refine q_iload hX 1 d_Wr_shortestDifferenceLength_13 rfl (by first | rfl | assumption) ?_
      refine r_callSN (as := [_]) hX d_Wr_shortestDifferenceLength_14 lk_Wr_156 rfl (Nat.le_of_ble_eq_true rfl) (by decide) 0 0 (Nat.le_refl _) (Nat.le_refl _) (c_EF_surplus (G := G) _) (fun v w1 hq => ?_)
      obtain ⟨rfl, hw⟩ := hq
      rw [hw]
      refine r_lcmp hX d_Wr_shortestDifferenceLength_17 ?_
      refine r_if_le hX 27 d_Wr_shortestDifferenceLength_18 (by decide) (fun c18 => ?_) (fun c18 => ?_)
      · refine q_iload hX 1 d_Wr_shortestDifferenceLength_27 rfl (by first | rfl | assumption) ?_
        refine r_iret hX hR d_Wr_shortestDifferenceLength_28 rfl (by first | rfl | assumption) ?_
        exact ⟨by rw [← e2, wr_sd, if_pos (show (wr_ab x).toInt64.toInt ≤ (ef_surplus (nI i)).toInt from l_le0.mp c18)], rfl⟩
      · refine r_iinc hX d_Wr_shortestDifferenceLength_21 (by first | rfl | assumption) ?_
        refine r_goto hX 2 d_Wr_shortestDifferenceLength_24 (by decide) ?_
        exact ih (i + 1) _ (by omega) (by rw [← e2, wr_sd, if_neg (fun z : (wr_ab x).toInt64.toInt ≤ (ef_surplus (nI i)).toInt => c18 (l_le0.mpr z))]) l0 (by show some (Value.int (nI i + Int32.ofInt 1)) = _; rw [show Int32.ofInt 1 = 1 from rfl, nI_1])
  refine r_iconst (v := 1) hX d_Wr_shortestDifferenceLength_0 (by decide) ?_
  refine q_istore hX 1 d_Wr_shortestDifferenceLength_1 rfl (by decide) ?_
  exact loop 7 1 _ rfl rfl rfl rfl
def wr_op (s : Nat) (live : Int32) : Bool := decide (¬ live = 0 ∧ (s = 1 ∨ s = 7))
theorem c_Wr_isOpen {G : Ev_G} {w : Ev_W} {e : Nat} {E : Ev_E} (h : w.2 e = some (el_C e E)) (o2 : E.1 < 17) (live : Int32) : ev_Met G M_Wr_isOpen 0 0 0 [.ref e, .int live] w (fun v w' => v = some (.int (b_i (wr_op E.1 live))) ∧ w' = w) := by
  refine ev_Met.of md_Wr_isOpen (Nat.le_of_ble_eq_true rfl) (fun X hX hR => ?_)
  refine q_iload hX 1 d_Wr_isOpen_0 rfl (by first | rfl | assumption) ?_
  refine r_if_eq hX 28 d_Wr_isOpen_1 (by decide) (fun c1 => ?_) (fun c1 => ?_)
  · refine r_iconst (v := 0) hX d_Wr_isOpen_28 (by decide) ?_
    refine r_iret hX hR d_Wr_isOpen_29 rfl (by first | rfl | assumption) ?_
    exact ⟨by rw [wr_op, decide_eq_false (fun z => z.1 c1)]; rfl, rfl⟩
  · refine q_aload hX 0 d_Wr_isOpen_4 rfl (by first | rfl | assumption) ?_
    refine r_getf hX d_Wr_isOpen_5 fl_Wr_69 (by first | assumption | exact ev_set_self _ _ _ | (simp (disch := first | assumption | decide | omega) only [ev_set_self, ev_set_ne, ev_new_self, ev_new_ne]; first | done | assumption)) rfl ?_
    refine r_getsE (i := 1) hX d_Wr_isOpen_8 (by decide) m_524 ?_
    refine r_acmp_eq (o := some E.1) (u := some 1) hX 24 (by intro r h; cases h; exact Or.inl o2) (by intro r h; cases h; omega) d_Wr_isOpen_11 (by decide) (fun c11 => ?_) (fun c11 => ?_)
    · refine r_iconst (v := 1) hX d_Wr_isOpen_24 (by decide) ?_
      refine r_goto hX 29 d_Wr_isOpen_25 (by decide) ?_
      refine r_iret hX hR d_Wr_isOpen_29 rfl (by first | rfl | assumption) ?_
      exact ⟨by rw [wr_op, decide_eq_true ⟨c1, Or.inl (Option.some.inj c11)⟩]; rfl, rfl⟩
    · refine q_aload hX 0 d_Wr_isOpen_14 rfl (by first | rfl | assumption) ?_
      refine r_getf hX d_Wr_isOpen_15 fl_Wr_69 (by first | assumption | exact ev_set_self _ _ _ | (simp (disch := first | assumption | decide | omega) only [ev_set_self, ev_set_ne, ev_new_self, ev_new_ne]; first | done | assumption)) rfl ?_
      refine r_getsE (i := 7) hX d_Wr_isOpen_18 (by decide) m_525 ?_
      refine r_acmp_ne (o := some E.1) (u := some 7) hX 28 (by intro r h; cases h; exact Or.inl o2) (by intro r h; cases h; omega) d_Wr_isOpen_21 (by decide) (fun c21 => ?_) (fun c21 => ?_)
      · refine r_iconst (v := 0) hX d_Wr_isOpen_28 (by decide) ?_
        refine r_iret hX hR d_Wr_isOpen_29 rfl (by first | rfl | assumption) ?_
        exact ⟨by rw [wr_op, decide_eq_false (fun z => z.2.elim (fun z => c11 (by rw [z])) (fun z => c21 (by rw [z])))]; rfl, rfl⟩
      · refine r_iconst (v := 1) hX d_Wr_isOpen_24 (by decide) ?_
        refine r_goto hX 29 d_Wr_isOpen_25 (by decide) ?_
        refine r_iret hX hR d_Wr_isOpen_29 rfl (by first | rfl | assumption) ?_
        exact ⟨by rw [wr_op, decide_eq_true ⟨c1, Or.inr (Option.some.inj c21)⟩]; rfl, rfl⟩
def pt_L (am : Nat) (pf : Nat → Int32) : Nat → Nat → List Int32
  | 0, _ => []
  | k + 1, i => el_at am pf (nI i) :: pt_L am pf k (i + 1)
theorem pt_len (am : Nat) (pf : Nat → Int32) : ∀ k i, (pt_L am pf k i).length = k
  | 0, _ => rfl
  | k + 1, i => by simp [pt_L, pt_len am pf k (i + 1)]
theorem c_Wr_putText {G : Ev_G} {w : Ev_W} {a b n c : Nat} {f : Nat → Int32} (h : is_Ro w a b n c f) (ha : 100 ≤ a) (hb : 100 ≤ b) (hn : n < 2 ^ 31) {e : Nat} {E : Ev_E} (hE : w.2 e = some (el_C e E)) (hea : e ≠ a) (heb : e ≠ b) {am : Nat} {pf : Nat → Int32} (hp : w.2 (e + 1) = some (.inl (0, 16, .inl pf))) (hpa : e + 1 ≠ a) (hpb : e + 1 ≠ b) (hma : E.2.2.1 = lN am) (hm : am ≤ 16) (hc : c + 16 < 2 ^ 31) : ev_Met G M_Wr_putText 1 0 0 [.ref e, .ref a] w (fun v w' => v = none ∧ ro_more w w' a b n c f (pt_L am pf am 0)) := by
  refine ev_Met.of md_Wr_putText (Nat.le_of_ble_eq_true rfl) (fun X hX hR => ?_)
  have loop : ∀ (k i : Nat) (ls : Ev_L) (w1 : Ev_W) (bs : List Int32), i + k = am → bs.length = i → bs ++ pt_L am pf k i = pt_L am pf am 0 → ro_more w w1 a b n c f bs → ls.1 0 = some (.ref e) → ls.1 1 = some (.ref a) → ls.1 2 = some (.int (nI i)) → ev_W G M_Wr_putText X 0 0 2 ls [] w1 := by
    intro k
    induction k with
    | zero =>
      intro i ls w1 bs e1 e2 e3 hm1 l0 l1 l2
      have hE1 : w1.2 e = some (el_C e E) := by rw [hm1.2.2 e (by simp; exact ⟨hea, heb⟩)]; exact hE
      refine q_iload hX 2 d_Wr_putText_2 rfl (by first | rfl | assumption) ?_
      refine r_i2l hX d_Wr_putText_3 ?_
      refine q_aload hX 0 d_Wr_putText_4 rfl (by first | rfl | assumption) ?_
      refine r_getf hX d_Wr_putText_5 fl_Wr_104 (by first | assumption | exact ev_set_self _ _ _ | (simp (disch := first | assumption | decide | omega) only [ev_set_self, ev_set_ne, ev_new_self, ev_new_ne]; first | done | assumption)) rfl ?_
      refine r_lcmp hX d_Wr_putText_8 ?_
      refine r_if_ge hX 27 d_Wr_putText_9 (by decide) (fun _ => ?_) (fun c9 => absurd (by rw [l_ge0, hma, nI_l (by omega), pk_lT (by omega), pk_lT (by omega)]; omega) c9)
      refine r_vret hX hR d_Wr_putText_27 rfl ?_
      exact ⟨rfl, by rw [← e3]; simpa [pt_L] using hm1⟩
    | succ k ih =>
      intro i ls w1 bs e1 e2 e3 hm1 l0 l1 l2
      have hE1 : w1.2 e = some (el_C e E) := by rw [hm1.2.2 e (by simp; exact ⟨hea, heb⟩)]; exact hE
      have hp1 : w1.2 (e + 1) = some (.inl (0, 16, .inl pf)) := by rw [hm1.2.2 (e + 1) (by simp; exact ⟨hpa, hpb⟩)]; exact hp
      refine q_iload hX 2 d_Wr_putText_2 rfl (by first | rfl | assumption) ?_
      refine r_i2l hX d_Wr_putText_3 ?_
      refine q_aload hX 0 d_Wr_putText_4 rfl (by first | rfl | assumption) ?_
      refine r_getf hX d_Wr_putText_5 fl_Wr_104 (by first | assumption | exact ev_set_self _ _ _ | (simp (disch := first | assumption | decide | omega) only [ev_set_self, ev_set_ne, ev_new_self, ev_new_ne]; first | done | assumption)) rfl ?_
      refine r_lcmp hX d_Wr_putText_8 ?_
      refine r_if_ge hX 27 d_Wr_putText_9 (by decide) (fun c9 => absurd c9 (by rw [l_ge0, hma, nI_l (by omega), pk_lT (by omega), pk_lT (by omega)]; omega)) (fun _ => ?_)
      refine q_aload hX 1 d_Wr_putText_12 rfl (by first | rfl | assumption) ?_
      refine q_aload hX 0 d_Wr_putText_13 rfl (by first | rfl | assumption) ?_
      refine q_iload hX 2 d_Wr_putText_14 rfl (by first | rfl | assumption) ?_
      refine r_callV (as := [_]) hX d_Wr_putText_15 lk_Wr_123 hE1 rfl rfl (Nat.le_of_ble_eq_true rfl) (by decide) 0 0 (Nat.le_refl _) (Nat.le_refl _) (c_El_partAt (G := G) hE1 hp1 (by omega) hma _) (fun v w2 hq => ?_)
      obtain ⟨rfl, hw⟩ := hq
      rw [hw]
      refine r_callV (as := [_]) hX d_Wr_putText_18 lk_Wr_92 hm1.1.1 rfl rfl (Nat.le_of_ble_eq_true rfl) (by decide) 0 0 (Nat.le_refl _) (Nat.le_refl _) (c_Ro_putL (G := G) hm1.1 ha hb (by omega) hn _) (fun v w3 hq => ?_)
      obtain ⟨rfl, q1⟩ := hq
      refine r_iinc hX d_Wr_putText_21 (by first | rfl | assumption) ?_
      refine r_goto hX 2 d_Wr_putText_24 (by decide) ?_
      exact ih (i + 1) _ w3 (bs ++ [el_at am pf (nI i)]) (by omega) (by simp; omega) (by rw [← e3, List.append_assoc]; rfl) (hm1.tr q1) l0 l1 (by show some (Value.int (nI i + Int32.ofInt 1)) = _; rw [show Int32.ofInt 1 = 1 from rfl, nI_1])
  refine r_iconst (v := 0) hX d_Wr_putText_0 (by decide) ?_
  refine q_istore hX 2 d_Wr_putText_1 rfl (by decide) ?_
  exact loop am 0 _ w [] (by omega) rfl rfl (ro_more.rf h) rfl rfl rfl
theorem c_Wr_putZeros {G : Ev_G} {w : Ev_W} {a b n c : Nat} {f : Nat → Int32} (h : is_Ro w a b n c f) (ha : 100 ≤ a) (hb : 100 ≤ b) (hn : n < 2 ^ 31) {e : Nat} {E : Ev_E} (hE : w.2 e = some (el_C e E)) (hea : e ≠ a) (heb : e ≠ b) {am : Nat} (hma : E.2.2.1 = lN am) (hm : am < 2 ^ 30) (hc : c < 2 ^ 30) : ev_Met G M_Wr_putZeros 1 0 0 [.ref e, .ref a] w (fun v w' => v = none ∧ ro_more w w' a b n c f (List.replicate am 0)) := by
  refine ev_Met.of md_Wr_putZeros (Nat.le_of_ble_eq_true rfl) (fun X hX hR => ?_)
  have loop : ∀ (k i : Nat) (ls : Ev_L) (w1 : Ev_W), i + k = am → ro_more w w1 a b n c f (List.replicate i 0) → ls.1 0 = some (.ref e) → ls.1 1 = some (.ref a) → ls.1 2 = some (.int (nI i)) → ev_W G M_Wr_putZeros X 0 0 2 ls [] w1 := by
    intro k
    induction k with
    | zero =>
      intro i ls w1 e1 hm1 l0 l1 l2
      have hE1 : w1.2 e = some (el_C e E) := by rw [hm1.2.2 e (by simp; exact ⟨hea, heb⟩)]; exact hE
      refine q_iload hX 2 d_Wr_putZeros_2 rfl (by first | rfl | assumption) ?_
      refine r_i2l hX d_Wr_putZeros_3 ?_
      refine q_aload hX 0 d_Wr_putZeros_4 rfl (by first | rfl | assumption) ?_
      refine r_getf hX d_Wr_putZeros_5 fl_Wr_104 (by first | assumption | exact ev_set_self _ _ _ | (simp (disch := first | assumption | decide | omega) only [ev_set_self, ev_set_ne, ev_new_self, ev_new_ne]; first | done | assumption)) rfl ?_
      refine r_lcmp hX d_Wr_putZeros_8 ?_
      refine r_if_ge hX 23 d_Wr_putZeros_9 (by decide) (fun _ => ?_) (fun c9 => absurd (by rw [l_ge0, hma, nI_l (by omega), pk_lT (by omega), pk_lT (by omega)]; omega) c9)
      refine r_vret hX hR d_Wr_putZeros_23 rfl ?_
      exact ⟨rfl, by rw [← show i = am by omega]; exact hm1⟩
    | succ k ih =>
      intro i ls w1 e1 hm1 l0 l1 l2
      have hE1 : w1.2 e = some (el_C e E) := by rw [hm1.2.2 e (by simp; exact ⟨hea, heb⟩)]; exact hE
      have hlen : (List.replicate i (0 : Int32)).length = i := by simp
      refine q_iload hX 2 d_Wr_putZeros_2 rfl (by first | rfl | assumption) ?_
      refine r_i2l hX d_Wr_putZeros_3 ?_
      refine q_aload hX 0 d_Wr_putZeros_4 rfl (by first | rfl | assumption) ?_
      refine r_getf hX d_Wr_putZeros_5 fl_Wr_104 (by first | assumption | exact ev_set_self _ _ _ | (simp (disch := first | assumption | decide | omega) only [ev_set_self, ev_set_ne, ev_new_self, ev_new_ne]; first | done | assumption)) rfl ?_
      refine r_lcmp hX d_Wr_putZeros_8 ?_
      refine r_if_ge hX 23 d_Wr_putZeros_9 (by decide) (fun c9 => absurd c9 (by rw [l_ge0, hma, nI_l (by omega), pk_lT (by omega), pk_lT (by omega)]; omega)) (fun _ => ?_)
      refine q_aload hX 1 d_Wr_putZeros_12 rfl (by first | rfl | assumption) ?_
      refine r_iconst (v := 0) hX d_Wr_putZeros_13 (by decide) ?_
      refine r_callV (as := [_]) hX d_Wr_putZeros_14 lk_Wr_92 hm1.1.1 rfl rfl (Nat.le_of_ble_eq_true rfl) (by decide) 0 0 (Nat.le_refl _) (Nat.le_refl _) (c_Ro_putL (G := G) hm1.1 ha hb (by omega) hn _) (fun v w3 hq => ?_)
      obtain ⟨rfl, q1⟩ := hq
      refine r_iinc hX d_Wr_putZeros_17 (by first | rfl | assumption) ?_
      refine r_goto hX 2 d_Wr_putZeros_20 (by decide) ?_
      exact ih (i + 1) _ w3 (by omega) (by rw [List.replicate_succ']; exact hm1.tr q1) l0 l1 (by show some (Value.int (nI i + Int32.ofInt 1)) = _; rw [show Int32.ofInt 1 = 1 from rfl, nI_1])
  refine r_iconst (v := 0) hX d_Wr_putZeros_0 (by decide) ?_
  refine q_istore hX 2 d_Wr_putZeros_1 rfl (by decide) ?_
  exact loop am 0 _ w (by omega) (ro_more.rf h) rfl rfl rfl
