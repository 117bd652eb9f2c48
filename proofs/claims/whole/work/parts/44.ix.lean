/-! ===== Finder: renewCues; ElementFiles: index ===== -/
theorem wg_kc (E : Nat → Ev_E) (a s n k : Nat) : ∀ f i : Nat, k < i → i + f ≤ tr_end (el_lev E) n k → tr_wg E a s f i (tk_fl E a s (tr_end (el_lev E) n k) k (i - 1)) + kc (tk_Q E a s n k) (i + f) = f + kc (tk_Q E a s n k) i
  | 0, i, h, h2 => by unfold tr_wg; rfl
  | f + 1, i, h, h2 => by
    have ih := wg_kc E a s n k f (i + 1) (by omega) (by omega)
    have hfl := tk_fl_hi (E := E) (a := a) (s := s) (e := tr_end (el_lev E) n k) h
    unfold tk_b at hfl
    rw [if_neg (by omega)] at hfl
    rw [Nat.add_sub_cancel] at ih
    rw [show i + 1 + f = i + (f + 1) by omega, kc] at ih
    unfold tr_wg
    rw [← hfl]
    unfold tk_Q at ih ⊢
    cases hb : tk_fl E a s (tr_end (el_lev E) n k) k i with
    | true => rw [hb] at ih; simp at ih ⊢; omega
    | false => rw [hb] at ih; simp at ih ⊢; omega
theorem kc_all (Q : Nat → Bool) {a : Nat} : ∀ d : Nat, (∀ x, a ≤ x → x < a + d → Q x = true) → kc Q (a + d) = kc Q a + d
  | 0, _ => rfl
  | d + 1, h => by
    rw [← Nat.add_assoc, kc, kc_all Q d (fun x h1 h2 => h x h1 (by omega)), if_pos (h (a + d) (by omega) (by omega))]; omega
theorem tk_Q_lo {E : Nat → Ev_E} {a s n k x : Nat} (h : x ≤ k) : tk_Q E a s n k x = true := by unfold tk_Q; rw [tk_fl_lo h]; rfl
theorem tk_Q_hi {E : Nat → Ev_E} {a s n k x : Nat} (hk : k < x) (h : tr_end (el_lev E) n k ≤ x) : tk_Q E a s n k x = true := by unfold tk_Q; rw [tk_fl_hi hk]; unfold tk_b; rw [if_pos h]; rfl
theorem kc_k (E : Nat → Ev_E) (a s n k : Nat) {x : Nat} (h : x ≤ k + 1) : kc (tk_Q E a s n k) x = x := by
  have := kc_all (tk_Q E a s n k) (a := 0) x (fun y _ h2 => tk_Q_lo (by omega))
  rw [Nat.zero_add] at this
  rw [this]; exact Nat.zero_add _
/-- as many stay as the weighing says -/
theorem tk_left (E : Nat → Ev_E) (a s : Nat) {n k : Nat} (hk : k < n) : (tk_K E a s n k).length + tr_wg E a s (tr_end (el_lev E) n k - (k + 1)) (k + 1) false = n := by
  have h1 := tr_go_ge (el_lev E) n (el_lev E k) (n - (k + 1)) (k + 1)
  have h2 := tr_go_le (el_lev E) n (el_lev E k) (n - (k + 1)) (k + 1) (by omega)
  have h3 := wg_kc E a s n k (tr_end (el_lev E) n k - (k + 1)) (k + 1) (by omega) (by unfold tr_end; omega)
  rw [Nat.add_sub_cancel, tk_fl_lo (Nat.le_refl k), kc_k E a s n k (Nat.le_refl _)] at h3
  rw [tk_K_kl E a s hk, kl_len]
  have h5 : k + 1 ≤ tr_end (el_lev E) n k ∧ tr_end (el_lev E) n k ≤ n := ⟨h1, h2⟩
  have h4 := kc_all (tk_Q E a s n k) (a := tr_end (el_lev E) n k) (n - tr_end (el_lev E) n k) (fun x y1 y2 => tk_Q_hi (by omega) y1)
  generalize tr_end (el_lev E) n k = e at *
  rw [show e + (n - e) = n by omega] at h4
  rw [show k + 1 + (e - (k + 1)) = e by omega] at h3
  omega
theorem ev_W.le {G : Ev_G} {M : Ev_M} {X : Ev_X} {bc bs bc' bs' pc : Nat} {ls : Ev_L} {st : List Value} {w : Ev_W} (h : ev_W G M X bc bs pc ls st w) (h1 : bc ≤ bc') (h2 : bs ≤ bs') : ev_W G M X bc' bs' pc ls st w := by
  intro H locs a cells slots hH hl hL hc hs
  exact h H locs a cells slots hH hl hL (by omega) (by omega)
/-- the CUEs for the blocks from j on -/
def ix_go (k : Nat) : Nat → Nat → Nat → Ev_S → Ev_S
  | 0, _, _, S => S
  | f + 1, j, bef, S => if (sE S j).1 = 9 then ix_go k f (j + 1) (bef + 1) (if ¬ (sE S j).2.2.2 7 = 0 then cu4 S k j bef else S) else ix_go k f (j + 1) bef S
/-- what a cue leaves as it was -/
theorem cu_lo {S : Ev_S} {k b bef i : Nat} (h : i < cup S k) : sa (cu4 S k b bef) i = sa S i ∧ sE (cu4 S k b bef) i = sE S i ∧ si (cu4 S k b bef) i = si S i := by
  have g1 : cup S k < mk_p (sE (cu1 S k)) (sn (cu1 S k)) (some (cup S k)) := mk_p_gt
  have g2 : cup S k < mk_p (sE (cu2 S k b)) (sn (cu2 S k b)) (some (cup S k)) := mk_p_gt
  have g3 : cup S k < mk_p (sE (cu3 S k b)) (sn (cu3 S k b)) (some (cup S k)) := mk_p_gt
  have a1 : sa (cu1 S k) i = sa S i ∧ sE (cu1 S k) i = sE S i ∧ si (cu1 S k) i = si S i := nw_lo h
  have a2 : sa (cu2 S k b) i = sa (cu1 S k) i ∧ sE (cu2 S k b) i = sE (cu1 S k) i ∧ si (cu2 S k b) i = si (cu1 S k) i := nw_lo (by omega)
  have a3 : sa (cu3 S k b) i = sa (cu2 S k b) i ∧ sE (cu3 S k b) i = sE (cu2 S k b) i ∧ si (cu3 S k b) i = si (cu2 S k b) i := nw_lo (by omega)
  have a4 : sa (cu4 S k b bef) i = sa (cu3 S k b) i ∧ sE (cu4 S k b bef) i = sE (cu3 S k b) i ∧ si (cu4 S k b bef) i = si (cu3 S k b) i := nw_lo (by omega)
  exact ⟨a4.1.trans (a3.1.trans (a2.1.trans a1.1)), a4.2.1.trans (a3.2.1.trans (a2.2.1.trans a1.2.1)), a4.2.2.trans (a3.2.2.trans (a2.2.2.trans a1.2.2))⟩
theorem cu_po {S : Ev_S} {k b bef : Nat} (hn : sn S + 4 ≤ 60) (h : is_po (sn S) (sE S) (si S)) (hk : k < sn S) : is_po (sn (cu4 S k b bef)) (sE (cu4 S k b bef)) (si (cu4 S k b bef)) := by
  have hc : cup S k ≤ sn S := mk_pn (fun j hj => by cases hj; exact hk)
  have p1 : is_po (sn (cu1 S k)) (sE (cu1 S k)) (si (cu1 S k)) := nw_po (by omega) h (fun j hj => by cases hj; exact hk)
  have p2 : is_po (sn (cu2 S k b)) (sE (cu2 S k b)) (si (cu2 S k b)) := nw_po (by show sn S + 1 ≤ 60; omega) p1 (fun j hj => by cases hj; show cup S k < sn S + 1; omega)
  have p3 : is_po (sn (cu3 S k b)) (sE (cu3 S k b)) (si (cu3 S k b)) := nw_po (by show sn S + 2 ≤ 60; omega) p2 (fun j hj => by cases hj; show cup S k < sn S + 2; omega)
  exact nw_po (by show sn S + 3 ≤ 60; omega) p3 (fun j hj => by cases hj; show cup S k < sn S + 3; omega)
/-- the end of a master lies behind all that is in it -/
theorem end_ge {n k e : Nat} {E : Nat → Ev_E} {mi : Nat → Option Nat} (hn : n ≤ 60) (h : is_po n E mi) (hk : k < n) (he : e ≤ n) (hl : ∀ t, k < t → t < e → el_ln E k < el_ln E t) : e ≤ tr_end (el_lev E) n k := by
  obtain ⟨a, b, c, d⟩ := tr_end_spec hn h hk
  by_cases z : e ≤ tr_end (el_lev E) n k
  · exact z
  · have h1 := d (by omega)
    have h2 := hl _ a (by omega)
    omega
/-- the end of a master is the first place behind it that is no deeper -/
theorem end_eq {n k e : Nat} {E : Nat → Ev_E} {mi : Nat → Option Nat} (hn : n ≤ 60) (h : is_po n E mi) (hk : k < e) (he : e ≤ n) (hl : ∀ t, k < t → t < e → el_ln E k < el_ln E t) (hd : e < n → el_ln E e ≤ el_ln E k) : tr_end (el_lev E) n k = e := by
  obtain ⟨a, b, c, d⟩ := tr_end_spec hn h (show k < n by omega)
  have h1 := end_ge hn h (by omega) he hl
  by_cases z : tr_end (el_lev E) n k = e
  · exact z
  · have h2 := c e hk (by omega)
    have h3 := hd (by omega)
    omega
def ck_P (E : Nat → Ev_E) (i : Nat) : Bool := decide ((E i).1 = 9 ∧ ¬ (E i).2.2.2 7 = 0)
theorem ck_kc (E : Nat → Ev_E) : ∀ f i, fi_ck E f i + kc (ck_P E) i = kc (ck_P E) (i + f)
  | 0, i => by unfold fi_ck; exact Nat.zero_add _
  | f + 1, i => by
    have ih := ck_kc E f (i + 1)
    rw [kc] at ih
    rw [fi_ck, show i + (f + 1) = i + 1 + f by omega, ← ih]
    unfold ck_P
    by_cases z : (E i).1 = 9 ∧ ¬ (E i).2.2.2 7 = 0
    · rw [if_pos z, if_pos (decide_eq_true z)]; omega
    · rw [if_neg z, if_neg (by rw [decide_eq_false z]; decide)]; omega
/-- fewer stay than there were -/
theorem kc_sub (Q P : Nat → Bool) (h : ∀ t, t < 60 → t < 60 → True) {n : Nat} (P' : Nat → Bool) (hP : ∀ t, t < (kl Q n).length → P' t = P ((kl Q n).getD t 0)) : ∀ x y, x ≤ y → y ≤ n → kc P' (kc Q y) + kc P x ≤ kc P' (kc Q x) + kc P y := by
  intro x y hxy hy
  induction y with
  | zero => have : x = 0 := by omega
            subst this; exact Nat.le_refl _
  | succ y ih =>
    by_cases z : x = y + 1
    · subst z; exact Nat.le_refl _
    · have ih := ih (by omega) (by omega)
      rw [kc, kc]
      by_cases hq : Q y = true
      · rw [if_pos hq, kc]
        have hlt : kc Q y < (kl Q n).length := by rw [kl_len]; exact kc_lt Q (by omega) hq
        rw [hP _ hlt, kl_get Q (by omega) hq]
        omega
      · rw [if_neg hq, Nat.add_zero]; omega
theorem tk_end {S : Ev_S} {k s : Nat} {L1 : Nat → Option Nat} (hn : sn S ≤ 60) (hpo : is_po (sn S) (sE S) (si S)) (hpo1 : is_po (sn (tk_S S k s L1)) (sE (tk_S S k s L1)) (si (tk_S S k s L1))) (hk : k < sn S) : tr_end (el_lev (sE (tk_S S k s L1))) (sn (tk_S S k s L1)) k = kc (tk_Q (sE S) (sa S k) s (sn S) k) (tr_end (el_lev (sE S)) (sn S) k) := by
  obtain ⟨c1, c2, c3, c4⟩ := tr_end_spec hn hpo hk
  have hK : sn (tk_S S k s L1) = kc (tk_Q (sE S) (sa S k) s (sn S) k) (sn S) := by show (tk_K _ _ _ _ _).length = _; rw [tk_K_kl _ _ _ hk, kl_len]
  have hln : ∀ t, t < sn (tk_S S k s L1) → el_ln (sE (tk_S S k s L1)) t = el_ln (sE S) (tk_pi (sE S) (sa S k) s (sn S) k t) := fun t ht => by
    have ht : t < (tk_K (sE S) (sa S k) s (sn S) k).length := ht
    unfold el_ln
    show (((if t < (tk_K (sE S) (sa S k) s (sn S) k).length then el_n (sE S (tk_pi (sE S) (sa S k) s (sn S) k t)) (nI t) else sE S (tk_pi (sE S) (sa S k) s (sn S) k t)) : Ev_E).2.2.2 1).toNatClampNeg = _
    rw [if_pos ht]; rfl
  have hkk := tk_of (E := sE S) (a := sa S k) (s := s) (i := k) hk hk (tk_Q_lo (Nat.le_refl k))
  rw [kc_k _ _ _ _ _ (by omega)] at hkk
  have hlk : el_ln (sE (tk_S S k s L1)) k = el_ln (sE S) k := by rw [hln k hkk.1, hkk.2]
  have hle : sn (tk_S S k s L1) ≤ sn S := tk_K_le _ _ _ hk
  refine end_eq (by omega) hpo1 ?_ (by rw [hK]; exact kc_le _ c2) ?_ ?_
  · have h1 := kc_lt (tk_Q (sE S) (sa S k) s (sn S) k) c1 (tk_Q_lo (Nat.le_refl k))
    rw [kc_k _ _ _ _ _ (by omega)] at h1
    exact h1
  · intro t t1 t2
    have ht : t < sn (tk_S S k s L1) := by rw [hK]; have := kc_le (tk_Q (sE S) (sa S k) s (sn S) k) c2; omega
    rw [hln t ht, hlk]
    obtain ⟨d1, d2, d3⟩ := tk_at (E := sE S) (a := sa S k) (s := s) hk ht
    refine c3 _ ?_ ?_
    · by_cases z : k < tk_pi (sE S) (sa S k) s (sn S) k t
      · exact z
      · have h1 := kc_le (tk_Q (sE S) (sa S k) s (sn S) k) (show tk_pi (sE S) (sa S k) s (sn S) k t ≤ k by omega)
        rw [d3, kc_k _ _ _ _ _ (by omega)] at h1; omega
    · by_cases z : tk_pi (sE S) (sa S k) s (sn S) k t < tr_end (el_lev (sE S)) (sn S) k
      · exact z
      · have h1 := kc_le (tk_Q (sE S) (sa S k) s (sn S) k) (show tr_end (el_lev (sE S)) (sn S) k ≤ tk_pi (sE S) (sa S k) s (sn S) k t by omega)
        rw [d3] at h1; omega
  · intro he
    have hen : tr_end (el_lev (sE S)) (sn S) k < sn S := by
      by_cases z : tr_end (el_lev (sE S)) (sn S) k < sn S
      · exact z
      · have : tr_end (el_lev (sE S)) (sn S) k = sn S := by omega
        rw [this, ← hK] at he; omega
    have hq := tk_Q_hi (E := sE S) (a := sa S k) (s := s) c1 (Nat.le_refl _)
    have h1 := tk_of hk hen hq
    rw [hln _ he, hlk, h1.2]
    exact c4 hen
theorem tk_ck {S : Ev_S} {k s : Nat} {L1 : Nat → Option Nat} (hk : k < sn S) {e : Nat} (he : e ≤ sn S) (hke : k < e) : fi_ck (sE (tk_S S k s L1)) (kc (tk_Q (sE S) (sa S k) s (sn S) k) e - (k + 1)) (k + 1) ≤ fi_ck (sE S) (e - (k + 1)) (k + 1) := by
  have hP : ∀ t, t < (kl (tk_Q (sE S) (sa S k) s (sn S) k) (sn S)).length → ck_P (sE (tk_S S k s L1)) t = ck_P (sE S) ((kl (tk_Q (sE S) (sa S k) s (sn S) k) (sn S)).getD t 0) := fun t ht => by
    rw [← tk_K_kl _ _ _ hk] at ht
    unfold ck_P
    show decide (((if t < (tk_K (sE S) (sa S k) s (sn S) k).length then el_n (sE S (tk_pi (sE S) (sa S k) s (sn S) k t)) (nI t) else sE S (tk_pi (sE S) (sa S k) s (sn S) k t)) : Ev_E).1 = 9 ∧ ¬ ((if t < (tk_K (sE S) (sa S k) s (sn S) k).length then el_n (sE S (tk_pi (sE S) (sa S k) s (sn S) k t)) (nI t) else sE S (tk_pi (sE S) (sa S k) s (sn S) k t)) : Ev_E).2.2.2 7 = 0) = _
    rw [if_pos ht, tk_pi_at _ _ _ hk ht]; rfl
  have h1 := kc_sub (tk_Q (sE S) (sa S k) s (sn S) k) (ck_P (sE S)) (fun _ _ _ => trivial) (ck_P (sE (tk_S S k s L1))) hP (k + 1) e (by omega) he
  rw [kc_k _ _ _ _ _ (Nat.le_refl _)] at h1
  have h2 := ck_kc (sE (tk_S S k s L1)) (kc (tk_Q (sE S) (sa S k) s (sn S) k) e - (k + 1)) (k + 1)
  have h3 := ck_kc (sE S) (e - (k + 1)) (k + 1)
  have h4 := kc_le (tk_Q (sE S) (sa S k) s (sn S) k) (show k + 1 ≤ e by omega)
  rw [kc_k _ _ _ _ _ (Nat.le_refl _)] at h4
  rw [show k + 1 + (kc (tk_Q (sE S) (sa S k) s (sn S) k) e - (k + 1)) = kc (tk_Q (sE S) (sa S k) s (sn S) k) e by omega] at h2
  rw [show k + 1 + (e - (k + 1)) = e by omega] at h3
  omega
