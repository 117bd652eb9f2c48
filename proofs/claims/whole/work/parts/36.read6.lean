/-! ===== Reader: readTag ===== -/
def rd_en (E : Nat → Ev_E) (j : Nat) : Nat := ((E j).2.2.2 9).toNatClampNeg
def rd_op (E : Nat → Ev_E) (j : Nat) : Bool := decide (¬ (E j).2.2.2 10 = 0)
def so_in (i : Nat) : Int32 := ((ev_fl[3]).2.2.2).getD i 0
def pop1 (E : Nat → Ev_E) (mi : Nat → Option Nat) (p : Nat) : Nat → Option Nat → Option Nat
  | 0, o => o
  | _ + 1, none => none
  | k + 1, some j => if rd_en E j ≤ p then pop1 E mi p k (mi j) else some j
def pop2 (E : Nat → Ev_E) (mi : Nat → Option Nat) (s : Nat) : Nat → Option Nat → Option Nat
  | 0, o => o
  | _ + 1, none => none
  | k + 1, some j => if rd_op E j = true ∧ so_fits s (so_in (E j).1) = false then pop2 E mi s k (mi j) else some j
def rd_e1 (E : Nat → Ev_E) (c : Nat) (o : Option Nat) : Nat := match o with
  | none => c
  | some j => rd_en E j
theorem pop1_lt {E : Nat → Ev_E} {mi : Nat → Option Nat} {p n : Nat} (hmi : ∀ i j, i < n → mi i = some j → j < i) : ∀ (k : Nat) (o : Option Nat), (∀ j, o = some j → j < n ∧ j < k) → ∀ j, pop1 E mi p k o = some j → j < n ∧ p < rd_en E j
  | 0, o, h, j, hj => absurd (h j hj).2 (Nat.not_lt_zero _)
  | k + 1, none, h, j, hj => by cases hj
  | k + 1, some i, h, j, hj => by
    unfold pop1 at hj
    split at hj
    · have hi := h i rfl
      exact pop1_lt hmi k (mi i) (fun q hq => by have := hmi i q hi.1 hq; omega) j hj
    · cases hj; exact ⟨(h i rfl).1, by omega⟩
theorem pop2_lt {E : Nat → Ev_E} {mi : Nat → Option Nat} {s n : Nat} (hmi : ∀ i j, i < n → mi i = some j → j < i) : ∀ (k : Nat) (o : Option Nat), (∀ j, o = some j → j < n ∧ j < k) → ∀ j, pop2 E mi s k o = some j → j < n
  | 0, o, h, j, hj => (h j hj).1
  | k + 1, none, h, j, hj => by cases hj
  | k + 1, some i, h, j, hj => by
    unfold pop2 at hj
    split at hj
    · have hi := h i rfl
      exact pop2_lt hmi k (mi i) (fun q hq => by have := hmi i q hi.1 hq; omega) j hj
    · cases hj; exact (h i rfl).1
theorem pop1_n (E : Nat → Ev_E) (mi : Nat → Option Nat) (p k : Nat) : pop1 E mi p k none = none := by cases k <;> rfl
theorem pop2_n (E : Nat → Ev_E) (mi : Nat → Option Nat) (s k : Nat) : pop2 E mi s k none = none := by cases k <;> rfl
theorem is_S.sm {w w' : Ev_W} {S : Ev_S} {As : Nat → Option Nat} {sf : Nat → Int32} {sd : Nat} {l : List Nat} (h : is_S w S As sf sd) (hs : ev_sm w w' l) (hl : ∀ q, q ∈ l → q < 139 ∧ q ≠ 108 ∧ q ≠ 109 ∧ q ≠ 110 ∧ q ≠ 111) : is_S w' S As sf sd := by
  obtain ⟨a1, a2, a3, a4, a5, a6, a7, a8⟩ := h
  have hn : ∀ q, ¬ (q < 139 ∧ q ≠ 108 ∧ q ≠ 109 ∧ q ≠ 110 ∧ q ≠ 111) → w'.2 q = w.2 q := fun q hq => hs.2 q (fun z => hq (hl q z))
  exact ⟨⟨(hn 108 (by omega)).trans a1.1, (hn 109 (by omega)).trans a1.2.1, (hn 110 (by omega)).trans a1.2.2.1, (hn 111 (by omega)).trans a1.2.2.2⟩, a2.same (fun q hq => hn q (by omega)), a3, a4, a5, a6, by rw [hs.1]; exact a7, a8⟩
/-- ends of masters that were read lie within the bytes -/
def rd_eok (S : Ev_S) (c : Nat) : Prop := ∀ j, j < sn S → (sE S j).2.2.2 9 = nI (rd_en (sE S) j) ∧ rd_en (sE S) j ≤ c
/-- what readTag() answers -/
def rt_post (w w' : Ev_W) (S : Ev_S) (c : Nat) (g : Nat → Nat) (p : Nat) (ms : Option Nat) (fp tg vf vL : Int32) (v : Option Value) : Prop :=
  ev_sm w w' [112] ∧ ((g p < 16 ∧ v = some (.int (-3)) ∧ is_Re w' fp ((pop1 (sE S) (si S) p 61 ms).map (sa S)) (nI p) (nI (rd_e1 (sE S) c (pop1 (sE S) (si S) p 61 ms))) tg vf vL) ∨
  (¬ g p < 16 ∧ rd_e1 (sE S) c (pop1 (sE S) (si S) p 61 ms) < p + vl (g p) ∧ v = some (.int (-2)) ∧ is_Re w' fp ((pop1 (sE S) (si S) p 61 ms).map (sa S)) (nI p) (nI (rd_e1 (sE S) c (pop1 (sE S) (si S) p 61 ms))) tg vf vL) ∨
  (¬ g p < 16 ∧ p + vl (g p) ≤ rd_e1 (sE S) c (pop1 (sE S) (si S) p 61 ms) ∧ v = some (.int (if mk_may (sE S) (sn S) (so_of (nI (nb g p (vl (g p))))) (pop2 (sE S) (si S) (so_of (nI (nb g p (vl (g p))))) 61 (pop1 (sE S) (si S) p 61 ms)) = true then 0 else -4)) ∧ is_Re w' fp ((pop2 (sE S) (si S) (so_of (nI (nb g p (vl (g p))))) 61 (pop1 (sE S) (si S) p 61 ms)).map (sa S)) (nI (p + vl (g p))) (nI (rd_e1 (sE S) c (pop1 (sE S) (si S) p 61 ms))) (nI (nb g p (vl (g p)))) vf vL))
theorem tr_sm {w w' : Ev_W} {n sd : Nat} {L As : Nat → Option Nat} {sf : Nat → Int32} (h : is_Tr w n L As sf sd) (hs : ev_sm w w' [112]) : is_Tr w' n L As sf sd := ⟨(hs.2 108 (by decide)).trans h.1, (hs.2 109 (by decide)).trans h.2.1, (hs.2 110 (by decide)).trans h.2.2.1, (hs.2 111 (by decide)).trans h.2.2.2⟩
theorem es_sm {w w' : Ev_W} {m : Nat} {L : Nat → Option Nat} {ad : Nat → Nat} {E : Nat → Ev_E} {PF : Nat → Nat → Int32} (h : is_Es w m L ad E PF) (hs : ev_sm w w' [112]) : is_Es w' m L ad E PF := h.same (fun q hq => hs.2 q (by simp; omega))
theorem c_Re_readTag {G : Ev_G} {w : Ev_W} {c : Nat} {f : Nat → Int32} (hin : is_Ro w 101 102 640 c f) {g : Nat → Nat} (hg : rd_g c f g) {S : Ev_S} {As : Nat → Option Nat} {sf : Nat → Int32} {sd : Nat} (hS : is_S w S As sf sd) (hsd : sd ≤ 1200) (heo : rd_eok S c) {fp en tg vf vL : Int32} {ms : Option Nat} {p : Nat} (hre : is_Re w fp (ms.map (sa S)) (nI p) en tg vf vL) (hms : ∀ j, ms = some j → j < sn S) (hpc : p < c) : ev_Met G M_Re_readTag 2 0 0 [.ref 112] w (fun v w' => rt_post w w' S c g p ms fp tg vf vL v) := by
  have hc := hg.1
  obtain ⟨htr, hes, hok, hnm, hm60, hfree, hw1, h139⟩ := hS
  have hn60 : sn S ≤ 60 := by omega
  have hmi : ∀ i j, i < sn S → si S i = some j → j < i := fun i j hi => (hok i hi).2.2.2 j
  have hgp := (hg.2 p hpc).2
  have hv9 := vl_9 (g p)
  have hv1 := vl_1 (g p)
  have hm1lt := pop1_lt (E := sE S) (p := p) hmi 61 ms (fun j hj => by have := hms j hj; omega)
  have he1 : p ≤ (rd_e1 (sE S) c (pop1 (sE S) (si S) p 61 ms)) ∧ (rd_e1 (sE S) c (pop1 (sE S) (si S) p 61 ms)) ≤ c := by
    cases hh : (pop1 (sE S) (si S) p 61 ms) with
    | none => exact ⟨by show p ≤ c; omega, Nat.le_refl _⟩
    | some j => have h1 := hm1lt j hh; exact ⟨by show p ≤ rd_en (sE S) j; omega, (heo j h1.1).2⟩
  refine ev_Met.of md_Re_readTag (Nat.le_of_ble_eq_true rfl) (fun X hX hR => ?_)
  have loopD : ∀ (k : Nat) (o : Option Nat) (ls : Ev_L) (w1 : Ev_W), ¬ g p < 16 → p + vl (g p) ≤ (rd_e1 (sE S) c (pop1 (sE S) (si S) p 61 ms)) → (∀ j, o = some j → j < sn S ∧ j < k) → pop2 (sE S) (si S) (so_of (nI (nb g p (vl (g p))))) k o = (pop2 (sE S) (si S) (so_of (nI (nb g p (vl (g p))))) 61 (pop1 (sE S) (si S) p 61 ms)) → is_Re w1 fp (o.map (sa S)) (nI (p + vl (g p))) (nI (rd_e1 (sE S) c (pop1 (sE S) (si S) p 61 ms))) (nI (nb g p (vl (g p)))) vf vL → ev_sm w w1 [112] → ls.1 0 = some (.ref 112) → ls.1 3 = some (.ref (so_of (nI (nb g p (vl (g p)))))) → ev_W G M_Re_readTag X 0 0 123 ls [] w1 := by
    intro k o ls w1 h16 hle
    revert o ls w1
    induction k with
    | zero =>
      intro o ls w1 ho e2 hr1 hs1 l0 l3
      have hon : o = none := by cases o with
        | none => rfl
        | some j => exact absurd (ho j rfl).2 (Nat.not_lt_zero _)
      subst hon
      unfold is_Re at hr1
      have hm2 : none = (pop2 (sE S) (si S) (so_of (nI (nb g p (vl (g p))))) 61 (pop1 (sE S) (si S) p 61 ms)) := by rw [← e2]; rfl
      refine q_aload hX 0 d_Re_readTag_123 rfl (by first | rfl | assumption) ?_
      refine r_getf hX d_Re_readTag_124 fl_Re_28 hr1 rfl ?_
      refine r_ifnullN hX 171 d_Re_readTag_127 (by decide) ?_
      have hmay : mk_may (sE S) (sn S) (so_of (nI (nb g p (vl (g p))))) (pop2 (sE S) (si S) (so_of (nI (nb g p (vl (g p))))) 61 (pop1 (sE S) (si S) p 61 ms)) = so_fits (so_of (nI (nb g p (vl (g p))))) 1 := by rw [← hm2]; rfl
      refine q_aload hX 0 d_Re_readTag_171 rfl (by first | rfl | assumption) ?_
      refine r_getf hX d_Re_readTag_172 fl_Re_19 hr1 rfl ?_
      refine q_aload hX 3 d_Re_readTag_175 rfl (by first | rfl | assumption) ?_
      refine q_aload hX 0 d_Re_readTag_176 rfl (by first | rfl | assumption) ?_
      refine r_getf hX d_Re_readTag_177 fl_Re_28 hr1 rfl ?_
      refine r_callV (as := [_, _]) hX d_Re_readTag_180 lk_Re_93 (tr_sm htr hs1).1 rfl rfl (Nat.le_of_ble_eq_true rfl) (by decide) 0 0 (Nat.le_refl _) (Nat.le_refl _) (c_Tr_mayStandN (G := G) (tr_sm htr hs1) hn60 hsd (so_of_lt _)) (fun v w2 hq => ?_)
      obtain ⟨rfl, hw⟩ := hq
      rw [hw]
      refine r_if_eq hX 190 d_Re_readTag_183 (by decide) (fun c183 => ?_) (fun c183 => ?_)
      · refine r_bipush (v := -4) hX d_Re_readTag_190 (by decide) ?_
        refine r_iret hX hR d_Re_readTag_192 rfl (by first | rfl | assumption) ?_
        exact ⟨hs1, Or.inr (Or.inr ⟨h16, hle, by rw [if_neg (by rw [hmay, b_i_0 c183]; decide)], by rw [← hm2]; exact hr1⟩)⟩
      · refine r_iconst (v := 0) hX d_Re_readTag_186 (by decide) ?_
        refine r_goto hX 192 d_Re_readTag_187 (by decide) ?_
        refine r_iret hX hR d_Re_readTag_192 rfl (by first | rfl | assumption) ?_
        exact ⟨hs1, Or.inr (Or.inr ⟨h16, hle, by rw [if_pos (by rw [hmay]; exact b_i_1 c183)], by rw [← hm2]; exact hr1⟩)⟩
    | succ k ih =>
      intro o ls w1 ho e2 hr1 hs1 l0 l3
      unfold is_Re at hr1
      cases o with
      | none =>
        have hm2 : none = (pop2 (sE S) (si S) (so_of (nI (nb g p (vl (g p))))) 61 (pop1 (sE S) (si S) p 61 ms)) := by rw [← e2, pop2_n]
        refine q_aload hX 0 d_Re_readTag_123 rfl (by first | rfl | assumption) ?_
        refine r_getf hX d_Re_readTag_124 fl_Re_28 hr1 rfl ?_
        refine r_ifnullN hX 171 d_Re_readTag_127 (by decide) ?_
        have hmay : mk_may (sE S) (sn S) (so_of (nI (nb g p (vl (g p))))) (pop2 (sE S) (si S) (so_of (nI (nb g p (vl (g p))))) 61 (pop1 (sE S) (si S) p 61 ms)) = so_fits (so_of (nI (nb g p (vl (g p))))) 1 := by rw [← hm2]; rfl
        refine q_aload hX 0 d_Re_readTag_171 rfl (by first | rfl | assumption) ?_
        refine r_getf hX d_Re_readTag_172 fl_Re_19 hr1 rfl ?_
        refine q_aload hX 3 d_Re_readTag_175 rfl (by first | rfl | assumption) ?_
        refine q_aload hX 0 d_Re_readTag_176 rfl (by first | rfl | assumption) ?_
        refine r_getf hX d_Re_readTag_177 fl_Re_28 hr1 rfl ?_
        refine r_callV (as := [_, _]) hX d_Re_readTag_180 lk_Re_93 (tr_sm htr hs1).1 rfl rfl (Nat.le_of_ble_eq_true rfl) (by decide) 0 0 (Nat.le_refl _) (Nat.le_refl _) (c_Tr_mayStandN (G := G) (tr_sm htr hs1) hn60 hsd (so_of_lt _)) (fun v w2 hq => ?_)
        obtain ⟨rfl, hw⟩ := hq
        rw [hw]
        refine r_if_eq hX 190 d_Re_readTag_183 (by decide) (fun c183 => ?_) (fun c183 => ?_)
        · refine r_bipush (v := -4) hX d_Re_readTag_190 (by decide) ?_
          refine r_iret hX hR d_Re_readTag_192 rfl (by first | rfl | assumption) ?_
          exact ⟨hs1, Or.inr (Or.inr ⟨h16, hle, by rw [if_neg (by rw [hmay, b_i_0 c183]; decide)], by rw [← hm2]; exact hr1⟩)⟩
        · refine r_iconst (v := 0) hX d_Re_readTag_186 (by decide) ?_
          refine r_goto hX 192 d_Re_readTag_187 (by decide) ?_
          refine r_iret hX hR d_Re_readTag_192 rfl (by first | rfl | assumption) ?_
          exact ⟨hs1, Or.inr (Or.inr ⟨h16, hle, by rw [if_pos (by rw [hmay]; exact b_i_1 c183)], by rw [← hm2]; exact hr1⟩)⟩
      | some j =>
        obtain ⟨hj, hjk⟩ := ho j rfl
        obtain ⟨u1, u2, u3, u4⟩ := hes.1 j (by omega)
        have uj := (hs1.2 (sa S j) (by simp; omega)).trans u3
        refine q_aload hX 0 d_Re_readTag_123 rfl (by first | rfl | assumption) ?_
        refine r_getf hX d_Re_readTag_124 fl_Re_28 hr1 rfl ?_
        refine r_ifnull hX d_Re_readTag_127 ?_
        refine q_aload hX 0 d_Re_readTag_130 rfl (by first | rfl | assumption) ?_
        refine r_getf hX d_Re_readTag_131 fl_Re_28 hr1 rfl ?_
        refine r_getf hX d_Re_readTag_134 fl_Re_78 uj rfl ?_
        refine r_if_eq hX 171 d_Re_readTag_137 (by decide) (fun c137 => ?_) (fun c137 => ?_)
        · have hm2 : some j = (pop2 (sE S) (si S) (so_of (nI (nb g p (vl (g p))))) 61 (pop1 (sE S) (si S) p 61 ms)) := by rw [← e2, pop2, if_neg (fun z => by have h1 := of_decide_eq_true z.1; exact h1 c137)]
          have hmay : mk_may (sE S) (sn S) (so_of (nI (nb g p (vl (g p))))) (pop2 (sE S) (si S) (so_of (nI (nb g p (vl (g p))))) 61 (pop1 (sE S) (si S) p 61 ms)) = tr_may (sE S) (sn S) (so_of (nI (nb g p (vl (g p))))) j := by rw [← hm2]; rfl
          refine q_aload hX 0 d_Re_readTag_171 rfl (by first | rfl | assumption) ?_
          refine r_getf hX d_Re_readTag_172 fl_Re_19 hr1 rfl ?_
          refine q_aload hX 3 d_Re_readTag_175 rfl (by first | rfl | assumption) ?_
          refine q_aload hX 0 d_Re_readTag_176 rfl (by first | rfl | assumption) ?_
          refine r_getf hX d_Re_readTag_177 fl_Re_28 hr1 rfl ?_
          refine r_callV (as := [_, _]) hX d_Re_readTag_180 lk_Re_93 (tr_sm htr hs1).1 rfl rfl (Nat.le_of_ble_eq_true rfl) (by decide) 0 0 (Nat.le_refl _) (Nat.le_refl _) (c_Tr_mayStand (G := G) (tr_sm htr hs1) hn60 hsd (es_sm hes hs1) hnm hj (hok j hj).1 (so_of_lt _) (hok j hj).2.1) (fun v w2 hq => ?_)
          obtain ⟨rfl, hw⟩ := hq
          rw [hw]
          refine r_if_eq hX 190 d_Re_readTag_183 (by decide) (fun c183 => ?_) (fun c183 => ?_)
          · refine r_bipush (v := -4) hX d_Re_readTag_190 (by decide) ?_
            refine r_iret hX hR d_Re_readTag_192 rfl (by first | rfl | assumption) ?_
            exact ⟨hs1, Or.inr (Or.inr ⟨h16, hle, by rw [if_neg (by rw [hmay, b_i_0 c183]; decide)], by rw [← hm2]; exact hr1⟩)⟩
          · refine r_iconst (v := 0) hX d_Re_readTag_186 (by decide) ?_
            refine r_goto hX 192 d_Re_readTag_187 (by decide) ?_
            refine r_iret hX hR d_Re_readTag_192 rfl (by first | rfl | assumption) ?_
            exact ⟨hs1, Or.inr (Or.inr ⟨h16, hle, by rw [if_pos (by rw [hmay]; exact b_i_1 c183)], by rw [← hm2]; exact hr1⟩)⟩
        · refine q_aload hX 3 d_Re_readTag_140 rfl (by first | rfl | assumption) ?_
          refine q_aload hX 0 d_Re_readTag_141 rfl (by first | rfl | assumption) ?_
          refine r_getf hX d_Re_readTag_142 fl_Re_28 hr1 rfl ?_
          refine r_getf hX d_Re_readTag_145 fl_Re_82 uj rfl ?_
          refine r_getE hX d_Re_readTag_148 (hok j hj).2.1 (q := ev_fl[3]) (by decide) m_871 ?_
          refine r_callVE (as := [_]) hX d_Re_readTag_151 lk_Re_89 (so_of_lt _) rfl rfl (Nat.le_of_ble_eq_true rfl) (by decide) 0 0 (Nat.le_refl _) (Nat.le_refl _) (c_So_fits (G := G) (so_of_lt _) _) (fun v w2 hq => ?_)
          obtain ⟨rfl, hw⟩ := hq
          rw [hw]
          refine r_if_ne hX 171 d_Re_readTag_154 (by decide) (fun c154 => ?_) (fun c154 => ?_)
          · have hm2 : some j = (pop2 (sE S) (si S) (so_of (nI (nb g p (vl (g p))))) 61 (pop1 (sE S) (si S) p 61 ms)) := by rw [← e2, pop2, if_neg (fun z => absurd z.2 (by rw [show so_fits (so_of (nI (nb g p (vl (g p))))) (so_in (sE S j).1) = true from b_i_1 c154]; decide))]
            have hmay : mk_may (sE S) (sn S) (so_of (nI (nb g p (vl (g p))))) (pop2 (sE S) (si S) (so_of (nI (nb g p (vl (g p))))) 61 (pop1 (sE S) (si S) p 61 ms)) = tr_may (sE S) (sn S) (so_of (nI (nb g p (vl (g p))))) j := by rw [← hm2]; rfl
            refine q_aload hX 0 d_Re_readTag_171 rfl (by first | rfl | assumption) ?_
            refine r_getf hX d_Re_readTag_172 fl_Re_19 hr1 rfl ?_
            refine q_aload hX 3 d_Re_readTag_175 rfl (by first | rfl | assumption) ?_
            refine q_aload hX 0 d_Re_readTag_176 rfl (by first | rfl | assumption) ?_
            refine r_getf hX d_Re_readTag_177 fl_Re_28 hr1 rfl ?_
            refine r_callV (as := [_, _]) hX d_Re_readTag_180 lk_Re_93 (tr_sm htr hs1).1 rfl rfl (Nat.le_of_ble_eq_true rfl) (by decide) 0 0 (Nat.le_refl _) (Nat.le_refl _) (c_Tr_mayStand (G := G) (tr_sm htr hs1) hn60 hsd (es_sm hes hs1) hnm hj (hok j hj).1 (so_of_lt _) (hok j hj).2.1) (fun v w2 hq => ?_)
            obtain ⟨rfl, hw⟩ := hq
            rw [hw]
            refine r_if_eq hX 190 d_Re_readTag_183 (by decide) (fun c183 => ?_) (fun c183 => ?_)
            · refine r_bipush (v := -4) hX d_Re_readTag_190 (by decide) ?_
              refine r_iret hX hR d_Re_readTag_192 rfl (by first | rfl | assumption) ?_
              exact ⟨hs1, Or.inr (Or.inr ⟨h16, hle, by rw [if_neg (by rw [hmay, b_i_0 c183]; decide)], by rw [← hm2]; exact hr1⟩)⟩
            · refine r_iconst (v := 0) hX d_Re_readTag_186 (by decide) ?_
              refine r_goto hX 192 d_Re_readTag_187 (by decide) ?_
              refine r_iret hX hR d_Re_readTag_192 rfl (by first | rfl | assumption) ?_
              exact ⟨hs1, Or.inr (Or.inr ⟨h16, hle, by rw [if_pos (by rw [hmay]; exact b_i_1 c183)], by rw [← hm2]; exact hr1⟩)⟩
          · have hop : rd_op (sE S) j = true := decide_eq_true c137
            have hfi : so_fits (so_of (nI (nb g p (vl (g p))))) (so_in (sE S j).1) = false := b_i_0 c154
            cases hmj : si S j with
            | none =>
              have o3 : (sE S j).2.1 = none := by rw [(hok j hj).2.2.1, hmj]; rfl
              refine q_aload hX 0 d_Re_readTag_157 rfl (by first | rfl | assumption) ?_
              refine q_aload hX 0 d_Re_readTag_158 rfl (by first | rfl | assumption) ?_
              refine r_getf hX d_Re_readTag_159 fl_Re_28 hr1 rfl ?_
              refine r_getf hX d_Re_readTag_162 fl_Re_56 uj rfl ?_
              rw [o3]
              refine r_putf hX d_Re_readTag_165 fp_Re_28 hr1 (by first | assumption | decide | omega) rfl rfl (Nat.le_of_ble_eq_true rfl) ?_
              refine r_goto hX 123 d_Re_readTag_168 (by decide) ?_
              exact ih none _ _ (fun _ z => by cases z) (by rw [← e2, pop2, if_pos ⟨hop, hfi⟩, hmj]) (ev_set_self _ _ _) (hs1.set (by simp)) l0 l3
            | some q =>
              have hqj := (hok j hj).2.2.2 q hmj
              have o3 : (sE S j).2.1 = some (sa S q) := by rw [(hok j hj).2.2.1, hmj]; rfl
              refine q_aload hX 0 d_Re_readTag_157 rfl (by first | rfl | assumption) ?_
              refine q_aload hX 0 d_Re_readTag_158 rfl (by first | rfl | assumption) ?_
              refine r_getf hX d_Re_readTag_159 fl_Re_28 hr1 rfl ?_
              refine r_getf hX d_Re_readTag_162 fl_Re_56 uj rfl ?_
              rw [o3]
              refine r_putf hX d_Re_readTag_165 fp_Re_28 hr1 (by first | assumption | decide | omega) rfl rfl (Nat.le_of_ble_eq_true rfl) ?_
              refine r_goto hX 123 d_Re_readTag_168 (by decide) ?_
              exact ih (some q) _ _ (fun _ z => by cases z; omega) (by rw [← e2, pop2, if_pos ⟨hop, hfi⟩, hmj]) (ev_set_self _ _ _) (hs1.set (by simp)) l0 l3
  have at63 : ∀ (ls : Ev_L) (w1 : Ev_W), is_Re w1 fp ((pop1 (sE S) (si S) p 61 ms).map (sa S)) (nI p) (nI (rd_e1 (sE S) c (pop1 (sE S) (si S) p 61 ms))) tg vf vL → ev_sm w w1 [112] → ls.1 0 = some (.ref 112) → ev_W G M_Re_readTag X 0 0 63 ls [] w1 := by
    intro ls w1 hr1 hs1 l0
    unfold is_Re at hr1
    refine q_aload hX 0 d_Re_readTag_63 rfl (by first | rfl | assumption) ?_
    refine r_getf hX d_Re_readTag_64 fl_Re_15 hr1 rfl ?_
    refine q_aload hX 0 d_Re_readTag_67 rfl (by first | rfl | assumption) ?_
    refine r_getf hX d_Re_readTag_68 fl_Re_32 hr1 rfl ?_
    refine r_callV (as := [_]) hX d_Re_readTag_71 lk_Re_58 (hin.sm hs1 (by decide) (by decide)).1 rfl rfl (Nat.le_of_ble_eq_true rfl) (by decide) 0 0 (Nat.le_refl _) (Nat.le_refl _) (c_Ro_at (G := G) (hin.sm hs1 (by decide) (by decide)) (by omega) (by decide) (nI p)) (fun v w2 hq => ?_)
    obtain ⟨rfl, hw⟩ := hq
    rw [hw, rd_at hg hpc]
    refine q_istore hX 1 d_Re_readTag_74 rfl (by decide) ?_
    refine q_iload hX 1 d_Re_readTag_75 rfl (by first | rfl | assumption) ?_
    refine r_bipush (v := 16) hX d_Re_readTag_76 (by decide) ?_
    refine r_icmp_ge hX 84 d_Re_readTag_78 (by decide) (fun c78 => ?_) (fun c78 => ?_)
    · have h16 : ¬ g p < 16 := fun z => nI_ge (a := g p) (b := 16) z (by decide) c78
      refine q_iload hX 1 d_Re_readTag_84 rfl (by first | rfl | assumption) ?_
      refine r_callSN (as := [_]) hX d_Re_readTag_85 lk_Re_62 rfl (Nat.le_of_ble_eq_true rfl) (by decide) 0 0 (Nat.le_refl _) (Nat.le_refl _) (c_EF_vintLengthByFirst (G := G) (g p) hgp) (fun v w2 hq => ?_)
      obtain ⟨rfl, hw⟩ := hq
      rw [hw]
      refine q_istore hX 2 d_Re_readTag_88 rfl (by decide) ?_
      refine q_iload hX 2 d_Re_readTag_89 rfl (by first | rfl | assumption) ?_
      refine q_aload hX 0 d_Re_readTag_90 rfl (by first | rfl | assumption) ?_
      refine r_getf hX d_Re_readTag_91 fl_Re_57 hr1 rfl ?_
      refine q_aload hX 0 d_Re_readTag_94 rfl (by first | rfl | assumption) ?_
      refine r_getf hX d_Re_readTag_95 fl_Re_32 hr1 rfl ?_
      refine r_isub hX d_Re_readTag_98 ?_
      rw [nI_sb (by omega)]
      refine r_icmp_le hX 105 d_Re_readTag_99 (by decide) (fun c99 => ?_) (fun c99 => ?_)
      · have hle : p + vl (g p) ≤ (rd_e1 (sE S) c (pop1 (sE S) (si S) p 61 ms)) := by have := (nI_leI (by omega) (by omega)).mp c99; omega
        refine q_aload hX 0 d_Re_readTag_105 rfl (by first | rfl | assumption) ?_
        refine q_aload hX 0 d_Re_readTag_106 rfl (by first | rfl | assumption) ?_
        refine q_iload hX 2 d_Re_readTag_107 rfl (by first | rfl | assumption) ?_
        refine r_callV (as := [_]) hX d_Re_readTag_108 lk_Re_65 hr1 rfl rfl (Nat.le_of_ble_eq_true rfl) (by decide) 0 0 (Nat.le_refl _) (Nat.le_refl _) (c_Re_nextNumber (G := G) (hin.sm hs1 (by decide) (by decide)) hg hr1 (vl (g p)) (by omega)) (fun v w3 hq => ?_)
        obtain ⟨rfl, hr3, hs3⟩ := hq
        unfold is_Re at hr3
        refine r_l2i hX d_Re_readTag_111 ?_
        rw [lN_i]
        refine r_putf hX d_Re_readTag_112 fp_Re_69 hr3 (by first | assumption | decide | omega) rfl rfl (Nat.le_of_ble_eq_true rfl) ?_
        refine q_aload hX 0 d_Re_readTag_115 rfl (by first | rfl | assumption) ?_
        refine r_getf hX d_Re_readTag_116 fl_Re_69 (ev_set_self _ _ _) rfl ?_
        refine r_callS (as := [_]) hX d_Re_readTag_119 lk_Re_72 rfl (Nat.le_of_ble_eq_true rfl) (by decide) 0 0 (Nat.le_refl _) (Nat.le_refl _) (c_So_of (G := G) _) (fun v w4 hq => ?_)
        obtain ⟨rfl, hw⟩ := hq
        rw [hw]
        refine q_astore hX 3 d_Re_readTag_122 rfl (by decide) ?_
        exact loopD 61 (pop1 (sE S) (si S) p 61 ms) _ _ h16 hle (fun j hj => by have := hm1lt j hj; omega) rfl (ev_set_self _ _ _) (hs1.tr (hs3.set (by simp))) l0 rfl
      · refine r_bipush (v := -2) hX d_Re_readTag_102 (by decide) ?_
        refine r_iret hX hR d_Re_readTag_104 rfl (by first | rfl | assumption) ?_
        exact ⟨hs1, Or.inr (Or.inl ⟨h16, Nat.lt_of_not_le (fun z => c99 (nI_le (a := vl (g p)) (b := (rd_e1 (sE S) c (pop1 (sE S) (si S) p 61 ms)) - p) (by omega) (by omega))), rfl, hr1⟩)⟩
    · refine r_bipush (v := -3) hX d_Re_readTag_81 (by decide) ?_
      refine r_iret hX hR d_Re_readTag_83 rfl (by first | rfl | assumption) ?_
      exact ⟨hs1, Or.inl ⟨Nat.lt_of_not_le (fun z => c78 (nI_le (a := 16) (b := g p) z (by omega))), rfl, hr1⟩⟩
  have at35 : ∀ (o : Option Nat) (ls : Ev_L) (w1 : Ev_W), o = (pop1 (sE S) (si S) p 61 ms) → is_Re w1 fp (o.map (sa S)) (nI p) en tg vf vL → ev_sm w w1 [112] → ls.1 0 = some (.ref 112) → ev_W G M_Re_readTag X 0 0 35 ls [] w1 := by
    intro o ls w1 hm1 hr1 hs1 l0
    unfold is_Re at hr1
    cases o with
    | none =>
      refine q_aload hX 0 d_Re_readTag_35 rfl (by first | rfl | assumption) ?_
      refine q_aload hX 0 d_Re_readTag_36 rfl (by first | rfl | assumption) ?_
      refine r_getf hX d_Re_readTag_37 fl_Re_28 hr1 rfl ?_
      refine r_ifnonnullN hX d_Re_readTag_40 ?_
      refine q_aload hX 0 d_Re_readTag_43 rfl (by first | rfl | assumption) ?_
      refine r_getf hX d_Re_readTag_44 fl_Re_15 hr1 rfl ?_
      refine r_getf hX d_Re_readTag_47 fl_Re_35 (hin.sm hs1 (by decide) (by decide)).1 rfl ?_
      refine r_goto hX 60 d_Re_readTag_50 (by decide) ?_
      refine r_putf hX d_Re_readTag_60 fp_Re_57 hr1 (by first | assumption | decide | omega) rfl rfl (Nat.le_of_ble_eq_true rfl) ?_
      exact at63 _ _ (by rw [← hm1]; exact ev_set_self _ _ _) (hs1.set (by simp)) l0
    | some j =>
      have hj := (hm1lt j hm1.symm).1
      obtain ⟨u1, u2, u3, u4⟩ := hes.1 j (by omega)
      have uj := (hs1.2 (sa S j) (by simp; omega)).trans u3
      refine q_aload hX 0 d_Re_readTag_35 rfl (by first | rfl | assumption) ?_
      refine q_aload hX 0 d_Re_readTag_36 rfl (by first | rfl | assumption) ?_
      refine r_getf hX d_Re_readTag_37 fl_Re_28 hr1 rfl ?_
      refine r_ifnonnull hX 53 d_Re_readTag_40 (by decide) ?_
      refine q_aload hX 0 d_Re_readTag_53 rfl (by first | rfl | assumption) ?_
      refine r_getf hX d_Re_readTag_54 fl_Re_28 hr1 rfl ?_
      refine r_getf hX d_Re_readTag_57 fl_Re_51 uj rfl ?_
      rw [(heo j hj).1]
      refine r_putf hX d_Re_readTag_60 fp_Re_57 hr1 (by first | assumption | decide | omega) rfl rfl (Nat.le_of_ble_eq_true rfl) ?_
      exact at63 _ _ (by rw [← hm1]; exact ev_set_self _ _ _) (hs1.set (by simp)) l0
  have loopA : ∀ (k : Nat) (o : Option Nat) (ls : Ev_L) (w1 : Ev_W), (∀ j, o = some j → j < sn S ∧ j < k) → pop1 (sE S) (si S) p k o = (pop1 (sE S) (si S) p 61 ms) → is_Re w1 fp (o.map (sa S)) (nI p) en tg vf vL → ev_sm w w1 [112] → ls.1 0 = some (.ref 112) → ev_W G M_Re_readTag X 0 0 0 ls [] w1 := by
    intro k
    induction k with
    | zero =>
      intro o ls w1 ho e2 hr1 hs1 l0
      have hon : o = none := by cases o with
        | none => rfl
        | some j => exact absurd (ho j rfl).2 (Nat.not_lt_zero _)
      subst hon
      unfold is_Re at hr1
      refine q_aload hX 0 d_Re_readTag_0 rfl (by first | rfl | assumption) ?_
      refine r_getf hX d_Re_readTag_1 fl_Re_28 hr1 rfl ?_
      refine r_ifnullN hX 35 d_Re_readTag_4 (by decide) ?_
      exact at35 none _ _ (by rw [← e2]; first | rfl | rw [pop1_n]) hr1 hs1 l0
    | succ k ih =>
      intro o ls w1 ho e2 hr1 hs1 l0
      unfold is_Re at hr1
      cases o with
      | none =>
        refine q_aload hX 0 d_Re_readTag_0 rfl (by first | rfl | assumption) ?_
        refine r_getf hX d_Re_readTag_1 fl_Re_28 hr1 rfl ?_
        refine r_ifnullN hX 35 d_Re_readTag_4 (by decide) ?_
        exact at35 none _ _ (by rw [← e2]; first | rfl | rw [pop1_n]) hr1 hs1 l0
      | some j =>
        obtain ⟨hj, hjk⟩ := ho j rfl
        obtain ⟨u1, u2, u3, u4⟩ := hes.1 j (by omega)
        have uj := (hs1.2 (sa S j) (by simp; omega)).trans u3
        refine q_aload hX 0 d_Re_readTag_0 rfl (by first | rfl | assumption) ?_
        refine r_getf hX d_Re_readTag_1 fl_Re_28 hr1 rfl ?_
        refine r_ifnull hX d_Re_readTag_4 ?_
        refine q_aload hX 0 d_Re_readTag_7 rfl (by first | rfl | assumption) ?_
        refine r_getf hX d_Re_readTag_8 fl_Re_32 hr1 rfl ?_
        refine q_aload hX 0 d_Re_readTag_11 rfl (by first | rfl | assumption) ?_
        refine r_getf hX d_Re_readTag_12 fl_Re_28 hr1 rfl ?_
        refine r_getf hX d_Re_readTag_15 fl_Re_51 uj rfl ?_
        rw [(heo j hj).1]
        refine r_icmp_lt hX 35 d_Re_readTag_18 (by decide) (fun c18 => ?_) (fun c18 => ?_)
        · have hlt : ¬ rd_en (sE S) j ≤ p := fun z => nI_nlt z (by omega) c18
          exact at35 (some j) _ _ (by rw [← e2, pop1, if_neg hlt]) hr1 hs1 l0
        · have hle : rd_en (sE S) j ≤ p := Nat.le_of_not_lt (fun z => c18 (nI_lt z (by have := (heo j hj).2; omega)))
          cases hmj : si S j with
          | none =>
            have o3 : (sE S j).2.1 = none := by rw [(hok j hj).2.2.1, hmj]; rfl
            refine q_aload hX 0 d_Re_readTag_21 rfl (by first | rfl | assumption) ?_
            refine q_aload hX 0 d_Re_readTag_22 rfl (by first | rfl | assumption) ?_
            refine r_getf hX d_Re_readTag_23 fl_Re_28 hr1 rfl ?_
            refine r_getf hX d_Re_readTag_26 fl_Re_56 uj rfl ?_
            rw [o3]
            refine r_putf hX d_Re_readTag_29 fp_Re_28 hr1 (by first | assumption | decide | omega) rfl rfl (Nat.le_of_ble_eq_true rfl) ?_
            refine r_goto hX 0 d_Re_readTag_32 (by decide) ?_
            exact ih none _ _ (fun _ z => by cases z) (by rw [← e2, pop1, if_pos hle, hmj]) (ev_set_self _ _ _) (hs1.set (by simp)) l0
          | some q =>
            have hqj := (hok j hj).2.2.2 q hmj
            have o3 : (sE S j).2.1 = some (sa S q) := by rw [(hok j hj).2.2.1, hmj]; rfl
            refine q_aload hX 0 d_Re_readTag_21 rfl (by first | rfl | assumption) ?_
            refine q_aload hX 0 d_Re_readTag_22 rfl (by first | rfl | assumption) ?_
            refine r_getf hX d_Re_readTag_23 fl_Re_28 hr1 rfl ?_
            refine r_getf hX d_Re_readTag_26 fl_Re_56 uj rfl ?_
            rw [o3]
            refine r_putf hX d_Re_readTag_29 fp_Re_28 hr1 (by first | assumption | decide | omega) rfl rfl (Nat.le_of_ble_eq_true rfl) ?_
            refine r_goto hX 0 d_Re_readTag_32 (by decide) ?_
            exact ih (some q) _ _ (fun _ z => by cases z; omega) (by rw [← e2, pop1, if_pos hle, hmj]) (ev_set_self _ _ _) (hs1.set (by simp)) l0
  exact loopA 61 ms _ w (fun j hj => by have := hms j hj; omega) rfl hre ev_sm.rf rfl
