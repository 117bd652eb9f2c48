/-! ===== Reader: readTree ===== -/
abbrev Ev_RS : Type := Ev_S × (Nat → Int32) × Nat × Option Nat × Nat
def rd_me (E : Nat → Ev_E) (o : Option Nat) : Nat := match o with
  | none => 0
  | some j => rd_en E j
def rd_pf (S : Ev_S) : Nat → Int32 := tr_e (sm S) (sn S) (sP S) (fun _ => 0)
/-- the data of the element whose ID and size were read -/
def rd_2 (g : Nat → Nat) (S : Ev_S) (sf : Nat → Int32) (sd : Nat) (m2 : Option Nat) (t : Int32) (q e2 : Nat) (op : Bool) : Int32 ⊕ Ev_RS :=
  if so_fm (so_of t) = 0 then .inr (ad_S S m2 (rs_E S m2 t e2 op) (rd_pf S), sf, sd, some (sn S), q) else match lfd g q e2 (rd_me (sE S) m2) (so_fm (so_of t)) with
  | none => .inl (-7)
  | some l => .inr (ad_S S m2 (lf_E (rs_E S m2 t e2 op) sd e2 l) (pa_f l.2.1 (rd_pf S)), lf_sf sf sd g e2 l, lf_sd sd e2 l, m2, e2)
/-- one turn of the reading: a fault, or one element more -/
def rd_1 (c : Nat) (g : Nat → Nat) (S : Ev_S) (sf : Nat → Int32) (sd : Nat) (ms : Option Nat) (p : Nat) : Int32 ⊕ Ev_RS :=
  if g p < 16 then .inl (-3) else if (rd_e1 (sE S) c (pop1 (sE S) (si S) p 61 ms)) < (p + vl (g p)) then .inl (-2) else if ¬ mk_may (sE S) (sn S) (so_of (nI (nb g p (vl (g p))))) (pop2 (sE S) (si S) (so_of (nI (nb g p (vl (g p))))) 61 (pop1 (sE S) (si S) p 61 ms)) = true then .inl (-4) else
  if ¬ rs_c g (p + vl (g p)) (rd_e1 (sE S) c (pop1 (sE S) (si S) p 61 ms)) (so_of (nI (nb g p (vl (g p))))) (sn S) = 0 then .inl (rs_c g (p + vl (g p)) (rd_e1 (sE S) c (pop1 (sE S) (si S) p 61 ms)) (so_of (nI (nb g p (vl (g p))))) (sn S)) else match vi g (p + vl (g p)) (rd_e1 (sE S) c (pop1 (sE S) (si S) p 61 ms)) with
  | none => .inl 0
  | some r => rd_2 g S sf sd (pop2 (sE S) (si S) (so_of (nI (nb g p (vl (g p))))) 61 (pop1 (sE S) (si S) p 61 ms)) (nI (nb g p (vl (g p)))) ((p + vl (g p)) + r.2) (rs_e (p + vl (g p)) (rd_e1 (sE S) c (pop1 (sE S) (si S) p 61 ms)) r) (vi_full r)
def rd_go (c : Nat) (g : Nat → Nat) : Nat → Ev_RS → Option Int32 × Ev_RS
  | 0, T => (none, T)
  | k + 1, T => if T.2.2.2.2 < c then (match rd_1 c g T.1 T.2.1 T.2.2.1 T.2.2.2.1 T.2.2.2.2 with
    | .inl x => (some x, T)
    | .inr T' => rd_go c g k T') else (none, T)
def rd_S0 (S : Ev_S) : Ev_S := (0, S.2)
def rd_fr (w w1 : Ev_W) : Prop := ∀ q, q < 139 → q ∉ [108, 109, 110, 111, 112] → w1.2 q = w.2 q
/-- what holds between two turns -/
def rd_I (w w1 : Ev_W) (As : Nat → Option Nat) (c : Nat) (T : Ev_RS) (fp : Int32) : Prop := is_S w1 T.1 As T.2.1 T.2.2.1 ∧ rd_eok T.1 c ∧ is_po (sn T.1) (sE T.1) (si T.1) ∧ is_tl (sn T.1) (sE T.1) T.2.2.2.1 ∧ T.2.2.1 ≤ T.2.2.2.2 ∧ T.2.2.2.2 ≤ c ∧ (∃ en tg vf vL, is_Re w1 fp (T.2.2.2.1.map (sa T.1)) (nI T.2.2.2.2) en tg vf vL) ∧ rd_fr w w1
theorem lf_E_f (E : Ev_E) (sd e : Nat) (l : Ev_Lf) (i : Nat) (h : i < 3 ∨ 9 ≤ i) : (lf_E E sd e l).2.2.2 i = E.2.2.2 i := by
  have hd : (lf_d E l.2.2.1).2.2.2 i = E.2.2.2 i := by
    unfold lf_d
    split
    · rfl
    · show upd (upd (upd (upd E.2.2.2 5 _) 6 _) 7 _) 8 _ i = _
      unfold upd
      rw [if_neg (by omega), if_neg (by omega), if_neg (by omega), if_neg (by omega)]
  unfold lf_E
  split
  · exact hd
  · show upd (upd (lf_d E l.2.2.1).2.2.2 3 _) 4 _ i = _
    unfold upd
    rw [if_neg (by omega), if_neg (by omega)]; exact hd
theorem lf_E_1 (E : Ev_E) (sd e : Nat) (l : Ev_Lf) : (lf_E E sd e l).1 = E.1 ∧ (lf_E E sd e l).2.1 = E.2.1 := by
  have hd : (lf_d E l.2.2.1).1 = E.1 ∧ (lf_d E l.2.2.1).2.1 = E.2.1 := by unfold lf_d; split <;> exact ⟨rfl, rfl⟩
  unfold lf_E
  split <;> exact hd
theorem rs_E_f (S : Ev_S) (m2 : Option Nat) (t : Int32) (e : Nat) (op : Bool) : (rs_E S m2 t e op).2.2.2 9 = nI e ∧ (rs_E S m2 t e op).2.2.2 1 = mk_lv (sE S) m2 ∧ (rs_E S m2 t e op).2.2.2 2 = nI (mk_p (sE S) (sn S) m2) ∧ (rs_E S m2 t e op).1 = so_of t ∧ (rs_E S m2 t e op).2.1 = m2.map (sa S) := ⟨rfl, rfl, rfl, rfl, rfl⟩
theorem map_ins {n e : Nat} {ad : Nat → Nat} {o : Option Nat} (h : ∀ j, o = some j → j < n) : o.map (tr_ins n n e ad) = o.map ad := by
  cases o with
  | none => rfl
  | some j => show some _ = some _; rw [ins_lo (h j rfl)]
theorem is_S.clr {w : Ev_W} {S : Ev_S} {As : Nat → Option Nat} {sf : Nat → Int32} {sd : Nat} (h : is_S w S As sf sd) : is_S (ev_set w 108 (.inr (4, [.ref 109, .ref 110, .int 0, .ref 111, .int (nI sd)]))) (rd_S0 S) As sf sd := by
  obtain ⟨a1, a2, a3, a4, a5, a6, a7, a8⟩ := h
  exact ⟨⟨ev_set_self _ _ _, (ev_set_ne _ _ (by decide)).trans a1.2.1, (ev_set_ne _ _ (by decide)).trans a1.2.2.1, (ev_set_ne _ _ (by decide)).trans a1.2.2.2⟩, a2.same (fun q hq => ev_set_ne _ _ (by omega)), fun i hi => absurd hi (Nat.not_lt_zero _), Nat.zero_le _, a5, a6, a7, a8⟩
/-- the state behind a turn -/
theorem rd_next {w w0 w1 w4 : Ev_W} {S : Ev_S} {As : Nat → Option Nat} {sf sf' : Nat → Int32} {sd sd' c : Nat} {m2 ms' : Option Nat} {t : Int32} {e2 p' : Nat} {E1 : Ev_E} {pf : Nat → Int32} {fp : Int32}
    (hS : is_S w0 S As sf sd) (heo : rd_eok S c) (hpo : is_po (sn S) (sE S) (si S)) (htl : is_tl (sn S) (sE S) m2) (hn : sn S < 60)
    (hadd : tr_added w0 w1 (sn S) (sm S) (mk_p (sE S) (sn S) m2) (sL S) As sf sd (sa S) (sE S) (sP S) (so_of t) t (m2.map (sa S)) (mk_lv (sE S) m2))
    (hT : is_Tr w4 (sn S + 1) (tr_ins (mk_p (sE S) (sn S) m2) (sn S) (some (ad_e S)) (sL S)) As sf' sd') (hsm : ev_sm w1 w4 [112, 108, 111, ad_e S, ad_e S + 1]) (he : w4.2 (ad_e S) = some (el_C (ad_e S) E1)) (hpf : w4.2 (ad_e S + 1) = some (.inl (0, 16, .inl pf)))
    (f1 : E1.2.2.2 2 = nI (mk_p (sE S) (sn S) m2)) (f2 : E1.1 = so_of t) (f3 : E1.2.1 = m2.map (sa S)) (f4 : E1.2.2.2 1 = mk_lv (sE S) m2) (f5 : E1.2.2.2 9 = nI e2) (hec : e2 ≤ c) (hc : c ≤ 640)
    (hms : ms' = m2 ∨ ms' = some (sn S)) (hsd : sd' ≤ p') (hp : p' ≤ c) (hre : ∃ en tg vf vL, is_Re w4 fp (ms'.map (tr_ins (sn S) (sn S) (ad_e S) (sa S))) (nI p') en tg vf vL) (hfr : rd_fr w w4) : rd_I w w4 As c (ad_S S m2 E1 pf, sf', sd', ms', p') fp := by
  have hend := htl.end (by omega) hpo
  have hmo : ∀ j, m2 = some j → j < sn S := fun j hj => (htl j hj).1
  have h9 := is_S.add (l := [112, 108, 111]) hS hmo (so_of_lt t) hadd hn hT hsm (by simp) he hpf f1 (by rw [f2]; exact so_of_lt t) f3
  have h10 := po_ins (E1 := E1) (by omega) hpo hmo f4
  have h11 := tl_ins (E1 := E1) (by omega) hpo htl f4
  refine ⟨h9, ?_, h10, ?_, hsd, hp, ?_, hfr⟩
  · intro j hj
    have hj : j < sn S + 1 := hj
    show ((tr_insE (mk_p (sE S) (sn S) m2) (sn S) E1 (sE S)) j).2.2.2 9 = nI (rd_en (tr_insE (mk_p (sE S) (sn S) m2) (sn S) E1 (sE S)) j) ∧ rd_en (tr_insE (mk_p (sE S) (sn S) m2) (sn S) E1 (sE S)) j ≤ c
    rw [hend]
    unfold rd_en
    by_cases z : j < sn S
    · rw [insE_lo z]; exact heo j z
    · have hz : j = sn S := by omega
      subst hz
      rw [insE_at, f5, nI_clamp (by omega)]
      exact ⟨rfl, hec⟩
  · show is_tl (sn S + 1) (tr_insE (mk_p (sE S) (sn S) m2) (sn S) E1 (sE S)) ms'
    rw [hend]
    rcases hms with rfl | rfl
    · exact h11.1
    · exact h11.2
  · obtain ⟨en, tg, vf, vL, hre⟩ := hre
    refine ⟨en, tg, vf, vL, ?_⟩
    show is_Re w4 fp (ms'.map (tr_ins (mk_p (sE S) (sn S) m2) (sn S) (ad_e S) (sa S))) (nI p') en tg vf vL
    rw [hend]; exact hre
