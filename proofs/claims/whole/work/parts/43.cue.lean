/-! ===== Finder: addNumber, addCue ===== -/
def so_tg (s : Nat) : Int32 := ((ev_fl[0]).2.2.2).getD s 0
/-- one element more, of this sort and number -/
def nw (S : Ev_S) (o : Option Nat) (s : Nat) (x : Int64) : Ev_S := ad_S S o (ad_E S o s (so_tg s) x) (rd_pf S)
def nw_fr (w w' : Ev_W) : Prop := ∀ q, q < 139 → q ∉ [108, 109] → w'.2 q = w.2 q
theorem nw_po {S : Ev_S} {o : Option Nat} {s : Nat} {x : Int64} (hn : sn S ≤ 60) (h : is_po (sn S) (sE S) (si S)) (ho : ∀ j, o = some j → j < sn S) : is_po (sn (nw S o s x)) (sE (nw S o s x)) (si (nw S o s x)) := po_ins hn h ho rfl
theorem nw_is {w w1 w' : Ev_W} {S : Ev_S} {As : Nat → Option Nat} {sf : Nat → Int32} {sd s : Nat} {o : Option Nat} {x : Int64} (h : is_S w S As sf sd) (ho : ∀ j, o = some j → j < sn S) (hs : s < 17) (hn : sn S < 60)
    (hadd : tr_added w w1 (sn S) (sm S) (mk_p (sE S) (sn S) o) (sL S) As sf sd (sa S) (sE S) (sP S) s (so_tg s) (o.map (sa S)) (mk_lv (sE S) o)) (hsm : ev_sm w1 w' [ad_e S]) (he : w'.2 (ad_e S) = some (el_C (ad_e S) (ad_E S o s (so_tg s) x))) : is_S w' (nw S o s x) As sf sd := by
  have hat := hadd.at (mk_pn ho) h.2.2.2.1
  have hee : tr_e (sm S) (sn S) (sa S) w.1 = ad_e S := by rw [h.2.2.2.2.2.2.1]; rfl
  rw [hee] at hat
  have h1 := hadd.1
  rw [hee] at h1
  have hne : ∀ q : Nat, q < 139 → q ∉ [ad_e S] := fun q hq => by simp; have := hat.1; omega
  exact is_S.add (l := []) h ho hs hadd hn ⟨(hsm.2 108 (hne _ (by decide))).trans h1.1, (hsm.2 109 (hne _ (by decide))).trans h1.2.1, (hsm.2 110 (hne _ (by decide))).trans h1.2.2.1, (hsm.2 111 (hne _ (by decide))).trans h1.2.2.2⟩ (hsm.up (by simp)) (by simp) he ((hsm.2 _ (by simp)).trans hat.2.2) rfl hs rfl
theorem c_Fi_addNumber {G : Ev_G} {w : Ev_W} {S : Ev_S} {As : Nat → Option Nat} {sf : Nat → Int32} {sd : Nat} (hS : is_S w S As sf sd) (hsd : sd ≤ 1200) (hfi : is_Fi w) {k s : Nat} (hk : k < sn S) (hs : s < 17) (hn : sn S < 60) (x : Int64) : ev_Met G M_Fi_addNumber 3 2 33 [.ref 116, .ref (sa S k), .ref s, .long x] w (fun v w' => v = none ∧ is_S w' (nw S (some k) s x) As sf sd ∧ nw_fr w w') := by
  obtain ⟨htr, hes, hok, hnm, hm60, hfree, hw0, h139⟩ := id hS
  have hn60 : sn S ≤ 60 := by omega
  refine ev_Met.of md_Fi_addNumber (Nat.le_of_ble_eq_true rfl) (fun X hX hR => ?_)
  unfold is_Fi at hfi
  refine q_aload hX 0 d_Fi_addNumber_0 rfl (by first | rfl | assumption) ?_
  refine r_getf hX d_Fi_addNumber_1 fl_Fi_9 hfi rfl ?_
  refine q_aload hX 1 d_Fi_addNumber_4 rfl (by first | rfl | assumption) ?_
  refine q_aload hX 2 d_Fi_addNumber_5 rfl (by first | rfl | assumption) ?_
  refine q_aload hX 2 d_Fi_addNumber_6 rfl (by first | rfl | assumption) ?_
  refine r_getE hX d_Fi_addNumber_7 hs (q := ev_fl[0]) (by decide) m_878 ?_
  refine r_callV (as := [_, _, _]) hX d_Fi_addNumber_10 lk_Fi_68 htr.1 rfl rfl (Nat.le_of_ble_eq_true rfl) (by decide) 0 0 (Nat.le_refl _) (Nat.le_refl _) (c_Tr_addS (G := G) htr hn60 hsd hes hnm hm60 hfree (by rw [hw0]; exact h139) hk (hok k hk).1 s (so_tg s)) (fun v w2 hq => ?_)
  rcases hq with ⟨h60, rfl, hw2⟩ | ⟨h60, rfl, hadd⟩
  · omega
  · have hat := hadd.at (tr_go_le _ _ _ _ _ (by omega)) hnm
    have hee : tr_e (sm S) (sn S) (sa S) w.1 = ad_e S := by rw [hw0]; rfl
    rw [hee] at hat ⊢
    refine r_astore hX d_Fi_addNumber_13 (by decide) ?_
    refine r_aload hX d_Fi_addNumber_15 (by first | rfl | assumption) ?_
    refine r_ifnull hX d_Fi_addNumber_17 ?_
    refine r_aload hX d_Fi_addNumber_20 (by first | rfl | assumption) ?_
    refine q_lload hX 3 d_Fi_addNumber_22 rfl (by first | rfl | assumption) ?_
    refine r_putf hX d_Fi_addNumber_23 fp_Fi_92 hat.2.1 (by first | assumption | decide | omega) rfl rfl (Nat.le_of_ble_eq_true rfl) ?_
    refine r_vret hX hR d_Fi_addNumber_26 rfl ?_
    refine ⟨rfl, nw_is (w1 := w2) hS (fun j hj => by cases hj; exact hk) hs hn hadd (ev_sm.s1 (by simp)) (ev_set_self _ _ _), fun q h1 h2 => ?_⟩
    rw [ev_set_ne _ _ (by omega)]
    exact hadd.2.2.1 q h1 (fun z => h2 (by rw [z]; decide)) (fun z => h2 (by rw [z]; decide))
def cup (S : Ev_S) (k : Nat) : Nat := mk_p (sE S) (sn S) (some k)
def cu1 (S : Ev_S) (k : Nat) : Ev_S := nw S (some k) 10 0
def cu2 (S : Ev_S) (k b : Nat) : Ev_S := nw (cu1 S k) (some (cup S k)) 11 (fi_mom (sE (cu1 S k)) (si (cu1 S k)) (sn (cu1 S k)) b)
def cu3 (S : Ev_S) (k b : Nat) : Ev_S := nw (cu2 S k b) (some (cup S k)) 12 ((sE (cu2 S k b) b).2.2.2 5).toInt64
def cu4 (S : Ev_S) (k b bef : Nat) : Ev_S := nw (cu3 S k b) (some (cup S k)) 13 (lN bef)
theorem nw_lo {S : Ev_S} {o : Option Nat} {s : Nat} {x : Int64} {i : Nat} (h : i < mk_p (sE S) (sn S) o) : sa (nw S o s x) i = sa S i ∧ sE (nw S o s x) i = sE S i ∧ si (nw S o s x) i = si S i := ⟨ins_lo h, insE_lo h, miI_lo h⟩
theorem mk_p_gt {S : Ev_S} {j : Nat} : j < mk_p (sE S) (sn S) (some j) := tr_go_ge _ _ _ _ _
theorem c_Fi_addCue {G : Ev_G} {w : Ev_W} {S : Ev_S} {As : Nat → Option Nat} {sf : Nat → Int32} {sd : Nat} (hS : is_S w S As sf sd) (hsd : sd ≤ 1200) (hfi : is_Fi w) {k b : Nat} (hk : k < sn S) (hb : b < sn S) (hbp : b < cup S k) (hn : sn S + 4 ≤ 60) (bef : Nat) (hbe : bef < 2 ^ 31) : ev_Met G M_Fi_addCue 4 8 132 [.ref 116, .ref (sa S k), .ref (sa S b), .int (nI bef)] w (fun v w' => v = none ∧ is_S w' (cu4 S k b bef) As sf sd ∧ nw_fr w w') := by
  obtain ⟨htr, hes, hok, hnm, hm60, hfree, hw0, h139⟩ := id hS
  have hn60 : sn S ≤ 60 := by omega
  refine ev_Met.of md_Fi_addCue (Nat.le_of_ble_eq_true rfl) (fun X hX hR => ?_)
  unfold is_Fi at hfi
  refine q_aload hX 0 d_Fi_addCue_0 rfl (by first | rfl | assumption) ?_
  refine r_getf hX d_Fi_addCue_1 fl_Fi_9 hfi rfl ?_
  refine q_aload hX 1 d_Fi_addCue_4 rfl (by first | rfl | assumption) ?_
  refine r_getsE (i := 10) hX d_Fi_addCue_5 (by decide) m_559 ?_
  refine r_getsE (i := 10) hX d_Fi_addCue_8 (by decide) m_559 ?_
  refine r_getE hX d_Fi_addCue_11 (by decide) (q := ev_fl[0]) (by decide) m_878 ?_
  refine r_callV (as := [_, _, _]) hX d_Fi_addCue_14 lk_Fi_68 htr.1 rfl rfl (Nat.le_of_ble_eq_true rfl) (by decide) 6 99 (by decide) (by decide) (c_Tr_addS (G := G) htr hn60 hsd hes hnm hm60 hfree (by rw [hw0]; exact h139) hk (hok k hk).1 10 (so_tg 10)) (fun v w1 hq => ?_)
  rcases hq with ⟨h60, rfl, hw2⟩ | ⟨h60, rfl, hadd⟩
  · omega
  · have hat := hadd.at (tr_go_le _ _ _ _ _ (by omega)) hnm
    have hee : tr_e (sm S) (sn S) (sa S) w.1 = ad_e S := by rw [hw0]; rfl
    rw [hee] at hat ⊢
    have hS1 : is_S w1 (cu1 S k) As sf sd := nw_is (w1 := w1) hS (fun j hj => by cases hj; exact hk) (by decide) (by omega) hadd ev_sm.rf hat.2.1
    have hfa : nw_fr w w1 := fun q h1 h2 => hadd.2.2.1 q h1 (fun z => h2 (by rw [z]; decide)) (fun z => h2 (by rw [z]; decide))
    have hfi1 : w1.2 116 = _ := (hfa 116 (by decide) (by decide)).trans hfi
    have hcn : cup S k ≤ sn S := mk_pn (fun j hj => by cases hj; exact hk)
    have hacue : sa (cu1 S k) (cup S k) = ad_e S := ins_at
    have hab1 : sa (cu1 S k) b = sa S b := (nw_lo hbp).1
    have hb1 : b < sn (cu1 S k) := by show b < sn S + 1; omega
    refine r_astore hX d_Fi_addCue_17 (by decide) ?_
    refine r_aload hX d_Fi_addCue_19 (by first | rfl | assumption) ?_
    refine r_ifnonnull hX 25 d_Fi_addCue_21 (by decide) ?_
    refine q_aload hX 0 d_Fi_addCue_25 rfl (by first | rfl | assumption) ?_
    refine r_aload hX d_Fi_addCue_26 (by first | rfl | assumption) ?_
    refine r_getsE (i := 11) hX d_Fi_addCue_28 (by decide) m_572 ?_
    refine q_aload hX 0 d_Fi_addCue_31 rfl (by first | rfl | assumption) ?_
    refine q_aload hX 2 d_Fi_addCue_32 rfl (by first | rfl | assumption) ?_
    rw [← hab1, ← hacue]
    refine r_callV (as := [_]) hX d_Fi_addCue_33 lk_Fi_75 hfi1 rfl rfl (Nat.le_of_ble_eq_true rfl) (by decide) 6 99 (by decide) (by decide) (c_Fi_momentOf (G := G) hS1.1 (by have := hS1.2.2.2.1; have := hS1.2.2.2.2.1; omega) hsd hS1.2.1 hS1.2.2.2.1 hS1.2.2.1 hfi1 (k := b) hb1) (fun v w9 hq => ?_)
    obtain ⟨rfl, hw9⟩ := hq
    rw [hw9]
    refine r_callV (as := [_, _, _]) hX d_Fi_addCue_36 lk_Fi_79 hfi1 rfl rfl (Nat.le_of_ble_eq_true rfl) (by decide) 4 66 (by decide) (by decide) (c_Fi_addNumber (G := G) (S := cu1 S k) hS1 hsd hfi1 (k := cup S k) (s := 11) (show cup S k < sn S + 1 by omega) (by decide) (by show sn S + 1 < 60; omega) _) (fun v w2 hq => ?_)
    obtain ⟨rfl, hS11, hf11⟩ := hq
    have hS2 : is_S w2 (cu2 S k b) As sf sd := hS11
    have hfi2 : w2.2 116 = _ := (hf11 116 (by decide) (by decide)).trans hfi1
    have hgt2 : cup S k < mk_p (sE (cu1 S k)) (sn (cu1 S k)) (some (cup S k)) := mk_p_gt
    have ha2 : sa (cu1 S k) (cup S k) = sa (cu2 S k b) (cup S k) := (nw_lo hgt2).1.symm
    have hab2 : sa (cu2 S k b) b = sa (cu1 S k) b := (nw_lo (by omega)).1
    have hb2 : w2.2 (sa (cu1 S k) b) = some (el_C (sa (cu1 S k) b) (sE (cu2 S k b) b)) := by
      have h1 := (hS2.2.1.1 b (by have h2 := hS2.2.2.2.1; have : sn (cu2 S k b) = sn S + 2 := rfl; omega)).2.2.1
      rw [hab2] at h1; exact h1
    refine q_aload hX 0 d_Fi_addCue_39 rfl (by first | rfl | assumption) ?_
    refine r_aload hX d_Fi_addCue_40 (by first | rfl | assumption) ?_
    refine r_getsE (i := 12) hX d_Fi_addCue_42 (by decide) m_583 ?_
    refine q_aload hX 2 d_Fi_addCue_45 rfl (by first | rfl | assumption) ?_
    refine r_getf hX d_Fi_addCue_46 fl_Fi_86 hb2 rfl ?_
    refine r_i2l hX d_Fi_addCue_49 ?_
    rw [ha2]
    refine r_callV (as := [_, _, _]) hX d_Fi_addCue_50 lk_Fi_79 hfi2 rfl rfl (Nat.le_of_ble_eq_true rfl) (by decide) 2 33 (by decide) (by decide) (c_Fi_addNumber (G := G) (S := cu2 S k b) hS2 hsd hfi2 (k := cup S k) (s := 12) (show cup S k < sn S + 2 by omega) (by decide) (by show sn S + 2 < 60; omega) _) (fun v w3 hq => ?_)
    obtain ⟨rfl, hS12, hf12⟩ := hq
    have hS3 : is_S w3 (cu3 S k b) As sf sd := hS12
    have hfi3 : w3.2 116 = _ := (hf12 116 (by decide) (by decide)).trans hfi2
    have hgt3 : cup S k < mk_p (sE (cu2 S k b)) (sn (cu2 S k b)) (some (cup S k)) := mk_p_gt
    have ha3 : sa (cu2 S k b) (cup S k) = sa (cu3 S k b) (cup S k) := (nw_lo hgt3).1.symm
    refine q_aload hX 0 d_Fi_addCue_53 rfl (by first | rfl | assumption) ?_
    refine r_aload hX d_Fi_addCue_54 (by first | rfl | assumption) ?_
    refine r_getsE (i := 13) hX d_Fi_addCue_56 (by decide) m_584 ?_
    refine q_iload hX 3 d_Fi_addCue_59 rfl (by first | rfl | assumption) ?_
    refine r_i2l hX d_Fi_addCue_60 ?_
    rw [nI_l (by omega), ha3]
    refine r_callV (as := [_, _, _]) hX d_Fi_addCue_61 lk_Fi_79 hfi3 rfl rfl (Nat.le_of_ble_eq_true rfl) (by decide) 0 0 (by decide) (by decide) (c_Fi_addNumber (G := G) (S := cu3 S k b) hS3 hsd hfi3 (k := cup S k) (s := 13) (show cup S k < sn S + 3 by omega) (by decide) (by show sn S + 3 < 60; omega) _) (fun v w4 hq => ?_)
    obtain ⟨rfl, hS13, hf13⟩ := hq
    refine r_vret hX hR d_Fi_addCue_64 rfl ?_
    exact ⟨rfl, hS13, fun q h1 h2 => (hf13 q h1 h2).trans ((hf12 q h1 h2).trans ((hf11 q h1 h2).trans (hfa q h1 h2)))⟩
