/-! ===== the reference: readData ===== -/
/-- what the row of an element that was read has, by its form -/
def rr (A' : Ev_A) (n : Nat) (fm : Int32) (p e sd : Nat) (l : Ev_Lf) : Prop := (fm = 1 → A'.2 n = l.1) ∧ (fm = 2 → l.2.1.length ≤ 16 ∧ A'.1 121 n = nI l.2.1.length ∧ ∀ i, i < l.2.1.length → A'.1 122 (16 * n + i) = nI (l.2.1.getD i 0)) ∧
  (fm = 3 → A'.1 121 n = nI l.2.1.length ∧ (∃ d q, l.2.2.1 = some d ∧ l.2.2.2 = some q ∧ A'.1 123 n = nI d.1 ∧ A'.1 124 n = d.2.1 ∧ A'.1 125 n = b_i d.2.2.1 ∧ A'.1 126 n = nI d.2.2.2) ∧ ∀ i, i < l.2.1.length → A'.1 127 (8 * n + i) = nI (l.2.1.getD i 0) ∧ A'.1 128 (8 * n + i) = nI (sd + sm_N (fun j => l.2.1.getD j 0) i)) ∧
  (fm = 5 ∨ fm = 6 → A'.1 121 n = nI (e - p)) ∧ (fm = 6 → A'.1 128 (8 * n) = nI sd)
def rda_post (w : Ev_W) (I : Nat → Int32) (A : Ev_A) (o : Option Ev_Lf) (n sd p e : Nat) (fm : Int32) (g : Nat → Nat) (sf : Nat → Int32) (v : Option Value) (w' : Ev_W) : Prop := ∃ I' v' A', is_M w' I' v' A' ∧ mo_sm w w' ∧ i_but I I' [1, 7, 8, 9] ∧ lo A A' n sd ∧ A'.1 118 = A.1 118 ∧ A'.1 119 = A.1 119 ∧ match o with
  | none => v = some (.int 0) ∧ I' 1 = I 1
  | some l => v = some (.int 1) ∧ I' 1 = nI (lf_sd sd e l) ∧ (∀ x, x < lf_sd sd e l → A'.1 129 x = lf_sf sf sd g e l x) ∧ rr A' n fm p e sd l
theorem a_but.lo {A A' : Ev_A} {n sd : Nat} (h : a_but A A' [121, 122]) (h1 : ∀ x, x < n → A'.1 121 x = A.1 121 x) (h2 : ∀ x, x < 16 * n → A'.1 122 x = A.1 122 x) : lo A A' n sd := by
  refine ⟨fun q hq x hx => ?_, fun q hq => h.1 q (fun z => hq (by simp at z; rcases z with rfl | rfl <;> decide)), fun x _ => by rw [h.2]⟩
  by_cases z1 : q = 121
  · subst z1; rw [lo.i1 121 (by decide)] at hx; exact h1 x hx
  · by_cases z2 : q = 122
    · subst z2; exact h2 x hx
    · rw [h.1 q (by simp [z1, z2])]
set_option maxHeartbeats 1000000 in
theorem c_Mo_readData {G : Ev_G} {w : Ev_W} {I : Nat → Int32} {v0 : Int64} {A : Ev_A} (hM : is_M w I v0 A) {c : Nat} {g : Nat → Nat} (hg : rd_g c (A.1 132) g) {p : Nat} (hat : I 7 = nI p) {n : Nat} (hcn : I 0 = nI n) (hn : n ≤ 60) {sd e me k : Nat} (hu : I 1 = nI sd) (hsd : sd + (e - p) ≤ 1300) {sf : Nat → Int32} (hhp : ∀ x, x < sd → A.1 129 x = sf x) (hpe : p ≤ e) (hem : e ≤ me) (hmc : me ≤ c) (hec : e ≤ c) (hdp : I 10 = nI k) (hk8 : k < 8) (hoe : A.1 135 k = nI me) {fm : Int32} (hfm : fm = 1 ∨ fm = 2 ∨ fm = 3 ∨ fm = 4 ∨ fm = 5 ∨ fm = 6) : ev_Met G M_Mo_readData 5 0 0 [.ref 117, .int fm, .int (nI e)] w (rda_post w I A (lfd g p e me fm) n sd p e fm g sf) := by
  refine ev_Met.of md_Mo_readData (Nat.le_of_ble_eq_true rfl) (fun X hX hR => ?_)
  have hc := hg.1
  obtain ⟨w0, hw0⟩ : ∃ w0, w0 = w := ⟨_, rfl⟩
  have hs : mo_sm w0 w := by rw [hw0]; exact mo_sm.rf
  rcases hfm with rfl | rfl | rfl | rfl | rfl | rfl
  · refine q_aload hX 0 d_Mo_readData_0 rfl (by first | rfl | assumption) ?_
    refine r_getf hX d_Mo_readData_1 fl_Mo_20 hM.1 rfl ?_
    refine q_aload hX 0 d_Mo_readData_4 rfl (by first | rfl | assumption) ?_
    refine r_getm (J := 0) (x := nI n) hX d_Mo_readData_5 fl_Mo_86 hM hcn rfl ?_
    refine q_iload hX 2 d_Mo_readData_8 rfl (by first | rfl | assumption) ?_
    refine q_aload hX 0 d_Mo_readData_9 rfl (by first | rfl | assumption) ?_
    refine r_getm (J := 7) (x := nI p) hX d_Mo_readData_10 fl_Mo_115 hM hat rfl ?_
    refine r_isub hX d_Mo_readData_13 ?_
    rw [nI_sb hpe]
    refine r_iastm (c := 121) hX d_Mo_readData_14 hM hs rfl rfl (by omega) (fun w hM hs => ?_)
    refine q_iload hX 1 d_Mo_readData_15 rfl (by first | rfl | assumption) ?_
    refine r_tableIn hX 52 d_Mo_readData_16 (by decide) (by decide) rfl (by decide) ?_
    refine q_aload hX 0 d_Mo_readData_52 rfl (by first | rfl | assumption) ?_
    refine q_iload hX 2 d_Mo_readData_53 rfl (by first | rfl | assumption) ?_
    refine r_callV (as := [_]) hX d_Mo_readData_54 lk_Mo_159 hM.1 rfl rfl (Nat.le_of_ble_eq_true rfl) (by decide) 0 0 (Nat.le_refl _) (Nat.le_refl _) (c_Mo_readNumber (G := G) hM (c := c) (g := g) (show rd_g c ((aset A 121 n (nI (e - p))).1 132) g from hg) hat hcn hn hec hpe) (fun v w hq => ?_)
    rcases hq with ⟨h8, rfl, rfl⟩ | ⟨h8, rfl, hM, hs2⟩
    · have hz : lfd g p e me 1 = none := by rw [lfd, if_pos rfl, if_neg h8]
      refine r_iret hX hR d_Mo_readData_57 rfl (by first | rfl | assumption) ?_
      rw [hz]
      exact ⟨_, _, _, hM, hw0 ▸ hs, i_but.rf, (lo.rf.st (c := 121) (by decide) (by rw [lo.i1 121 (by decide)]; exact Nat.le_refl _)), rfl, rfl, rfl, rfl⟩
    · have hz : lfd g p e me 1 = some (lN (nb g p (e - p)), [], none, none) := by rw [lfd, if_pos rfl, if_pos h8]
      have hs := hs.tr hs2
      refine r_iret hX hR d_Mo_readData_57 rfl (by first | rfl | assumption) ?_
      rw [hz]
      exact ⟨_, _, _, hM, hw0 ▸ hs, i_but.rf, (lo.rf.st (c := 121) (by decide) (by rw [lo.i1 121 (by decide)]; exact Nat.le_refl _)).sv, rfl, rfl, rfl, hu, hhp, fun _ => by simp [vset, vp_updL], fun z => absurd z (by decide), fun z => absurd z (by decide), fun z => absurd z (by decide), fun z => absurd z (by decide)⟩
  · refine q_aload hX 0 d_Mo_readData_0 rfl (by first | rfl | assumption) ?_
    refine r_getf hX d_Mo_readData_1 fl_Mo_20 hM.1 rfl ?_
    refine q_aload hX 0 d_Mo_readData_4 rfl (by first | rfl | assumption) ?_
    refine r_getm (J := 0) (x := nI n) hX d_Mo_readData_5 fl_Mo_86 hM hcn rfl ?_
    refine q_iload hX 2 d_Mo_readData_8 rfl (by first | rfl | assumption) ?_
    refine q_aload hX 0 d_Mo_readData_9 rfl (by first | rfl | assumption) ?_
    refine r_getm (J := 7) (x := nI p) hX d_Mo_readData_10 fl_Mo_115 hM hat rfl ?_
    refine r_isub hX d_Mo_readData_13 ?_
    rw [nI_sb hpe]
    refine r_iastm (c := 121) hX d_Mo_readData_14 hM hs rfl rfl (by omega) (fun w hM hs => ?_)
    refine q_iload hX 1 d_Mo_readData_15 rfl (by first | rfl | assumption) ?_
    refine r_tableIn hX 58 d_Mo_readData_16 (by decide) (by decide) rfl (by decide) ?_
    refine q_aload hX 0 d_Mo_readData_58 rfl (by first | rfl | assumption) ?_
    refine q_iload hX 2 d_Mo_readData_59 rfl (by first | rfl | assumption) ?_
    refine r_callV (as := [_]) hX d_Mo_readData_60 lk_Mo_162 hM.1 rfl rfl (Nat.le_of_ble_eq_true rfl) (by decide) 0 0 (Nat.le_refl _) (Nat.le_refl _) (c_Mo_readText (G := G) hM (c := c) (g := g) (show rd_g c ((aset A 121 n (nI (e - p))).1 132) g from hg) hat hcn hn hec hpe) (fun v w hq => ?_)
    cases htx : tx g (e - p) p false 0 with
    | none =>
      rw [htx] at hq
      obtain ⟨rfl, A2, hM, hs2, hb, hb1, hb2⟩ := hq
      have hs := hs.tr hs2
      have hz : lfd g p e me 2 = none := by rw [lfd, if_neg (by decide), if_pos rfl, htx]; rfl
      refine r_iret hX hR d_Mo_readData_63 rfl (by first | rfl | assumption) ?_
      rw [hz]
      have h21 : ∀ q, q ≠ 121 → q ≠ 122 → A2.1 q = A.1 q := fun q z1 z2 => by rw [hb.1 q (by simp [z1, z2]), aset_ne _ _ _ z1]
      exact ⟨_, _, _, hM, hw0 ▸ hs, i_but.rf, (lo.rf.st (c := 121) (by decide) (by rw [lo.i1 121 (by decide)]; exact Nat.le_refl _)).tr (a_but.lo hb hb1 hb2), h21 118 (by decide) (by decide), h21 119 (by decide) (by decide), rfl, rfl⟩
    | some l =>
      rw [htx] at hq
      obtain ⟨rfl, hl16, A2, hM, hs2, hb, h21, h22, h22l⟩ := hq
      have hs := hs.tr hs2
      have hz : lfd g p e me 2 = some (lN l.length, l, none, none) := by rw [lfd, if_neg (by decide), if_pos rfl, htx]; rfl
      refine r_iret hX hR d_Mo_readData_63 rfl (by first | rfl | assumption) ?_
      rw [hz]
      have hlo : lo A A2 n sd := (lo.rf.st (c := 121) (by decide) (by rw [lo.i1 121 (by decide)]; exact Nat.le_refl _)).tr (a_but.lo hb (fun x hx => by rw [h21]; unfold upd; rw [if_neg (by omega)]) (fun x hx => by rw [h22l x hx]))
      exact ⟨_, _, _, hM, hw0 ▸ hs, i_but.rf, hlo, hb.1 118 (by decide), hb.1 119 (by decide), rfl, hu, fun x hx => by rw [hb.1 129 (by decide)]; exact hhp x hx, fun z => absurd z (by decide), fun _ => ⟨hl16, by rw [h21]; simp [upd], h22⟩, fun z => absurd z (by decide), fun z => absurd z (by decide), fun z => absurd z (by decide)⟩
  · refine q_aload hX 0 d_Mo_readData_0 rfl (by first | rfl | assumption) ?_
    refine r_getf hX d_Mo_readData_1 fl_Mo_20 hM.1 rfl ?_
    refine q_aload hX 0 d_Mo_readData_4 rfl (by first | rfl | assumption) ?_
    refine r_getm (J := 0) (x := nI n) hX d_Mo_readData_5 fl_Mo_86 hM hcn rfl ?_
    refine q_iload hX 2 d_Mo_readData_8 rfl (by first | rfl | assumption) ?_
    refine q_aload hX 0 d_Mo_readData_9 rfl (by first | rfl | assumption) ?_
    refine r_getm (J := 7) (x := nI p) hX d_Mo_readData_10 fl_Mo_115 hM hat rfl ?_
    refine r_isub hX d_Mo_readData_13 ?_
    rw [nI_sb hpe]
    refine r_iastm (c := 121) hX d_Mo_readData_14 hM hs rfl rfl (by omega) (fun w hM hs => ?_)
    refine q_iload hX 1 d_Mo_readData_15 rfl (by first | rfl | assumption) ?_
    refine r_tableIn hX 64 d_Mo_readData_16 (by decide) (by decide) rfl (by decide) ?_
    refine q_aload hX 0 d_Mo_readData_64 rfl (by first | rfl | assumption) ?_
    refine q_iload hX 2 d_Mo_readData_65 rfl (by first | rfl | assumption) ?_
    refine r_callV (as := [_]) hX d_Mo_readData_66 lk_Mo_165 hM.1 rfl rfl (Nat.le_of_ble_eq_true rfl) (by decide) 0 0 (Nat.le_refl _) (Nat.le_refl _) (c_Mo_readBlock (G := G) hM (c := c) (g := g) (show rd_g c ((aset A 121 n (nI (e - p))).1 132) g from hg) hat hcn hn hu (by omega) hec hpe) (fun v w hq => ?_)
    obtain ⟨I2, v2, A2, hM, hs2, hI2, hlo2, h18, h19, hq⟩ := hq
    have hs := hs.tr hs2
    have hlo := (lo.rf.st (c := 121) (by decide) (by rw [lo.i1 121 (by decide)]; exact Nat.le_refl _)).tr hlo2
    cases hrb : rbk g p e with
    | none =>
      rw [hrb] at hq
      obtain ⟨rfl, h1⟩ := hq
      have hz : lfd g p e me 3 = none := by
        rw [lfd, if_neg (by decide), if_neg (by decide), if_pos rfl]
        unfold rbk at hrb
        cases hb : bh g p e with
        | none => rfl
        | some R =>
          rw [hb] at hrb
          cases hb2 : bz g R.2.2.2.1 R.2.2.2.2.1 R.2.2.2.2.2 e with
          | none => dsimp only; rw [hb2]; rfl
          | some q => dsimp only at hrb; rw [hb2] at hrb; cases hrb
      refine r_iret hX hR d_Mo_readData_69 rfl (by first | rfl | assumption) ?_
      rw [hz]
      exact ⟨_, _, _, hM, hw0 ▸ hs, hI2, hlo, h18, h19, rfl, h1⟩
    | some Q =>
      rw [hrb] at hq
      obtain ⟨rfl, h1, h21, h23, h24, h25, h26, h27, h29⟩ := hq
      have hz : lfd g p e me 3 = some (lN Q.2.1.length, Q.2.1, some (Q.1.1, Q.1.2.1, Q.1.2.2.1, Q.1.2.2.2.1), some Q.2.2) := by
        rw [lfd, if_neg (by decide), if_neg (by decide), if_pos rfl]
        unfold rbk at hrb
        cases hb : bh g p e with
        | none => rw [hb] at hrb; cases hrb
        | some R =>
          rw [hb] at hrb
          cases hb2 : bz g R.2.2.2.1 R.2.2.2.2.1 R.2.2.2.2.2 e with
          | none => dsimp only at hrb; rw [hb2] at hrb; cases hrb
          | some q => dsimp only at hrb ⊢; rw [hb2] at hrb ⊢; cases hrb; rfl
      refine r_iret hX hR d_Mo_readData_69 rfl (by first | rfl | assumption) ?_
      rw [hz]
      refine ⟨_, _, _, hM, hw0 ▸ hs, hI2, hlo, h18, h19, rfl, h1, fun x hx => ?_, fun z => absurd z (by decide), fun z => absurd z (by decide), fun _ => ⟨h21, ⟨_, _, rfl, rfl, h23, h24, h25, h26⟩, h27⟩, fun z => absurd z (by decide), fun z => absurd z (by decide)⟩
      show A2.1 129 x = fr_s sd (e - Q.2.2) (fun i => nI (g (Q.2.2 + i))) sf x
      have hx : x < sd + (e - Q.2.2) := hx
      unfold fr_s
      by_cases z : sd ≤ x
      · rw [if_pos ⟨z, hx⟩]
        have := h29 (x - sd) (by omega)
        rw [show sd + (x - sd) = x by omega] at this
        exact this
      · rw [if_neg (fun y => z y.1), hlo2.1 129 (by decide) x (by rw [lo.i9]; omega)]
        exact hhp x (by omega)
  · refine q_aload hX 0 d_Mo_readData_0 rfl (by first | rfl | assumption) ?_
    refine r_getf hX d_Mo_readData_1 fl_Mo_20 hM.1 rfl ?_
    refine q_aload hX 0 d_Mo_readData_4 rfl (by first | rfl | assumption) ?_
    refine r_getm (J := 0) (x := nI n) hX d_Mo_readData_5 fl_Mo_86 hM hcn rfl ?_
    refine q_iload hX 2 d_Mo_readData_8 rfl (by first | rfl | assumption) ?_
    refine q_aload hX 0 d_Mo_readData_9 rfl (by first | rfl | assumption) ?_
    refine r_getm (J := 7) (x := nI p) hX d_Mo_readData_10 fl_Mo_115 hM hat rfl ?_
    refine r_isub hX d_Mo_readData_13 ?_
    rw [nI_sb hpe]
    refine r_iastm (c := 121) hX d_Mo_readData_14 hM hs rfl rfl (by omega) (fun w hM hs => ?_)
    refine q_iload hX 1 d_Mo_readData_15 rfl (by first | rfl | assumption) ?_
    refine r_tableIn hX 70 d_Mo_readData_16 (by decide) (by decide) rfl (by decide) ?_
    refine q_aload hX 0 d_Mo_readData_70 rfl (by first | rfl | assumption) ?_
    refine q_iload hX 2 d_Mo_readData_71 rfl (by first | rfl | assumption) ?_
    refine q_aload hX 0 d_Mo_readData_72 rfl (by first | rfl | assumption) ?_
    refine r_getf hX d_Mo_readData_73 fl_Mo_67 hM.1 rfl ?_
    refine q_aload hX 0 d_Mo_readData_76 rfl (by first | rfl | assumption) ?_
    refine r_getm (J := 10) (x := nI k) hX d_Mo_readData_77 fl_Mo_132 hM hdp rfl ?_
    refine r_ialdm (c := 135) (x := nI me) hX d_Mo_readData_80 hM rfl rfl (by omega) hoe ?_
    refine r_callV (as := [_, _]) hX d_Mo_readData_81 lk_Mo_168 hM.1 rfl rfl (Nat.le_of_ble_eq_true rfl) (by decide) 0 0 (Nat.le_refl _) (Nat.le_refl _) (c_Mo_readSum (G := G) hM (c := c) (g := g) (show rd_g c ((aset A 121 n (nI (e - p))).1 132) g from hg) hat hmc hpe hem) (fun v w1 hq => ?_)
    obtain ⟨rfl, rfl⟩ := hq
    refine r_iret hX hR d_Mo_readData_84 rfl (b_i_n _) ?_
    cases hrk : rk g p e me with
    | false =>
      have hz : lfd g p e me 4 = none := by rw [lfd, if_neg (by decide), if_neg (by decide), if_neg (by decide), if_pos rfl, hrk]; rfl
      rw [hz]
      exact ⟨_, _, _, hM, hw0 ▸ hs, i_but.rf, (lo.rf.st (c := 121) (by decide) (by rw [lo.i1 121 (by decide)]; exact Nat.le_refl _)), rfl, rfl, rfl, rfl⟩
    | true =>
      have hz : lfd g p e me 4 = some (0, [], none, none) := by rw [lfd, if_neg (by decide), if_neg (by decide), if_neg (by decide), if_pos rfl, hrk]; rfl
      rw [hz]
      exact ⟨_, _, _, hM, hw0 ▸ hs, i_but.rf, (lo.rf.st (c := 121) (by decide) (by rw [lo.i1 121 (by decide)]; exact Nat.le_refl _)), rfl, rfl, rfl, hu, hhp, fun z => absurd z (by decide), fun z => absurd z (by decide), fun z => absurd z (by decide), fun z => absurd z (by decide), fun z => absurd z (by decide)⟩
  · refine q_aload hX 0 d_Mo_readData_0 rfl (by first | rfl | assumption) ?_
    refine r_getf hX d_Mo_readData_1 fl_Mo_20 hM.1 rfl ?_
    refine q_aload hX 0 d_Mo_readData_4 rfl (by first | rfl | assumption) ?_
    refine r_getm (J := 0) (x := nI n) hX d_Mo_readData_5 fl_Mo_86 hM hcn rfl ?_
    refine q_iload hX 2 d_Mo_readData_8 rfl (by first | rfl | assumption) ?_
    refine q_aload hX 0 d_Mo_readData_9 rfl (by first | rfl | assumption) ?_
    refine r_getm (J := 7) (x := nI p) hX d_Mo_readData_10 fl_Mo_115 hM hat rfl ?_
    refine r_isub hX d_Mo_readData_13 ?_
    rw [nI_sb hpe]
    refine r_iastm (c := 121) hX d_Mo_readData_14 hM hs rfl rfl (by omega) (fun w hM hs => ?_)
    refine q_iload hX 1 d_Mo_readData_15 rfl (by first | rfl | assumption) ?_
    refine r_tableIn hX 85 d_Mo_readData_16 (by decide) (by decide) rfl (by decide) ?_
    have hz : lfd g p e me 5 = some (lN (e - p), [], none, none) := by rw [lfd, if_neg (by decide), if_neg (by decide), if_neg (by decide), if_neg (by decide), if_neg (by decide)]
    refine r_iconst (v := 1) hX d_Mo_readData_85 (by decide) ?_
    refine r_iret hX hR d_Mo_readData_86 rfl (by first | rfl | assumption) ?_
    rw [hz]
    exact ⟨_, _, _, hM, hw0 ▸ hs, i_but.rf, (lo.rf.st (c := 121) (by decide) (by rw [lo.i1 121 (by decide)]; exact Nat.le_refl _)), rfl, rfl, rfl, hu, hhp, fun z => absurd z (by decide), fun z => absurd z (by decide), fun z => absurd z (by decide), fun _ => aset_self _ _ _ _, fun z => absurd z (by decide)⟩
  · refine q_aload hX 0 d_Mo_readData_0 rfl (by first | rfl | assumption) ?_
    refine r_getf hX d_Mo_readData_1 fl_Mo_20 hM.1 rfl ?_
    refine q_aload hX 0 d_Mo_readData_4 rfl (by first | rfl | assumption) ?_
    refine r_getm (J := 0) (x := nI n) hX d_Mo_readData_5 fl_Mo_86 hM hcn rfl ?_
    refine q_iload hX 2 d_Mo_readData_8 rfl (by first | rfl | assumption) ?_
    refine q_aload hX 0 d_Mo_readData_9 rfl (by first | rfl | assumption) ?_
    refine r_getm (J := 7) (x := nI p) hX d_Mo_readData_10 fl_Mo_115 hM hat rfl ?_
    refine r_isub hX d_Mo_readData_13 ?_
    rw [nI_sb hpe]
    refine r_iastm (c := 121) hX d_Mo_readData_14 hM hs rfl rfl (by omega) (fun w hM hs => ?_)
    refine q_iload hX 1 d_Mo_readData_15 rfl (by first | rfl | assumption) ?_
    refine r_tableOut hX 87 d_Mo_readData_16 (by decide) (by decide) ?_
    have hz : lfd g p e me 6 = some (lN (e - p), [], none, some p) := by rw [lfd, if_neg (by decide), if_neg (by decide), if_neg (by decide), if_neg (by decide), if_pos rfl]
    refine q_aload hX 0 d_Mo_readData_87 rfl (by first | rfl | assumption) ?_
    refine r_getf hX d_Mo_readData_88 fl_Mo_42 hM.1 rfl ?_
    refine r_bipush (v := 8) hX d_Mo_readData_91 (by decide) ?_
    refine q_aload hX 0 d_Mo_readData_93 rfl (by first | rfl | assumption) ?_
    refine r_getm (J := 0) (x := nI n) hX d_Mo_readData_94 fl_Mo_86 hM hcn rfl ?_
    refine r_imul hX d_Mo_readData_97 ?_
    refine q_aload hX 0 d_Mo_readData_98 rfl (by first | rfl | assumption) ?_
    refine r_getm (J := 1) (x := nI sd) hX d_Mo_readData_99 fl_Mo_104 hM hu rfl ?_
    refine r_iastm (c := 128) hX d_Mo_readData_102 hM hs rfl (j := 8 * n) (by rw [show (8 : Int32) = nI 8 from rfl, nI_ml]) (by omega) (fun w hM hs => ?_)
    refine q_aload hX 0 d_Mo_readData_103 rfl (by first | rfl | assumption) ?_
    refine q_iload hX 2 d_Mo_readData_104 rfl (by first | rfl | assumption) ?_
    refine q_aload hX 0 d_Mo_readData_105 rfl (by first | rfl | assumption) ?_
    refine r_getm (J := 7) (x := nI p) hX d_Mo_readData_106 fl_Mo_115 hM hat rfl ?_
    refine r_isub hX d_Mo_readData_109 ?_
    rw [nI_sb hpe]
    refine r_callV (as := [_]) hX d_Mo_readData_110 lk_Mo_155 hM.1 rfl rfl (Nat.le_of_ble_eq_true rfl) (by decide) 0 0 (Nat.le_refl _) (Nat.le_refl _) (c_Mo_keep (G := G) hM (p := p) hat (sd := sd) (m := e - p) hu (by omega) (by omega)) (fun v w hq => ?_)
    obtain ⟨rfl, A2, hM, hs2, k1, k2, k3⟩ := hq
    have hs := hs.tr hs2
    refine r_iconst (v := 1) hX d_Mo_readData_113 (by decide) ?_
    refine r_iret hX hR d_Mo_readData_114 rfl (by first | rfl | assumption) ?_
    rw [hz]
    have hlo : lo A A2 n sd := ((lo.rf.st (c := 121) (by decide) (by rw [lo.i1 121 (by decide)]; exact Nat.le_refl _)).st (c := 128) (by decide) (by rw [lo.i8 128 (by decide)]; exact Nat.le_refl _)).tr (lo.b1 k1 (fun x hx => k3 x hx) (by decide))
    refine ⟨_, _, _, hM, hw0 ▸ hs, (i_but.rf.u (by simp)).u (by simp), hlo, k1.1 118 (by decide), k1.1 119 (by decide), rfl, rfl, fun x hx => ?_, fun z => absurd z (by decide), fun z => absurd z (by decide), fun z => absurd z (by decide), fun _ => by rw [k1.1 121 (by decide), aset_ne _ _ _ (by decide), aset_self], fun _ => by rw [k1.1 128 (by decide), aset_self]⟩
    show A2.1 129 x = fr_s sd (e - p) (fun i => nI (g (p + i))) sf x
    have hx : x < sd + (e - p) := hx
    unfold fr_s
    by_cases z : sd ≤ x
    · rw [if_pos ⟨z, hx⟩]
      have h3 := k2 (x - sd) (by omega)
      rw [show sd + (x - sd) = x by omega] at h3
      rw [h3]
      exact (hg.2 (p + (x - sd)) (by omega)).1
    · rw [if_neg (fun y => z y.1), k3 x (by omega)]
      exact hhp x (by omega)
