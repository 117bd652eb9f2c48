/-! ===== side by side: make, block ===== -/
theorem mk_is {w w1 w' : Ev_W} {S : Ev_S} {As : Nat → Option Nat} {sf : Nat → Int32} {sd s : Nat} {o : Option Nat} {tg : Int32} {x : Int64} (h : is_S w S As sf sd) (ho : ∀ j, o = some j → j < sn S) (hs : s < 17) (hn : sn S < 60)
    (hadd : tr_added w w1 (sn S) (sm S) (mk_p (sE S) (sn S) o) (sL S) As sf sd (sa S) (sE S) (sP S) s tg (o.map (sa S)) (mk_lv (sE S) o)) (hsm : ev_sm w1 w' [ad_e S]) (he : w'.2 (ad_e S) = some (el_C (ad_e S) (ad_E S o s tg x))) : is_S w' (ad_S S o (ad_E S o s tg x) (rd_pf S)) As sf sd ∧ ∀ q, q < 139 → q ∉ [108, 109] → w'.2 q = w.2 q := by
  have hat := hadd.at (mk_pn ho) h.2.2.2.1
  have hee : tr_e (sm S) (sn S) (sa S) w.1 = ad_e S := by rw [h.2.2.2.2.2.2.1]; rfl
  rw [hee] at hat
  have h1 := hadd.1
  rw [hee] at h1
  have hne : ∀ q : Nat, q < 139 → q ∉ [ad_e S] := fun q hq => by simp; have := hat.1; omega
  refine ⟨is_S.add (l := []) h ho hs hadd hn ⟨(hsm.2 108 (hne _ (by decide))).trans h1.1, (hsm.2 109 (hne _ (by decide))).trans h1.2.1, (hsm.2 110 (hne _ (by decide))).trans h1.2.2.1, (hsm.2 111 (hne _ (by decide))).trans h1.2.2.2⟩ (hsm.up (by simp)) (by simp) he ((hsm.2 _ (by simp)).trans hat.2.2) rfl hs rfl, fun q q1 q2 => ?_⟩
  exact (hsm.2 q (hne q q1)).trans (hadd.2.2.1 q q1 (fun z => q2 (by rw [z]; decide)) (fun z => q2 (by rw [z]; decide)))
theorem ro_c0.s21 {A B : Ev_A} {i f p : Nat} {x : Int32} (h : ro_c0 B i A f) (hp : i ≠ p) : ro_c0 (aset B 121 p x) i A f := by
  obtain ⟨a1, a2, a3, a4, a5, a6, a7, a8, a9⟩ := h
  refine ⟨?_, a2, ?_, ?_, ?_, ?_, ?_, fun t ht => ?_, fun t ht => ?_⟩
  · rw [aset_off _ _ _ _ _ _ (Or.inl (by decide))]; exact a1
  · rw [aset_off _ _ _ _ _ _ (Or.inr hp)]; exact a3
  · rw [aset_off _ _ _ _ _ _ (Or.inl (by decide))]; exact a4
  · rw [aset_off _ _ _ _ _ _ (Or.inl (by decide))]; exact a5
  · rw [aset_off _ _ _ _ _ _ (Or.inl (by decide))]; exact a6
  · rw [aset_off _ _ _ _ _ _ (Or.inl (by decide))]; exact a7
  · rw [aset_off _ _ _ _ _ _ (Or.inl (by decide))]; exact a8 t ht
  · rw [aset_off _ _ _ _ _ _ (Or.inl (by decide)), aset_off _ _ _ _ _ _ (Or.inl (by decide))]; exact a9 t ht
theorem tx_ok.ins {S : Ev_S} {o : Option Nat} {E1 : Ev_E} {pf : Nat → Int32} (h : tx_ok S) (hpn : mk_p (sE S) (sn S) o ≤ sn S) (h1 : so_fm E1.1 = 2 → ∀ a, E1.2.2.1 = lN a → a ≤ 16 → ∀ i, i < a → pf i &&& 255 = pf i) : tx_ok (ad_S S o E1 pf) := by
  intro k hk hf a ea ha i hi
  have hk : k < sn S + 1 := hk
  have hf : so_fm (tr_insE (mk_p (sE S) (sn S) o) (sn S) E1 (sE S) k).1 = 2 := hf
  have ea : (tr_insE (mk_p (sE S) (sn S) o) (sn S) E1 (sE S) k).2.2.1 = lN a := ea
  show tr_ins (mk_p (sE S) (sn S) o) (sn S) pf (sP S) k i &&& 255 = tr_ins (mk_p (sE S) (sn S) o) (sn S) pf (sP S) k i
  by_cases z1 : k < mk_p (sE S) (sn S) o
  · rw [insE_lo z1] at hf ea
    rw [ins_lo z1]
    exact h k (by omega) hf a ea ha i hi
  · by_cases z2 : k = mk_p (sE S) (sn S) o
    · rw [z2, insE_at] at hf ea
      rw [z2, ins_at]
      exact h1 hf a ea ha i hi
    · rw [insE_hi (by omega) (by omega)] at hf ea
      rw [ins_hi (by omega) (by omega)]
      exact h (k - 1) (by omega) hf a ea ha i hi
theorem sm_split {d : Nat → Nat} : ∀ {n y : Nat}, y < sm_N d n → ∃ i, i < n ∧ ∃ b, b < d i ∧ y = sm_N d i + b
  | 0, y, h => absurd h (Nat.not_lt_zero _)
  | n + 1, y, h => by
    by_cases z : y < sm_N d n
    · obtain ⟨i, h1, b, h2, h3⟩ := sm_split z
      exact ⟨i, by omega, b, h2, h3⟩
    · rw [sm_N] at h
      exact ⟨n, by omega, y - sm_N d n, by omega, by omega⟩
theorem so_pos {tg : Int32} (h : so_of tg ≠ 16) : 0 < tg.toInt := by
  rcases so_of_tg tg with ⟨t, h1, h2, h3⟩ | ⟨h1, h2⟩
  · have : ∀ s, s < 16 → 0 < (so_tg s).toInt := by decide +kernel
    rw [h2]; exact this t h1
  · exact absurd h1 h
theorem so_lt (tg : Int32) : so_of tg < 17 := by
  rcases so_of_tg tg with ⟨t, h1, h2, h3⟩ | ⟨h1, h2⟩ <;> omega
theorem l_N {x : Int64} (h0 : 0 ≤ x.toInt) (h1 : x.toInt ≤ 64) : ∃ a, a ≤ 64 ∧ x = lN a ∧ x.toInt32 = nI a := by
  have key : ∀ a, a < 65 → (lN a).toInt = (a : Int) ∧ (lN a).toInt32 = nI a := by decide +kernel
  refine ⟨x.toInt.toNat, by omega, ?_, ?_⟩
  · apply Int64.toInt_inj.mp
    rw [(key _ (by omega)).1]; omega
  · have e : x = lN x.toInt.toNat := by
      apply Int64.toInt_inj.mp
      rw [(key _ (by omega)).1]; omega
    have := (key x.toInt.toNat (by omega)).2
    rw [← e] at this; exact this
theorem may_fit {S : Ev_S} {s : Nat} {mo : Option Nat} (h : ¬ mk_may (sE S) (sn S) s mo = false) : (mo = none → so_fits s 1 = true) ∧ ∀ j, mo = some j → so_fits s (so_in (sE S j).1) = true := by
  have h : mk_may (sE S) (sn S) s mo = true := by cases hz : mk_may (sE S) (sn S) s mo with
    | false => exact absurd hz h
    | true => rfl
  refine ⟨fun z => by rw [z] at h; exact h, fun j z => ?_⟩
  rw [z] at h
  have h : tr_may (sE S) (sn S) s j = true := h
  unfold tr_may at h
  rw [Bool.and_eq_true] at h
  exact h.1
theorem c_Mo_makeX3 {G : Ev_G} {w : Ev_W} {I : Nat → Int32} {v0 : Int64} {A : Ev_A} (hM : is_M w I v0 A) {S : Ev_S} {D : Nat → Ev_D} {sf : Nat → Int32} {sd : Nat} (hm : mdl I A S D sf sd) (k id : Int32) (hk1 : k ≠ -1) (hix : ix (sn S) k = none) (x : Int64) : ev_Met G M_Mo_make 3 0 0 [.ref 117, .int k, .int id, .long x] w (fun v w' => v = some (.int (-1)) ∧ w' = w) := by
  refine ev_Met.of md_Mo_make (Nat.le_of_ble_eq_true rfl) (fun X hX hR => ?_)
  obtain ⟨hc, hn, hu, hsd, hpo, hpl, hrow, hhp⟩ := (show mdl I A S D sf sd from hm)
  have hmas : ∀ x, x < sn S → A.1 119 x = o_i (si S x) := fun x hx => (hrow x hx).2.2
  refine q_iload hX 1 d_Mo_make_0 rfl (by first | rfl | assumption) ?_
  refine r_iconst (v := -1) hX d_Mo_make_1 (by decide) ?_
  refine r_icmp_eq hX 15 d_Mo_make_2 (by decide) (fun c2 => absurd c2 hk1) (fun _ => ?_)
  refine q_aload hX 0 d_Mo_make_5 rfl (by first | rfl | assumption) ?_
  refine q_iload hX 1 d_Mo_make_6 rfl (by first | rfl | assumption) ?_
  refine r_callV (as := [_]) hX d_Mo_make_7 lk_Mo_89 hM.1 rfl rfl (Nat.le_of_ble_eq_true rfl) (by decide) 0 0 (Nat.le_refl _) (Nat.le_refl _) (c_Mo_isElement (G := G) hM hc hn _) (fun v w1 hq => ?_)
  obtain ⟨rfl, hw⟩ := hq
  rw [hw, hix]
  rw [show b_i (none : Option Nat).isSome = 0 from rfl]
  refine r_if_ne hX 15 d_Mo_make_10 (by decide) (fun c10 => absurd rfl c10) (fun _ => ?_)
  refine r_iconst (v := -1) hX d_Mo_make_13 (by decide) ?_
  refine r_iret hX hR d_Mo_make_14 rfl (by first | rfl | assumption) ?_
  exact ⟨rfl, rfl⟩
theorem k_make1 {G : Ev_G} {w : Ev_W} {K : Option Ev_K} {S : Ev_S} {D : Nat → Ev_D} {sf : Nat → Int32} {sd c : Nat} {f : Nat → Int32} {c2 : Nat} {f2 : Nat → Int32} {fp : Int32} {hc hf : Nat} {qs hb : Nat → Int32} {I : Nat → Int32} {v0 : Int64} {A : Ev_A} (hrc : rc w K S sf sd c f c2 f2 fp hc hf qs hb) (hM : is_M w I v0 A) (hrp : rp S D sf sd c f c2 f2 fp hc hf qs hb I A) {As : Nat → Option Nat} (hS : is_S w S As sf sd) {mo : Option Nat} (hmo : ∀ j, mo = some j → j < sn S) (tg : Int32) (x : Int64) (hcl : ev_Met G M_EF_make 3 2 33 [.ref 100, .int (o_i mo), .int tg, .long x] w (mk_post w (sn S) (sm S) sd (sL S) As sf (sa S) (sE S) (sP S) mo tg x)) : bo G M_EF_make M_Mo_make 3 2 33 3 [.int (o_i mo), .int tg, .long x] w K := by
  have hR : rl w K := ⟨S, D, sf, sd, c, f, c2, f2, fp, hc, hf, qs, hb, I, v0, A, hrc, hM, hrp⟩
  obtain ⟨hm, i4, i5, i6, i2, i3, ⟨sz, hd⟩, ⟨g, g1, g2⟩, ⟨g', g3, g4⟩, hby, htx⟩ := hrp
  obtain ⟨_, hn, _, hsd, hpo, hpl, hrow, _⟩ := id hm
  obtain ⟨he, hr1, hr2, hr3, hwr, hfi, ⟨ms_, pl_, en_, tg_, vf_, vl_, hre⟩, hfr, _, hK⟩ := id hrc
  refine hcl.mono (fun v w1 hq => ?_)
  rcases hq with ⟨hb1, rfl, hw⟩ | ⟨hb1, hb2, rfl, hw⟩ | ⟨hb1, hb2, hb3, rfl, hw⟩ | ⟨hb1, hb2, hb3, rfl, w0, hadd, hsm, hel⟩
  · refine ⟨_, rfl, by rw [hw]; exact hR.st, ?_⟩
    rw [hw]
    refine (c_Mo_make (G := G) hM hm hmo tg x).mono (fun v2 w2 hq2 => ?_)
    rcases hq2 with ⟨_, rfl, rfl⟩ | ⟨z, _⟩ | ⟨z, _⟩ | ⟨z, _⟩
    · exact ⟨rfl, hR⟩
    · exact absurd hb1 z
    · exact absurd hb1 z
    · exact absurd hb1 z
  · refine ⟨_, rfl, by rw [hw]; exact hR.st, ?_⟩
    rw [hw]
    refine (c_Mo_make (G := G) hM hm hmo tg x).mono (fun v2 w2 hq2 => ?_)
    rcases hq2 with ⟨z, _⟩ | ⟨_, _, rfl, rfl⟩ | ⟨_, z, _⟩ | ⟨_, z, _⟩
    · exact absurd z hb1
    · exact ⟨rfl, hR⟩
    · exact absurd hb2 z
    · exact absurd hb2 z
  · refine ⟨_, rfl, by rw [hw]; exact hR.st, ?_⟩
    rw [hw]
    refine (c_Mo_make (G := G) hM hm hmo tg x).mono (fun v2 w2 hq2 => ?_)
    rcases hq2 with ⟨z, _⟩ | ⟨_, z, _⟩ | ⟨_, _, _, rfl, rfl⟩ | ⟨_, _, z, _⟩
    · exact absurd z hb1
    · exact absurd z hb2
    · exact ⟨rfl, hR⟩
    · omega
  · have hx0 := hR
    have hee : tr_e (sm S) (sn S) (sa S) w.1 = ad_e S := by rw [hS.2.2.2.2.2.2.1]; rfl
    rw [hee] at hsm hel
    obtain ⟨hS1, hk⟩ := mk_is (x := if so_of tg = 15 ∨ so_fm (so_of tg) = 1 then x else 0) hS hmo (so_lt tg) hb3 hadd hsm hel
    have hk' : ∀ q, q ∉ [108, 109] ∧ q < 139 → w1.2 q = w.2 q := fun q hq => hk q hq.2 hq.1
    have hM1 : is_M w1 I v0 A := hM.kp (fun q a b => hk q (by omega) (by simp; omega))
    have hrc1 : rc w1 K (ad_S S mo (ad_E S mo (so_of tg) tg (if so_of tg = 15 ∨ so_fm (so_of tg) = 1 then x else 0)) (rd_pf S)) sf sd c f c2 f2 fp hc hf qs hb := ⟨(hk' 100 (by decide)).trans he, ⟨(hk' 101 (by decide)).trans hr1.1, (hk' 102 (by decide)).trans hr1.2⟩, ⟨(hk' 103 (by decide)).trans hr2.1, (hk' 104 (by decide)).trans hr2.2⟩, (by obtain ⟨a, b, z⟩ := hr3; exact ⟨a, b, (hk' 114 (by decide)).trans z.1, (hk' 115 (by decide)).trans z.2⟩), (hk' 113 (by decide)).trans hwr, (hk' 116 (by decide)).trans hfi, ⟨_, _, _, _, _, _, (hk' 112 (by decide)).trans hre⟩, ⟨(hk' 105 (by decide)).trans hfr.1, (hk' 106 (by decide)).trans hfr.2.1, (hk' 107 (by decide)).trans hfr.2.2⟩, ⟨As, hS1⟩, (hk' 18 (by decide)).trans hK⟩
    refine ⟨_, rfl, ⟨hrc1.2.2.2.2.2.2.2.2.2, _, hM1.1⟩, (c_Mo_make (G := G) hM1 hm hmo tg x).mono (fun v2 w2 hq2 => ?_)⟩
    rcases hq2 with ⟨z, _⟩ | ⟨_, z, _⟩ | ⟨_, _, z, _⟩ | ⟨_, _, _, rfl, A1, hM2, hs2, hin⟩
    · exact absurd z hb1
    · exact absurd z hb2
    · omega
    · obtain ⟨n1, n2, n3, n4, n5, n6, n7⟩ := hin
      have h9 : so_of tg ≠ 9 := fun z => hb1 (Or.inl z)
      have h16 : so_of tg ≠ 16 := fun z => hb1 (Or.inr (Or.inl z))
      have hfit := may_fit (fun z => hb1 (Or.inr (Or.inr z)))
      have hlt := so_lt tg
      have f3 : ¬ so_fm (so_of tg) = 3 := fun z => h9 ((fm_9 _ hlt).mp z)
      have f6 : ¬ so_fm (so_of tg) = 6 := fun z => h16 ((fm_16 _ hlt).mp z)
      have ha : ∃ a, a ≤ 64 ∧ (so_of tg = 15 → x = lN a ∧ x.toInt32 = nI a) ∧ (so_of tg ≠ 15 → a = 0) := by
        by_cases z : so_of tg = 15
        · obtain ⟨a, a1, a2, a3⟩ := l_N (x := x) (Int.not_lt.mp (fun y => hb2 ⟨z, Or.inl y⟩)) (Int.not_lt.mp (fun y => hb2 ⟨z, Or.inr y⟩))
          exact ⟨a, a1, fun _ => ⟨a2, a3⟩, fun y => absurd z y⟩
        · exact ⟨0, by decide, fun y => absurd y z, fun _ => rfl⟩
      obtain ⟨a, ha64, ha15, ha0⟩ := ha
      have hpn : mk_p (sE S) (sn S) mo ≤ sn S := mk_pn hmo
      have h2a : so_fm (so_of tg) = 2 → a = 0 ∧ ¬ (so_of tg = 15 ∨ so_fm (so_of tg) = 1) := fun z => by
        have h15 : so_of tg ≠ 15 := fun y => by rw [y] at z; revert z; decide
        exact ⟨ha0 h15, fun y => by rcases y with y | y; exact h15 y; rw [z] at y; revert y; decide⟩
      have hE : el_D (ad_E S mo (so_of tg) tg (if so_of tg = 15 ∨ so_fm (so_of tg) = 1 then x else 0)) (rd_pf S) (a, 0, (fun _ => 0), 0) sd := by
        refine ⟨rfl, so_pos h16, fun z => ⟨?_, by show a ≤ 640; omega⟩, fun z => by show a ≤ 16; have := (h2a z).1; omega, fun z => absurd z f3, fun z => absurd z f6, fun z => ?_, fun z => ?_⟩
        · show (if so_of tg = 15 ∨ so_fm (so_of tg) = 1 then x else 0) = lN a
          rcases z with z | z | z | z
          · rw [if_neg (h2a z).2, (h2a z).1]; rfl
          · exact absurd z f3
          · have z15 := (fm_15 _ hlt).mp z
            rw [if_pos (Or.inl z15)]; exact (ha15 z15).1
          · exact absurd z f6
        · rcases z with z | z
          · exact absurd z f3
          · exact absurd z f6
        · show (if so_of tg = 15 ∨ so_fm (so_of tg) = 1 then x else 0) = 0
          have z14 := (fm_14 _ hlt).mp z
          rw [if_neg]
          intro y
          rcases y with y | y
          · omega
          · have z : so_fm (so_of tg) = 4 := z
            rw [z] at y; revert y; decide
      refine ⟨rfl, _, _, sf, sd, c, f, c2, f2, fp, hc, hf, qs, hb, _, v0, _, hrc1.mo hs2, hM2, ⟨mdl.ins (D1 := (a, 0, (fun _ => 0), 0)) hm hb3 hmo rfl hm.2.2.1 (Nat.le_refl _) hsd (fun i hi => (n1 i hi).s21 (by omega)) (fun i i1 i2 => (n2 i i1 i2).s21 (by omega)) (fun i hi => by rw [aset_ne _ _ _ (by decide)]; exact n3 i hi) hE ?_ rfl hlt hfit.1 hfit.2 (fun y hy => by rw [aset_ne _ _ _ (by decide), n7 129 (by decide)]; exact hm.2.2.2.2.2.2.2 y hy), i4, i5, i6, i2, i3, ⟨sz, hd.cg (by rw [aset_ne _ _ _ (by decide)]; exact n7 130 (by decide)) (by rw [aset_ne _ _ _ (by decide)]; exact n7 131 (by decide))⟩, ⟨g, g1, by rw [aset_ne _ _ _ (by decide), n7 132 (by decide)]; exact g2⟩, ⟨g', g3, by rw [aset_ne _ _ _ (by decide), n7 133 (by decide)]; exact g4⟩, hby, htx.ins hpn (fun z b eb hb16 i hi => ?_)⟩⟩
      · refine ⟨by rw [aset_off _ _ _ _ _ _ (Or.inl (by decide))]; exact n4, fun z => ?_, fun z => ?_, fun z i hi => ?_, fun z => absurd z f3, fun z => absurd z f6⟩
        · show A1.2 _ = (if so_of tg = 15 ∨ so_fm (so_of tg) = 1 then x else 0)
          have z : so_fm (so_of tg) = 1 := z
          rw [if_pos (Or.inr z)]; exact n5
        · rw [aset_self]
          by_cases y : so_of tg = 15
          · rw [if_pos y]; exact (ha15 y).2
          · rw [if_neg y]
            show (0 : Int32) = nI a
            rw [ha0 y]; rfl
        · have hi : i < a := hi
          have := (h2a z).1
          omega
      · have eb : (if so_of tg = 15 ∨ so_fm (so_of tg) = 1 then x else 0) = lN b := eb
        rw [if_neg (h2a z).2] at eb
        have h5 := lN_inj (a := 0) (b := b) (by decide) (by omega) eb
        omega
theorem k_make {G : Ev_G} {w : Ev_W} {K : Option Ev_K} (hR : rl w K) (k tg : Int32) (x : Int64) : bo G M_EF_make M_Mo_make 3 2 33 3 [.int k, .int tg, .long x] w K := by
  obtain ⟨S, D, sf, sd, c, f, c2, f2, fp, hc, hf, qs, hb, I, v0, A, hrc, hM, hrp⟩ := id hR
  obtain ⟨hm, i4, i5, i6, i2, i3, ⟨sz, hd⟩, ⟨g, g1, g2⟩, ⟨g', g3, g4⟩, hby, htx⟩ := hrp
  obtain ⟨As, htr, hes, hok, hnm, hm60, hfree, h139, hS, hinj⟩ := hrc.ab
  obtain ⟨_, hn, _, hsd, hpo, hpl, hrow, _⟩ := id hm
  obtain ⟨he, hr1, hr2, hr3, hwr, hfi, ⟨ms_, pl_, en_, tg_, vf_, vl_, hre⟩, hfr, _, hK⟩ := id hrc
  have hrp : rp S D sf sd c f c2 f2 fp hc hf qs hb I A := ⟨hm, i4, i5, i6, i2, i3, ⟨sz, hd⟩, ⟨g, g1, g2⟩, ⟨g', g3, g4⟩, hby, htx⟩
  rcases ix_cases (n := sn S) (by omega) k with ⟨j, hj, rfl, hix⟩ | ⟨hix, hno⟩
  · exact k_make1 hrc hM hrp hS (mo := some j) (fun q hq => by cases hq; exact hj) tg x (c_EF_makeS (G := G) he htr hn hsd hes hnm hok hm60 hfree h139 hj tg x)
  · by_cases z : k = -1
    · subst z
      exact k_make1 hrc hM hrp hS (mo := none) (fun q hq => by cases hq) tg x (c_EF_makeN (G := G) he htr hn hsd hes hnm hok hm60 hfree h139 tg x)
    · exact (c_EF_make0 (G := G) he htr hn hsd hes hnm hok hm60 hfree h139 k tg x hix z).mono (fun v w1 hq => ⟨_, hq.1, by rw [hq.2]; exact hR.st, by
        rw [hq.2]
        exact (c_Mo_makeX3 (G := G) hM hm k tg z hix x).mono (fun v2 w2 hq2 => ⟨hq2.1, by rw [hq2.2]; exact hR⟩)⟩)
theorem ro_c0.bq {A A1 A3 : Ev_A} {i f p sd c u : Nat} {tr ti ke la : Int32} {sz : Nat → Nat} {hb : Nat → Int32} {n : Nat} (h : ro_c0 A1 i A f) (hp : i ≠ p) (hq : bq (mb_A A1 p tr ti ke la n) A3 p sd c u sz hb) : ro_c0 A3 i A f := by
  obtain ⟨a1, a2, a3, a4, a5, a6, a7, a8, a9⟩ := h
  obtain ⟨b1, b2, b3, b4, b5, b6⟩ := hq
  have key : ∀ q t, (q ∉ [121, 123, 124, 125, 126] ∨ t ≠ p) → q ∉ [127, 128, 129] → A3.1 q t = A1.1 q t := fun q t h1 h2 => by
    rw [b1 q h2]
    unfold mb_A
    have hh : ∀ r, r ∈ [121, 123, 124, 125, 126] → q ≠ r ∨ t ≠ p := fun r hr => by
      rcases h1 with z | z
      · exact Or.inl (fun e => z (by rw [e]; exact hr))
      · exact Or.inr z
    rw [aset_off _ _ _ _ _ _ (hh 121 (by decide)), aset_off _ _ _ _ _ _ (hh 126 (by decide)), aset_off _ _ _ _ _ _ (hh 125 (by decide)), aset_off _ _ _ _ _ _ (hh 124 (by decide)), aset_off _ _ _ _ _ _ (hh 123 (by decide))]
  refine ⟨?_, ?_, ?_, ?_, ?_, ?_, ?_, fun t ht => ?_, fun t ht => ?_⟩
  · rw [key _ _ (Or.inr hp) (by decide)]; exact a1
  · rw [b2]; exact a2
  · rw [key _ _ (Or.inr hp) (by decide)]; exact a3
  · rw [key _ _ (Or.inr hp) (by decide)]; exact a4
  · rw [key _ _ (Or.inr hp) (by decide)]; exact a5
  · rw [key _ _ (Or.inr hp) (by decide)]; exact a6
  · rw [key _ _ (Or.inr hp) (by decide)]; exact a7
  · rw [key _ _ (Or.inl (by decide)) (by decide)]; exact a8 t ht
  · obtain ⟨c1, c2⟩ := b3 (8 * i + t) (by omega)
    have e : ∀ q, q = 127 ∨ q = 128 → (mb_A A1 p tr ti ke la n).1 q = A1.1 q := fun q hq => by
      unfold mb_A
      rw [aset_ne _ _ _ (by omega), aset_ne _ _ _ (by omega), aset_ne _ _ _ (by omega), aset_ne _ _ _ (by omega), aset_ne _ _ _ (by omega)]
    rw [c1, c2, e 127 (Or.inl rfl), e 128 (Or.inr rfl)]; exact a9 t ht
theorem k_block {G : Ev_G} {w : Ev_W} {K : Option Ev_K} (hR : rl w K) (k tr ti ke la : Int32) (hke : ke = 0 ∨ ke = 1) : bo G M_EF_block M_Mo_block 3 2 33 3 [.int k, .int tr, .int ti, .int ke, .int la] w K := by
  obtain ⟨S, D, sf, sd, c, f, c2, f2, fp, hc, hf, qs, hb, I, v0, A, hrc, hM, hrp⟩ := id hR
  obtain ⟨hm, i4, i5, i6, i2, i3, ⟨sz, hd⟩, ⟨g, g1, g2⟩, ⟨g', g3, g4⟩, hby, htx⟩ := hrp
  obtain ⟨As, htr, hes, hok, hnm, hm60, hfree, h139, hS, hinj⟩ := hrc.ab
  obtain ⟨_, hn, _, hsd, hpo, hpl, hrow, _⟩ := id hm
  obtain ⟨he, hr1, hr2, hr3, hwr, hfi, ⟨ms_, pl_, en_, tg_, vf_, vl_, hre⟩, hfr, _, hK⟩ := id hrc
  obtain ⟨hc8, hf4, hfs, hdd⟩ := id hd
  by_cases h7 : ∃ j, ix (sn S) k = some j ∧ (sE S j).1 = 7
  · obtain ⟨j, hix, h7⟩ := h7
    obtain ⟨hj, rfl⟩ : j < sn S ∧ k = nI j := by
      rcases ix_cases (n := sn S) (by omega) k with ⟨j', hj', e, hix'⟩ | ⟨hix', _⟩
      · rw [hix] at hix'; cases hix'; exact ⟨hj', e⟩
      · rw [hix] at hix'; cases hix'
    refine (c_EF_blockS (G := G) he htr hn hsd hes hnm hok hm60 hfree h139 hfr hc8 hf4 hj h7 tr ti ke la hke).mono (fun v w1 hq => ?_)
    rcases hq with ⟨hb1, rfl, hw⟩ | ⟨hb1, hb2, rfl, hw⟩ | ⟨hb1, hb2, hb3, rfl, w0, hadd, hfr1, hT1, hel, hpf, hsm⟩
    · refine ⟨_, rfl, by rw [hw]; exact hR.st, ?_⟩
      rw [hw]
      refine (c_Mo_block (G := G) hM hm i2 i3 hd hj h7 tr ti ke la hke).mono (fun v2 w2 hq2 => ?_)
      rcases hq2 with ⟨_, rfl, rfl⟩ | ⟨z, _⟩ | ⟨z, _⟩
      · exact ⟨rfl, hR⟩
      · exact absurd z hb1
      · exact absurd z hb1
    · refine ⟨_, rfl, by rw [hw]; exact hR.st, ?_⟩
      rw [hw]
      refine (c_Mo_block (G := G) hM hm i2 i3 hd hj h7 tr ti ke la hke).mono (fun v2 w2 hq2 => ?_)
      rcases hq2 with ⟨z, _⟩ | ⟨_, _, rfl, rfl⟩ | ⟨_, z1, z2, _⟩
      · exact absurd hb1 z
      · exact ⟨rfl, hR⟩
      · omega
    · have hx0 := hR
      have hmo : ∀ q, some j = some q → q < sn S := fun q hq => by cases hq; exact hj
      have hee : tr_e (sm S) (sn S) (sa S) w.1 = ad_e S := by rw [hS.2.2.2.2.2.2.1]; rfl
      have hat := hadd.at (tr_go_le _ _ _ _ _ (by omega)) hS.2.2.2.1
      rw [hee] at hat hT1 hel hpf hsm
      have hS1 : is_S w1 (ad_S S (some j) (bk_E (tr_e (sm S) (sn S) (sE S) tr_e0) (tr_end (el_lev (sE S)) (sn S) j) (some (sa S j)) ((sE S j).2.2.2 1 + 1) tr ti ke la hc sd hf) (fr_p hc qs (rd_pf S))) As (fr_s sd hf hb sf) (sd + hf) :=
        is_S.add (l := [105, 108, 111]) (mo := some j) hS hmo (by decide) hadd hb2 hT1 (hsm.up (fun q hq => hq)) (by decide) hel hpf rfl (by show (9 : Nat) < 17; decide) rfl
      have hk' : ∀ q, q ∉ [105, 108, 109, 111] ∧ q < 139 → w1.2 q = w.2 q := fun q hq => by
        have h5 := hat.1
        have h6 := hq.1
        simp at h6
        rw [hsm.2 q (by simp; omega)]
        exact hadd.2.2.1 q hq.2 (by omega) (by omega)
      have hM1 : is_M w1 I v0 A := hM.kp (fun q a b => hk' q (by simp; omega))
      have hrc1 : rc w1 K (ad_S S (some j) (bk_E (tr_e (sm S) (sn S) (sE S) tr_e0) (tr_end (el_lev (sE S)) (sn S) j) (some (sa S j)) ((sE S j).2.2.2 1 + 1) tr ti ke la hc sd hf) (fr_p hc qs (rd_pf S))) (fr_s sd hf hb sf) (sd + hf) c f c2 f2 fp 0 0 qs hb := ⟨(hk' 100 (by decide)).trans he, ⟨(hk' 101 (by decide)).trans hr1.1, (hk' 102 (by decide)).trans hr1.2⟩, ⟨(hk' 103 (by decide)).trans hr2.1, (hk' 104 (by decide)).trans hr2.2⟩, (by obtain ⟨a, b, z⟩ := hr3; exact ⟨a, b, (hk' 114 (by decide)).trans z.1, (hk' 115 (by decide)).trans z.2⟩), (hk' 113 (by decide)).trans hwr, (hk' 116 (by decide)).trans hfi, ⟨_, _, _, _, _, _, (hk' 112 (by decide)).trans hre⟩, hfr1, ⟨As, hS1⟩, (hk' 18 (by decide)).trans hK⟩
      refine ⟨_, rfl, ⟨hrc1.2.2.2.2.2.2.2.2.2, _, hM1.1⟩, (c_Mo_block (G := G) hM1 hm i2 i3 hd hj h7 tr ti ke la hke).mono (fun v2 w2 hq2 => ?_)⟩
      rcases hq2 with ⟨z, _⟩ | ⟨_, z, _⟩ | ⟨_, _, _, rfl, A1, A3, hM2, hs2, hin, hbq⟩
      · exact absurd hb1 z
      · omega
      · obtain ⟨n1, n2, n3, n4, n5, n6, n7⟩ := hin
        obtain ⟨o1, o2, o3, o4, o5, o6⟩ := id hbq
        obtain ⟨t1, t2, t3, t4, t5⟩ := hb1
        have hsu : 0 ≤ la.toInt ∧ la.toInt ≤ 3 ∧ hc ≠ 0 := by
          unfold fr_suit at t5
          rw [Bool.and_eq_true, decide_eq_true_eq] at t5
          exact t5.1
        have hmb : ∀ q, q ∉ [121, 123, 124, 125, 126] → (mb_A A1 (tr_end (el_lev (sE S)) (sn S) j) tr ti ke la hc).1 q = A1.1 q := fun q hq => by
          unfold mb_A
          rw [aset_ne _ _ _ (fun e => hq (by rw [e]; decide)), aset_ne _ _ _ (fun e => hq (by rw [e]; decide)), aset_ne _ _ _ (fun e => hq (by rw [e]; decide)), aset_ne _ _ _ (fun e => hq (by rw [e]; decide)), aset_ne _ _ _ (fun e => hq (by rw [e]; decide))]
        have hA3 : ∀ q, q ∉ [121, 123, 124, 125, 126] → q ∉ [127, 128, 129] → A3.1 q = A1.1 q := fun q h1 h2 => (o1 q h2).trans (hmb q h1)
        have hE : el_D (bk_E (tr_e (sm S) (sn S) (sE S) tr_e0) (tr_end (el_lev (sE S)) (sn S) j) (some (sa S j)) ((sE S j).2.2.2 1 + 1) tr ti ke la hc sd hf) (fr_p hc qs (rd_pf S)) (hc, hf, sz, sd) (sd + hf) := by
          refine ⟨by show 9 = so_of bk_tag; decide +kernel, by show 0 < bk_tag.toInt; decide +kernel, fun _ => ⟨rfl, by show hc ≤ 640; omega⟩, fun _ => by show hc ≤ 16; omega, fun _ => ⟨by show 1 ≤ hc; omega, hc8, fun i hi => ?_, hfs, t1, t2, t3, t4, hke, hsu.1, hsu.2.1⟩, fun z => absurd z (by show ¬ so_fm 9 = 6; decide), fun _ => ⟨rfl, rfl, Nat.le_refl _⟩, fun z => absurd z (by show ¬ so_fm 9 = 4; decide)⟩
          have hi : i < hc := hi
          show (if i < hc then qs i else _) = nI (sz i) ∧ sz i ≤ 640
          rw [if_pos hi]
          have := (hdd i hi).2.2.1
          exact ⟨(hdd i hi).1, by omega⟩
        have hhp : ∀ y, y < sd + hf → A3.1 129 y = fr_s sd hf hb sf y := fun y hy => by
          show _ = (if sd ≤ y ∧ y < sd + hf then hb (y - sd) else sf y)
          by_cases z : sd ≤ y
          · rw [if_pos ⟨z, hy⟩]
            have := o6 (y - sd) (by omega)
            rw [show sd + (y - sd) = y by omega] at this; exact this
          · rw [if_neg (fun u => z u.1), o5 y (by omega), hmb 129 (by decide), n7 129 (by decide)]
            exact hm.2.2.2.2.2.2.2 y (by omega)
        refine ⟨rfl, _, _, fr_s sd hf hb sf, sd + hf, c, f, c2, f2, fp, 0, 0, qs, hb, _, v0, A3, hrc1.mo hs2, hM2, mdl.ins (o := some j) (D1 := (hc, hf, sz, sd)) hm hb2 hmo rfl rfl (by omega) hb3 (fun i hi => ro_c0.bq (n1 i hi) (by have : i < tr_end (el_lev (sE S)) (sn S) j := hi; omega) hbq) (fun i i1 i2 => ro_c0.bq (n2 i i1 i2) (by have : tr_end (el_lev (sE S)) (sn S) j < i := i1; omega) hbq) (fun i hi => by rw [hA3 119 (by decide) (by decide)]; exact n3 i hi) hE ?_ rfl (by show (9 : Nat) < 17; decide) (fun z => by cases z) (fun q hq => by cases hq; rw [h7]; show so_fits 9 (so_in 7) = true; decide +kernel) hhp, i4, i5, i6, rfl, rfl, ⟨sz, Nat.zero_le _, Nat.zero_le _, rfl, fun i hi => absurd hi (Nat.not_lt_zero _)⟩, ⟨g, g1, by rw [hA3 132 (by decide) (by decide), n7 132 (by decide)]; exact g2⟩, ⟨g', g3, by rw [hA3 133 (by decide) (by decide), n7 133 (by decide)]; exact g4⟩, fun y hy => ?_, htx.ins (mk_pn hmo) (fun z => absurd z (by show ¬ so_fm 9 = 2; decide))⟩
        · refine ⟨by rw [hA3 118 (by decide) (by decide)]; exact n4, fun z => absurd z (by show ¬ so_fm 9 = 1; decide), fun _ => ?_, fun z => absurd z (by show ¬ so_fm 9 = 2; decide), fun _ => ⟨?_, ?_, ?_, ?_, fun i hi => o4 i hi⟩, fun z => absurd z (by show ¬ so_fm 9 = 6; decide)⟩
          · rw [o1 121 (by decide)]; unfold mb_A; rw [show mk_p (sE S) (sn S) (some j) = tr_end (el_lev (sE S)) (sn S) j from rfl, aset_self]
          · rw [o1 123 (by decide)]; unfold mb_A; rw [show mk_p (sE S) (sn S) (some j) = tr_end (el_lev (sE S)) (sn S) j from rfl, aset_off _ _ _ _ _ _ (Or.inl (by decide)), aset_off _ _ _ _ _ _ (Or.inl (by decide)), aset_off _ _ _ _ _ _ (Or.inl (by decide)), aset_off _ _ _ _ _ _ (Or.inl (by decide)), aset_self]; rfl
          · rw [o1 124 (by decide)]; unfold mb_A; rw [show mk_p (sE S) (sn S) (some j) = tr_end (el_lev (sE S)) (sn S) j from rfl, aset_off _ _ _ _ _ _ (Or.inl (by decide)), aset_off _ _ _ _ _ _ (Or.inl (by decide)), aset_off _ _ _ _ _ _ (Or.inl (by decide)), aset_self]; rfl
          · rw [o1 125 (by decide)]; unfold mb_A; rw [show mk_p (sE S) (sn S) (some j) = tr_end (el_lev (sE S)) (sn S) j from rfl, aset_off _ _ _ _ _ _ (Or.inl (by decide)), aset_off _ _ _ _ _ _ (Or.inl (by decide)), aset_self]; rfl
          · rw [o1 126 (by decide)]; unfold mb_A; rw [show mk_p (sE S) (sn S) (some j) = tr_end (el_lev (sE S)) (sn S) j from rfl, aset_off _ _ _ _ _ _ (Or.inl (by decide)), aset_self]; rfl
        · show (if sd ≤ y ∧ y < sd + hf then hb (y - sd) else sf y) &&& 255 = (if sd ≤ y ∧ y < sd + hf then hb (y - sd) else sf y)
          by_cases z : sd ≤ y
          · rw [if_pos ⟨z, hy⟩]
            obtain ⟨i, u1, b, u2, u3⟩ := sm_split (d := sz) (n := hc) (y := y - sd) (by omega)
            rw [u3, (hdd i u1).2.2.2 b u2, b255]
          · rw [if_neg (fun u => z u.1)]; exact hby y (by omega)
  · exact (c_EF_block0 (G := G) he htr hn hsd hes hnm hok hm60 hfree h139 k tr ti ke la (fun j hj z => h7 ⟨j, hj, z⟩)).mono (fun v w1 hq => ⟨_, hq.1, by rw [hq.2]; exact hR.st, by
      rw [hq.2]
      exact (c_Mo_blockX (G := G) hM hm k (fun j hj z => h7 ⟨j, hj, z⟩) tr ti ke la).mono (fun v2 w2 hq2 => ⟨hq2.1, by rw [hq2.2]; exact hR⟩)⟩)
