/-! ===== Reader: readTree, ElementFiles: read ===== -/
def rd_post (w w' : Ev_W) (As : Nat → Option Nat) (c : Nat) (g : Nat → Nat) (R : Option Int32 × Ev_RS) (v : Option Value) : Prop := match R with
  | (some x, T) => v = some (.int x) ∧ (∃ S', sn S' = 0 ∧ is_S w' S' As T.2.1 T.2.2.1) ∧ T.2.2.1 ≤ 640 ∧ (∃ ms pl en tg vf vL, is_Re w' (nI T.2.2.2.2) ms pl en tg vf vL) ∧ rd_fr w w'
  | (none, T) => v = some (.int (nI (sn T.1))) ∧ rd_I w w' As c T (-1)
theorem rd_fr.sm {w w1 w2 : Ev_W} {l : List Nat} (h : rd_fr w w1) (hs : ev_sm w1 w2 l) (hl : ∀ q, q ∈ l → q ∈ [108, 109, 110, 111, 112] ∨ 139 ≤ q) : rd_fr w w2 := fun q h1 h2 => (hs.2 q (fun z => (hl q z).elim h2 (fun y => by omega))).trans (h q h1 h2)
theorem rs_neg {g : Nat → Nat} {p e s n : Nat} (h : ¬ rs_c g p e s n = 0) : (rs_c g p e s n).toInt < 0 := by
  have key : rs_c g p e s n = -2 ∨ rs_c g p e s n = -3 ∨ rs_c g p e s n = -5 ∨ rs_c g p e s n = -6 ∨ rs_c g p e s n = 0 := by
    unfold rs_c
    split
    · exact Or.inl rfl
    · split
      · exact Or.inr (Or.inl rfl)
      · split
        · exact Or.inl rfl
        · split
          · exact Or.inr (Or.inr (Or.inl rfl))
          · split
            · exact Or.inl rfl
            · split
              · exact Or.inr (Or.inr (Or.inr (Or.inl rfl)))
              · exact Or.inr (Or.inr (Or.inr (Or.inr rfl)))
  rcases key with z | z | z | z | z
  · rw [z]; decide
  · rw [z]; decide
  · rw [z]; decide
  · rw [z]; decide
  · exact absurd z h
theorem rs_60 {g : Nat → Nat} {p e s : Nat} {r : Nat × Nat} (hv : vi g p e = some r) (h : rs_c g p e s 60 = 0) : False := by
  unfold rs_c at h
  rw [hv] at h
  dsimp only at h
  split at h
  · exact absurd h (by decide)
  · split at h
    · exact absurd h (by decide)
    · split at h
      · exact absurd h (by decide)
      · split at h
        · exact absurd h (by decide)
        · exact absurd h (by decide)
theorem rs_e_le {g : Nat → Nat} {p e s n : Nat} {r : Nat × Nat} (hv : vi g p e = some r) (h : rs_c g p e s n = 0) : p + r.2 ≤ rs_e p e r ∧ rs_e p e r ≤ e := by
  have hv1 := vi_of hv
  unfold rs_c at h
  rw [hv] at h
  dsimp only at h
  split at h
  · exact absurd h (by decide)
  · split at h
    · exact absurd h (by decide)
    · split at h
      · exact absurd h (by decide)
      · split at h
        · exact absurd h (by decide)
        · rename_i c1 c2
          unfold rs_e
          split
          · omega
          · rename_i c3
            have h3 : vi_full r = false := by cases hz : vi_full r with
              | true => exact absurd hz c3
              | false => rfl
            have : ¬ e - (p + r.2) < r.1 := fun z => c2 ⟨h3, z⟩
            omega
theorem so_4 : ∀ s, s < 17 → so_fm s = 4 → so_fits s 1 = false := by decide +kernel
theorem lf_sd_le {g : Nat → Nat} {sd p e me : Nat} {fm : Int32} {l : Ev_Lf} (h : lfd g p e me fm = some l) (hg : ∀ i, i < e → g i < 256) (he : e ≤ 640) (hpe : p ≤ e) (hsd : sd ≤ p) : lf_sd sd e l ≤ e := by
  have key : ∀ q, l.2.2.2 = some q → p ≤ q ∧ q ≤ e := by
    intro q hq
    unfold lfd at h
    split at h
    · split at h
      · cases h; cases hq
      · cases h
    · split at h
      · cases htx : tx g (e - p) p false 0 with
        | none => rw [htx] at h; cases h
        | some y => rw [htx] at h; cases h; cases hq
      · split at h
        · split at h
          · cases h
          · rename_i R hR
            have h1 := bh_le hR
            cases hbz : bz g R.2.2.2.1 R.2.2.2.2.1 R.2.2.2.2.2 e with
            | none => rw [hbz] at h; cases h
            | some y =>
              have h2 := bz_le hg he h1.2.1 hbz
              rw [hbz] at h; cases h; cases hq
              omega
        · split at h
          · split at h
            · cases h; cases hq
            · cases h
          · split at h
            · cases h; cases hq; omega
            · cases h; cases hq
  unfold lf_sd
  split
  · omega
  · rename_i q hq
    have := key q hq
    omega
theorem c_Re_readTree {G : Ev_G} {w : Ev_W} {c : Nat} {f : Nat → Int32} (hin : is_Ro w 101 102 640 c f) {g : Nat → Nat} (hg : rd_g c f g) {S : Ev_S} {As : Nat → Option Nat} {sf : Nat → Int32} {sd : Nat} (hS : is_S w S As sf sd) (hsd : sd ≤ 1200) {fp pl en tg vf vL : Int32} {ms : Option Nat} (hre : is_Re w fp ms pl en tg vf vL) : ev_Met G M_Re_readTree 5 122 2013 [.ref 112] w (fun v w' => rd_post w w' As c g (rd_go c g 61 (rd_S0 S, sf, 0, none, 0)) v) := by
  have hc := hg.1
  refine ev_Met.of md_Re_readTree (Nat.le_of_ble_eq_true rfl) (fun X hX hR => ?_)
  have flt : ∀ (bc bs : Nat) (x : Int32) (T : Ev_RS) (ls : Ev_L) (w2 : Ev_W), x.toInt < 0 → (some x, T) = (rd_go c g 61 (rd_S0 S, sf, 0, none, 0)) → T.2.2.1 ≤ 640 → (∃ S2, is_S w2 S2 As T.2.1 T.2.2.1) → (∃ ms pl en tg vf vL, is_Re w2 (-1) ms pl en tg vf vL) → rd_fr w w2 → ls.1 0 = some (.ref 112) → ls.1 2 = some (.int (nI T.2.2.2.2)) → ls.1 3 = some (.int x) → ev_W G M_Re_readTree X bc bs 72 ls [] w2 := by
    intro bc bs x T ls w2 hx hT h640 hS2 hr2 hf2 l0 l2 l3
    obtain ⟨S2, hS2⟩ := hS2
    obtain ⟨ms2, pl2, en2, tg2, vf2, vL2, hr2⟩ := hr2
    have hS3 : is_S (ev_set w2 112 (.inr (5, [.ref 101, .ref 108, .int (nI T.2.2.2.2), va_rf ms2, .int pl2, .int en2, .int tg2, .int vf2, .int vL2]))) S2 As T.2.1 T.2.2.1 := hS2.sm (l := [112]) (ev_sm.s1 (by simp)) (by simp)
    have hf3 : rd_fr w (ev_set w2 112 (.inr (5, [.ref 101, .ref 108, .int (nI T.2.2.2.2), va_rf ms2, .int pl2, .int en2, .int tg2, .int vf2, .int vL2]))) := hf2.sm (l := [112]) (ev_sm.s1 (by simp)) (by simp)
    refine q_iload hX 3 d_Re_readTree_72 rfl (by first | rfl | assumption) ?_
    refine r_if_ge hX 91 d_Re_readTree_73 (by decide) (fun c73 => absurd c73 (by rw [i_le, i_0]; omega)) (fun _ => ?_)
    refine q_aload hX 0 d_Re_readTree_76 rfl (by first | rfl | assumption) ?_
    refine q_iload hX 2 d_Re_readTree_77 rfl (by first | rfl | assumption) ?_
    refine r_putf hX d_Re_readTree_78 fp_Re_9 hr2 (by first | assumption | decide | omega) rfl rfl (Nat.le_of_ble_eq_true rfl) ?_
    refine q_aload hX 0 d_Re_readTree_81 rfl (by first | rfl | assumption) ?_
    refine r_getf hX d_Re_readTree_82 fl_Re_19 (ev_set_self _ _ _) rfl ?_
    refine r_iconst (v := 0) hX d_Re_readTree_85 (by decide) ?_
    refine r_putf hX d_Re_readTree_86 fp_Re_50 hS3.1.1 (by first | assumption | decide | omega) rfl rfl (Nat.le_of_ble_eq_true rfl) ?_
    refine q_iload hX 3 d_Re_readTree_89 rfl (by first | rfl | assumption) ?_
    refine r_iret hX hR d_Re_readTree_90 rfl (by first | rfl | assumption) ?_
    show rd_post _ _ _ _ _ _ _
    rw [← hT]
    exact ⟨rfl, ⟨rd_S0 S2, rfl, hS3.clr⟩, h640, ⟨_, _, _, _, _, _, (ev_set_ne _ _ (by decide)).trans (ev_set_self _ _ _)⟩, hf3.sm (l := [108]) (ev_sm.s1 (by simp)) (by simp)⟩
  have fin : ∀ (bc bs : Nat) (T : Ev_RS) (ls : Ev_L) (w1 : Ev_W), (none, T) = (rd_go c g 61 (rd_S0 S, sf, 0, none, 0)) → rd_I w w1 As c T (-1) → ls.1 0 = some (.ref 112) → ev_W G M_Re_readTree X bc bs 97 ls [] w1 := by
    intro bc bs T ls w1 hT hI l0
    obtain ⟨en1, tg1, vf1, vL1, hr1⟩ := hI.2.2.2.2.2.2.1
    have ht1 := hI.1.1.1
    refine q_aload hX 0 d_Re_readTree_97 rfl (by first | rfl | assumption) ?_
    refine r_getf hX d_Re_readTree_98 fl_Re_19 hr1 rfl ?_
    refine r_getf hX d_Re_readTree_101 fl_Re_50 ht1 rfl ?_
    refine r_iret hX hR d_Re_readTree_104 rfl (by first | rfl | assumption) ?_
    show rd_post _ _ _ _ _ _ _
    rw [← hT]
    exact ⟨rfl, hI⟩
  have loop : ∀ (k turn : Nat) (T : Ev_RS) (ls : Ev_L) (w1 : Ev_W), turn + k = 61 → rd_I w w1 As c T (-1) → rd_go c g k T = (rd_go c g 61 (rd_S0 S, sf, 0, none, 0)) → ls.1 0 = some (.ref 112) → ls.1 1 = some (.int (nI turn)) → ev_W G M_Re_readTree X (2 * k) (33 * k) 24 ls [] w1 := by
    intro k
    induction k with
    | zero =>
      intro turn T ls w1 e1 hI eR l0 l1
      refine q_iload hX 1 d_Re_readTree_24 rfl (by first | rfl | assumption) ?_
      refine r_bipush (v := 60) hX d_Re_readTree_25 (by decide) ?_
      refine r_icmp_gt hX 97 d_Re_readTree_27 (by decide) (fun _ => ?_) (fun c27 => absurd (nI_lt (a := 60) (b := turn) (by omega) (by omega)) c27)
      exact fin _ _ T _ _ (by rw [← eR]; rfl) hI l0
    | succ k ih =>
      intro turn T ls w1 e1 hI eR l0 l1
      obtain ⟨S1, sf1, sd1, ms, p⟩ := T
      obtain ⟨hS1, heo, hpo, htl, hsp, hpc0, ⟨en1, tg1, vf1, vL1, hr1⟩, hfr⟩ := id hI
      have hS1 : is_S w1 S1 As sf1 sd1 := hS1
      have heo : rd_eok S1 c := heo
      have hpo : is_po (sn S1) (sE S1) (si S1) := hpo
      have htl : is_tl (sn S1) (sE S1) ms := htl
      have hsp : sd1 ≤ p := hsp
      have hpc0 : p ≤ c := hpc0
      have hr1 : is_Re w1 (-1) (ms.map (sa S1)) (nI p) en1 tg1 vf1 vL1 := hr1
      have hin1 : is_Ro w1 101 102 640 c f := ⟨(hfr 101 (by decide) (by decide)).trans hin.1, (hfr 102 (by decide) (by decide)).trans hin.2⟩
      refine q_iload hX 1 d_Re_readTree_24 rfl (by first | rfl | assumption) ?_
      refine r_bipush (v := 60) hX d_Re_readTree_25 (by decide) ?_
      refine r_icmp_gt hX 97 d_Re_readTree_27 (by decide) (fun c27 => absurd c27 (nI_nlt (a := 60) (b := turn) (by omega) (by decide))) (fun _ => ?_)
      refine q_aload hX 0 d_Re_readTree_30 rfl (by first | rfl | assumption) ?_
      refine r_getf hX d_Re_readTree_31 fl_Re_32 hr1 rfl ?_
      refine q_aload hX 0 d_Re_readTree_34 rfl (by first | rfl | assumption) ?_
      refine r_getf hX d_Re_readTree_35 fl_Re_15 hr1 rfl ?_
      refine r_getf hX d_Re_readTree_38 fl_Re_35 hin1.1 rfl ?_
      refine r_icmp_ge hX 97 d_Re_readTree_41 (by decide) (fun c41 => ?_) (fun c41 => ?_)
      · exact fin _ _ _ _ _ (by rw [← eR, rd_go, if_neg (fun z : p < c => nI_ge z (by omega) c41)]) hI l0
      · have hpc : p < c := Nat.lt_of_not_le (fun z => c41 (nI_le z (by omega)))
        refine q_aload hX 0 d_Re_readTree_44 rfl (by first | rfl | assumption) ?_
        refine r_getf hX d_Re_readTree_45 fl_Re_32 hr1 rfl ?_
        refine q_istore hX 2 d_Re_readTree_48 rfl (by decide) ?_
        refine q_aload hX 0 d_Re_readTree_49 rfl (by first | rfl | assumption) ?_
        refine r_callV (as := []) hX d_Re_readTree_50 lk_Re_40 hr1 rfl rfl (Nat.le_of_ble_eq_true rfl) (by decide) (2 * (k + 1)) (33 * (k + 1)) (by omega) (by omega) (c_Re_readTag (G := G) hin1 hg hS1 (by omega) heo hr1 (fun j hj => (htl j hj).1) hpc) (fun v w2 hq => ?_)
        have hq : rt_post _ _ _ _ _ _ _ _ _ _ _ _ := hq
        obtain ⟨hs2, hq⟩ := hq
        have hf2 : rd_fr w w2 := hfr.sm hs2 (by simp)
        have hS2 := hS1.sm hs2 (by simp)
        rcases hq with ⟨h16, rfl, hr2⟩ | ⟨h16, hlt, rfl, hr2⟩ | ⟨h16, hle, rfl, hr2⟩
        · refine q_istore hX 3 d_Re_readTree_53 rfl (by decide) ?_
          refine q_iload hX 3 d_Re_readTree_54 rfl (by first | rfl | assumption) ?_
          refine r_if_ne hX 63 d_Re_readTree_55 (by decide) (fun _ => ?_) (fun c55 => absurd c55 (by decide))
          refine q_iload hX 3 d_Re_readTree_63 rfl (by first | rfl | assumption) ?_
          refine r_if_ne hX 72 d_Re_readTree_64 (by decide) (fun _ => ?_) (fun c64 => absurd c64 (by decide))
          exact flt _ _ (-3) (S1, sf1, sd1, ms, p) _ _ (by decide) (by rw [← eR, rd_go, if_pos hpc]; dsimp only; rw [show rd_1 c g S1 sf1 sd1 ms p = .inl (-3) from by rw [rd_1, if_pos h16]]) (by show sd1 ≤ 640; omega) ⟨_, hS2⟩ ⟨_, _, _, _, _, _, hr2⟩ hf2 l0 rfl rfl
        · refine q_istore hX 3 d_Re_readTree_53 rfl (by decide) ?_
          refine q_iload hX 3 d_Re_readTree_54 rfl (by first | rfl | assumption) ?_
          refine r_if_ne hX 63 d_Re_readTree_55 (by decide) (fun _ => ?_) (fun c55 => absurd c55 (by decide))
          refine q_iload hX 3 d_Re_readTree_63 rfl (by first | rfl | assumption) ?_
          refine r_if_ne hX 72 d_Re_readTree_64 (by decide) (fun _ => ?_) (fun c64 => absurd c64 (by decide))
          exact flt _ _ (-2) (S1, sf1, sd1, ms, p) _ _ (by decide) (by rw [← eR, rd_go, if_pos hpc]; dsimp only; rw [show rd_1 c g S1 sf1 sd1 ms p = .inl (-2) from by rw [rd_1, if_neg h16, if_pos hlt]]) (by show sd1 ≤ 640; omega) ⟨_, hS2⟩ ⟨_, _, _, _, _, _, hr2⟩ hf2 l0 rfl rfl
        · generalize hm2 : pop2 (sE S1) (si S1) (so_of (nI (nb g p (vl (g p))))) 61 (pop1 (sE S1) (si S1) p 61 ms) = m2 at hr2 ⊢
          have htl2 : is_tl (sn S1) (sE S1) m2 := by rw [← hm2]; exact is_tl.p2 hpo _ 61 _ (is_tl.p1 hpo p 61 ms htl)
          have he1c : rd_e1 (sE S1) c (pop1 (sE S1) (si S1) p 61 ms) ≤ c := by
            cases hh : pop1 (sE S1) (si S1) p 61 ms with
            | none => exact Nat.le_refl _
            | some j => exact (heo j ((is_tl.p1 hpo p 61 ms htl) j hh).1).2
          generalize he1 : rd_e1 (sE S1) c (pop1 (sE S1) (si S1) p 61 ms) = e1 at hr2 hle he1c
          generalize htt : nI (nb g p (vl (g p))) = t at hr2 hm2 ⊢
          by_cases hmay : mk_may (sE S1) (sn S1) (so_of t) m2 = true
          · rw [if_pos hmay]
            refine q_istore hX 3 d_Re_readTree_53 rfl (by decide) ?_
            refine q_iload hX 3 d_Re_readTree_54 rfl (by first | rfl | assumption) ?_
            refine r_if_ne hX 63 d_Re_readTree_55 (by decide) (fun c55 => absurd rfl c55) (fun _ => ?_)
            refine q_aload hX 0 d_Re_readTree_58 rfl (by first | rfl | assumption) ?_
            refine r_callV (as := []) hX d_Re_readTree_59 lk_Re_44 hr2 rfl rfl (Nat.le_of_ble_eq_true rfl) (by decide) (2 * k) (33 * k) (by omega) (by omega) (c_Re_readSize (G := G) (hin1.sm hs2 (by decide) (by decide)) hg hS2 (by omega) hr2 he1c hle (fun j hj => (htl2 j hj).1)) (fun v w3 hq => ?_)
            have hq : rs_post _ _ _ _ _ _ _ _ _ _ _ _ _ := hq
            unfold rs_post at hq
            rcases hq with ⟨hrc, rfl, ⟨p9, vf9, vL9, hp9, hr3⟩, hs3⟩ | ⟨hrc, rfl, r, w0, wa, hvi, hs0, hadd, hs3, hE3, vf9, vL9, hr3⟩
            · have hneg : (rs_c g (p + vl (g p)) e1 (so_of t) (sn S1)).toInt < 0 := rs_neg hrc
              refine q_istore hX 3 d_Re_readTree_62 rfl (by decide) ?_
              refine q_iload hX 3 d_Re_readTree_63 rfl (by first | rfl | assumption) ?_
              refine r_if_ne hX 72 d_Re_readTree_64 (by decide) (fun _ => ?_) (fun c64 => absurd c64 hrc)
              exact flt _ _ (rs_c g (p + vl (g p)) e1 (so_of t) (sn S1)) (S1, sf1, sd1, ms, p) _ _ hneg (by rw [← eR, rd_go, if_pos hpc]; dsimp only; rw [show rd_1 c g S1 sf1 sd1 ms p = .inl (rs_c g (p + vl (g p)) e1 (so_of t) (sn S1)) from by rw [rd_1, if_neg h16, he1, if_neg (by omega), htt, hm2, if_neg (fun z => z hmay), if_pos hrc]]) (by show sd1 ≤ 640; omega) ⟨_, hS2.sm hs3 (by simp)⟩ ⟨_, _, _, _, _, _, hr3⟩ (hf2.sm hs3 (by simp)) l0 rfl rfl
            · have hv := vi_of hvi
              have hrd : rd_1 c g S1 sf1 sd1 ms p = rd_2 g S1 sf1 sd1 m2 t (p + vl (g p) + r.2) (rs_e (p + vl (g p)) e1 r) (vi_full r) := by
                rw [rd_1, if_neg h16, he1, if_neg (by omega), htt, hm2, if_neg (fun z => z hmay), if_neg (fun z => z hrc), hvi]
              have hn60 : sn S1 < 60 := by
                have h1 := hS1.2.2.2.1
                have h2 := hS1.2.2.2.2.1
                have h3 : ¬ sn S1 = 60 := fun z => rs_60 hvi (z ▸ hrc)
                omega
              have he2 := rs_e_le hvi hrc
              generalize he2e : rs_e (p + vl (g p)) e1 r = e2 at hE3 hr3 hrd he2
              have hS0 : is_S w0 S1 As sf1 sd1 := hS2.sm hs0 (by simp)
              have hend := htl2.end (by omega) hpo
              have hat := hadd.at (by rw [hend]; exact Nat.le_refl _) hS1.2.2.2.1
              have hee : tr_e (sm S1) (sn S1) (sa S1) w0.1 = ad_e S1 := by rw [hS0.2.2.2.2.2.2.1]; rfl
              rw [hee] at hat
              have hfa : rd_fr w wa := fun q h1 h2 => by
                rw [hadd.2.2.1 q h1 (fun z => h2 (by rw [z]; decide)) (fun z => h2 (by rw [z]; decide)), hs0.2 q (fun z => h2 (by rw [List.mem_singleton.mp z]; decide))]
                exact hf2 q h1 h2
              have hT3 : is_Tr w3 (sn S1 + 1) (tr_ins (mk_p (sE S1) (sn S1) m2) (sn S1) (some (ad_e S1)) (sL S1)) As sf1 sd1 := by
                have h1 := hadd.1
                rw [hee] at h1
                exact ⟨(hs3.2 108 (by simp; omega)).trans h1.1, (hs3.2 109 (by simp; omega)).trans h1.2.1, (hs3.2 110 (by simp; omega)).trans h1.2.2.1, (hs3.2 111 (by simp; omega)).trans h1.2.2.2⟩
              have hp3 : w3.2 (ad_e S1 + 1) = some (.inl (0, 16, .inl (rd_pf S1))) := (hs3.2 _ (by simp; omega)).trans hat.2.2
              have hL3 : tr_ins (mk_p (sE S1) (sn S1) m2) (sn S1) (some (ad_e S1)) (sL S1) (sn S1 + 1 - 1) = some (ad_e S1) := by rw [hend, Nat.add_sub_cancel, ins_at]
              have hin3 : is_Ro w3 101 102 640 c f := ⟨(hs3.2 101 (by simp; omega)).trans ((hfa 101 (by decide) (by decide)).trans hin.1), (hs3.2 102 (by simp; omega)).trans ((hfa 102 (by decide) (by decide)).trans hin.2)⟩
              have hff := rs_E_f S1 m2 t e2 (vi_full r)
              by_cases hf0 : so_fm (so_of t) = 0
              · refine q_istore hX 3 d_Re_readTree_62 rfl (by decide) ?_
                refine q_iload hX 3 d_Re_readTree_63 rfl (by first | rfl | assumption) ?_
                refine r_if_ne hX 72 d_Re_readTree_64 (by decide) (fun c64 => absurd rfl c64) (fun _ => ?_)
                refine q_aload hX 0 d_Re_readTree_67 rfl (by first | rfl | assumption) ?_
                refine r_callV (as := []) hX d_Re_readTree_68 lk_Re_47 hr3 rfl rfl (Nat.le_of_ble_eq_true rfl) (by decide) (2 * k) (33 * k) (by omega) (by omega) (c_Re_readData0 (G := G) hr3 (by omega) hT3 (by omega) (by omega) (by omega) hE3 hp3 hat.1 hL3 rfl (so_of_lt t) hf0) (fun v w4 hq => ?_)
                obtain ⟨rfl, hr4, hs4⟩ := hq
                refine q_istore hX 3 d_Re_readTree_71 rfl (by decide) ?_
                refine q_iload hX 3 d_Re_readTree_72 rfl (by first | rfl | assumption) ?_
                refine r_if_ge hX 91 d_Re_readTree_73 (by decide) (fun _ => ?_) (fun c73 => absurd (by decide) c73)
                refine r_iinc hX d_Re_readTree_91 (by first | rfl | assumption) ?_
                refine r_goto hX 24 d_Re_readTree_94 (by decide) ?_
                refine ih (turn + 1) (ad_S S1 m2 (rs_E S1 m2 t e2 (vi_full r)) (rd_pf S1), sf1, sd1, some (sn S1), p + vl (g p) + r.2) _ w4 (by omega) ?_ ?_ l0 (by show some (Value.int (nI turn + Int32.ofInt 1)) = _; rw [show Int32.ofInt 1 = 1 from rfl, nI_1])
                · refine rd_next (e2 := e2) hS0 heo hpo htl2 hn60 hadd ⟨(hs4.2 108 (by decide)).trans hT3.1, (hs4.2 109 (by decide)).trans hT3.2.1, (hs4.2 110 (by decide)).trans hT3.2.2.1, (hs4.2 111 (by decide)).trans hT3.2.2.2⟩ ((hs3.up (by simp)).tr (hs4.up (by simp))) ((hs4.2 _ (by simp; omega)).trans hE3) ((hs4.2 _ (by simp; omega)).trans hp3) hff.2.2.1 hff.2.2.2.1 hff.2.2.2.2 hff.2.1 hff.1 (by omega) hc (Or.inr rfl) (by omega) (by omega) ⟨nI e2, t, vf9, vL9, ?_⟩ ((hfa.sm (l := [112, ad_e S1]) hs3 (by simp; omega)).sm hs4 (by simp))
                  show is_Re w4 (-1) (some (tr_ins (sn S1) (sn S1) (ad_e S1) (sa S1) (sn S1))) _ _ _ _ _
                  rw [ins_at]; exact hr4
                · rw [← eR, rd_go, if_pos hpc]; dsimp only; rw [hrd, rd_2, if_pos hf0]
              · have hck : so_fm (rs_E S1 m2 t e2 (vi_full r)).1 = 4 → ∃ mm Em, (rs_E S1 m2 t e2 (vi_full r)).2.1 = some mm ∧ w3.2 mm = some (el_C mm Em) ∧ Em.2.2.2 9 = nI (rd_me (sE S1) m2) ∧ rd_me (sE S1) m2 ≤ c := by
                  intro h4
                  cases m2 with
                  | none =>
                    have h5 : so_fits (so_of t) 1 = true := hmay
                    rw [so_4 (so_of t) (so_of_lt t) h4] at h5
                    exact absurd h5 (by decide)
                  | some j =>
                    have hj := (htl2 j rfl).1
                    obtain ⟨b1, b2, b3, b4⟩ := hadd.2.1.1 j (by split <;> omega)
                    rw [hend, ins_lo hj, insE_lo hj] at b3
                    have hja : sa S1 j ≠ ad_e S1 := fun z => by
                      have h1 := hadd.2.1.2 j (sn S1) (by split <;> omega) (by split <;> omega)
                      rw [hend, ins_lo hj, ins_at, hee] at h1
                      have := h1 z
                      omega
                    have hj2 := (hS0.2.1.1 j (by have := hS0.2.2.2.1; omega)).2.1
                    refine ⟨sa S1 j, sE S1 j, rfl, (hs3.2 _ (by simp; exact ⟨by omega, hja⟩)).trans b3, (heo j hj).1, (heo j hj).2⟩
                refine q_istore hX 3 d_Re_readTree_62 rfl (by decide) ?_
                refine q_iload hX 3 d_Re_readTree_63 rfl (by first | rfl | assumption) ?_
                refine r_if_ne hX 72 d_Re_readTree_64 (by decide) (fun c64 => absurd rfl c64) (fun _ => ?_)
                refine q_aload hX 0 d_Re_readTree_67 rfl (by first | rfl | assumption) ?_
                refine r_callV (as := []) hX d_Re_readTree_68 lk_Re_47 hr3 rfl rfl (Nat.le_of_ble_eq_true rfl) (by decide) (2 * k) (33 * k) (by omega) (by omega) (c_Re_readData (G := G) hin3 hg hr3 (by omega) (by omega) hT3 (by omega) (by omega) (by omega) hE3 hp3 hat.1 hL3 rfl (so_of_lt t) hf0 hck) (fun v w4 hq => ?_)
                have hq : da_post _ _ _ _ _ _ _ _ _ _ _ _ _ _ _ _ _ := hq
                obtain ⟨⟨vf8, vL8, hr4⟩, hs4, hq⟩ := hq
                have hs5 : ev_sm wa w4 [112, 108, 111, ad_e S1, ad_e S1 + 1] := (hs3.up (by simp)).tr hs4
                have hf4 : rd_fr w w4 := hfa.sm hs5 (by simp; omega)
                rw [show (rs_E S1 m2 t e2 (vi_full r)).1 = so_of t from rfl] at hq
                cases hlf : lfd g (p + vl (g p) + r.2) e2 (rd_me (sE S1) m2) (so_fm (so_of t)) with
                | none =>
                  rw [hlf] at hq
                  obtain ⟨rfl, ⟨E', pf', hE4, hp4, x1, x2, x3⟩, hT4⟩ := hq
                  have hS4 := is_S.add (l := [112, 108, 111]) hS0 (fun j hj => (htl2 j hj).1) (so_of_lt t) hadd hn60 hT4 hs5 (by simp) hE4 hp4 (by rw [x3]; exact hff.2.2.1) (by rw [x1]; exact so_of_lt t) (by rw [x2]; exact hff.2.2.2.2)
                  refine q_istore hX 3 d_Re_readTree_71 rfl (by decide) ?_
                  exact flt _ _ (-7) (S1, sf1, sd1, ms, p) _ _ (by decide) (by rw [← eR, rd_go, if_pos hpc]; dsimp only; rw [show rd_1 c g S1 sf1 sd1 ms p = .inl (-7) from by rw [hrd, rd_2, if_neg hf0, hlf]]) (by show sd1 ≤ 640; omega) ⟨_, hS4⟩ ⟨_, _, _, _, _, _, hr4⟩ hf4 l0 rfl rfl
                | some l =>
                  rw [hlf] at hq
                  obtain ⟨rfl, hE4, hp4, hT4⟩ := hq
                  have hsd4 : lf_sd sd1 e2 l ≤ e2 := lf_sd_le hlf (fun i hi => (hg.2 i (by omega)).2) (by omega) (by omega) (by omega)
                  refine q_istore hX 3 d_Re_readTree_71 rfl (by decide) ?_
                  refine q_iload hX 3 d_Re_readTree_72 rfl (by first | rfl | assumption) ?_
                  refine r_if_ge hX 91 d_Re_readTree_73 (by decide) (fun _ => ?_) (fun c73 => absurd (by decide) c73)
                  refine r_iinc hX d_Re_readTree_91 (by first | rfl | assumption) ?_
                  refine r_goto hX 24 d_Re_readTree_94 (by decide) ?_
                  refine ih (turn + 1) (ad_S S1 m2 (lf_E (rs_E S1 m2 t e2 (vi_full r)) sd1 e2 l) (pa_f l.2.1 (rd_pf S1)), lf_sf sf1 sd1 g e2 l, lf_sd sd1 e2 l, m2, e2) _ w4 (by omega) ?_ ?_ l0 (by show some (Value.int (nI turn + Int32.ofInt 1)) = _; rw [show Int32.ofInt 1 = 1 from rfl, nI_1])
                  · refine rd_next (e2 := e2) hS0 heo hpo htl2 hn60 hadd hT4 hs5 hE4 hp4 (by rw [lf_E_f _ _ _ _ 2 (by decide)]; exact hff.2.2.1) (by rw [(lf_E_1 _ _ _ _).1]; rfl) (by rw [(lf_E_1 _ _ _ _).2]; rfl) (by rw [lf_E_f _ _ _ _ 1 (by decide)]; exact hff.2.1) (by rw [lf_E_f _ _ _ _ 9 (by decide)]; exact hff.1) (by omega) hc (Or.inl rfl) hsd4 (by omega) ⟨nI e2, t, vf8, vL8, ?_⟩ hf4
                    rw [map_ins (fun j hj => (htl2 j hj).1)]; exact hr4
                  · rw [← eR, rd_go, if_pos hpc]; dsimp only; rw [hrd, rd_2, if_neg hf0, hlf]
          · rw [if_neg hmay]
            refine q_istore hX 3 d_Re_readTree_53 rfl (by decide) ?_
            refine q_iload hX 3 d_Re_readTree_54 rfl (by first | rfl | assumption) ?_
            refine r_if_ne hX 63 d_Re_readTree_55 (by decide) (fun _ => ?_) (fun c55 => absurd c55 (by decide))
            refine q_iload hX 3 d_Re_readTree_63 rfl (by first | rfl | assumption) ?_
            refine r_if_ne hX 72 d_Re_readTree_64 (by decide) (fun _ => ?_) (fun c64 => absurd c64 (by decide))
            exact flt _ _ (-4) (S1, sf1, sd1, ms, p) _ _ (by decide) (by rw [← eR, rd_go, if_pos hpc]; dsimp only; rw [show rd_1 c g S1 sf1 sd1 ms p = .inl (-4) from by rw [rd_1, if_neg h16, if_neg (by rw [he1]; omega), htt, hm2, if_pos hmay]]) (by show sd1 ≤ 640; omega) ⟨_, hS2⟩ ⟨_, _, _, _, _, _, hr2⟩ hf2 l0 rfl rfl
  have hSn : sn S ≤ 60 := by have h1 := hS.2.2.2.1; have h2 := hS.2.2.2.2.1; omega
  refine q_aload hX 0 d_Re_readTree_0 rfl (by first | rfl | assumption) ?_
  refine r_getf hX d_Re_readTree_1 fl_Re_19 hre rfl ?_
  refine r_callV (as := []) hX d_Re_readTree_4 lk_Re_23 hS.1.1 rfl rfl (Nat.le_of_ble_eq_true rfl) (by decide) 122 2013 (by omega) (by omega) (c_Tr_empty (G := G) hS.1 hSn hsd) (fun v w1 hq => ?_)
  obtain ⟨rfl, q1, q2⟩ := hq
  refine q_aload hX 0 d_Re_readTree_7 rfl (by first | rfl | assumption) ?_
  refine r_iconst (v := -1) hX d_Re_readTree_8 (by decide) ?_
  refine r_putf hX d_Re_readTree_9 fp_Re_9 ((q2.2 112 (by decide)).trans hre) (by first | assumption | decide | omega) rfl rfl (Nat.le_of_ble_eq_true rfl) ?_
  refine q_aload hX 0 d_Re_readTree_12 rfl (by first | rfl | assumption) ?_
  refine r_null hX d_Re_readTree_13 ?_
  refine r_putf hX d_Re_readTree_14 fp_Re_28 (ev_set_self _ _ _) (by first | assumption | decide | omega) rfl rfl (Nat.le_of_ble_eq_true rfl) ?_
  refine q_aload hX 0 d_Re_readTree_17 rfl (by first | rfl | assumption) ?_
  refine r_iconst (v := 0) hX d_Re_readTree_18 (by decide) ?_
  refine r_putf hX d_Re_readTree_19 fp_Re_32 (ev_set_self _ _ _) (by first | assumption | decide | omega) rfl rfl (Nat.le_of_ble_eq_true rfl) ?_
  refine r_iconst (v := 0) hX d_Re_readTree_22 (by decide) ?_
  refine q_istore hX 1 d_Re_readTree_23 rfl (by decide) ?_
  have hr4 : (ev_set (ev_set (ev_set w1 112 (.inr (5, [.ref 101, .ref 108, .int (-1), va_rf ms, .int pl, .int en, .int tg, .int vf, .int vL]))) 112 (.inr (5, [.ref 101, .ref 108, .int (-1), .null, .int pl, .int en, .int tg, .int vf, .int vL]))) 112 (.inr (5, [.ref 101, .ref 108, .int (-1), .null, .int 0, .int en, .int tg, .int vf, .int vL]))).2 112 = _ := ev_set_self _ _ _
  have hs4 : ev_sm w1 (ev_set (ev_set (ev_set w1 112 (.inr (5, [.ref 101, .ref 108, .int (-1), va_rf ms, .int pl, .int en, .int tg, .int vf, .int vL]))) 112 (.inr (5, [.ref 101, .ref 108, .int (-1), .null, .int pl, .int en, .int tg, .int vf, .int vL]))) 112 (.inr (5, [.ref 101, .ref 108, .int (-1), .null, .int 0, .int en, .int tg, .int vf, .int vL]))) [112] := ((ev_sm.s1 (by simp)).set (by simp)).set (by simp)
  refine loop 61 0 (rd_S0 S, sf, 0, none, 0) _ _ rfl ⟨?_, ?_, ?_, is_tl.n, Nat.le_refl _, Nat.zero_le _, ⟨en, tg, vf, vL, hr4⟩, ?_⟩ rfl rfl rfl
  · refine is_S.sm (w := w1) ?_ hs4 (by simp)
    obtain ⟨a1, a2, a3, a4, a5, a6, a7, a8⟩ := hS
    exact ⟨q1, a2.same (fun q hq => q2.2 q (by simp; omega)), fun i hi => absurd hi (Nat.not_lt_zero _), Nat.zero_le _, a5, a6, by rw [q2.1]; exact a7, a8⟩
  · intro j hj; exact absurd hj (Nat.not_lt_zero _)
  · intro j hj; exact absurd hj (Nat.not_lt_zero _)
  · exact rd_fr.sm (w1 := w1) (rd_fr.sm (w1 := w) (fun _ _ _ => rfl) q2 (by simp)) hs4 (by simp)
theorem c_EF_read {G : Ev_G} {w : Ev_W} (he : is_EF w) {c : Nat} {f : Nat → Int32} (hin : is_Ro w 101 102 640 c f) {g : Nat → Nat} (hg : rd_g c f g) {S : Ev_S} {As : Nat → Option Nat} {sf : Nat → Int32} {sd : Nat} (hS : is_S w S As sf sd) (hsd : sd ≤ 1200) {fp pl en tg vf vL : Int32} {ms : Option Nat} (hre : is_Re w fp ms pl en tg vf vL) : ev_Met G M_EF_read 6 122 2013 [.ref 100] w (fun v w' => rd_post w w' As c g (rd_go c g 61 (rd_S0 S, sf, 0, none, 0)) v) := by
  refine ev_Met.of md_EF_read (Nat.le_of_ble_eq_true rfl) (fun X hX hR => ?_)
  refine q_aload hX 0 d_EF_read_0 rfl (by first | rfl | assumption) ?_
  refine r_getf hX d_EF_read_1 fl_EF_40 he rfl ?_
  refine r_callV (as := []) hX d_EF_read_4 lk_EF_77 hre rfl rfl (Nat.le_of_ble_eq_true rfl) (by decide) 0 0 (by omega) (by omega) (c_Re_readTree (G := G) hin hg hS hsd hre) (fun v w2 hq => ?_)
  have hq : rd_post _ _ _ _ _ _ _ := hq
  have hv : ∃ x : Int32, v = some (.int x) := by
    unfold rd_post at hq
    split at hq
    · exact ⟨_, hq.1⟩
    · exact ⟨_, hq.1⟩
  obtain ⟨x, rfl⟩ := hv
  refine r_iret hX hR d_EF_read_7 rfl (by first | rfl | assumption) ?_
  exact hq
