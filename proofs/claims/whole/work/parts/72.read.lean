/-! ===== the reference: read ===== -/
/-- what a reading keeps of the rest -/
def rx_keep (I I' : Nat → Int32) (A A' : Ev_A) : Prop := i_but I I' [0, 1, 6, 7, 8, 9, 10] ∧ ∀ q, q ∉ rw_l → q ≠ 134 → q ≠ 135 → q ≠ 136 → A'.1 q = A.1 q
theorem rx_keep.of {I I1 I2 : Nat → Int32} {A A1 A2 : Ev_A} (h : rx_keep I I1 A A1) (k : r_keep I1 I2 A1 A2) : rx_keep I I2 A A2 := ⟨fun J hJ => (k.1 J (fun z => hJ (by simp at z ⊢; omega))).trans (h.1 J hJ), fun q h1 h2 h3 h4 => (k.2 q h1 h2 h3 h4).trans (h.2 q h1 h2 h3 h4)⟩
def rx_post (w : Ev_W) (I : Nat → Int32) (A : Ev_A) (R : Option Int32 × Ev_RS) (v : Option Value) (w' : Ev_W) : Prop := ∃ I' v' A', is_M w' I' v' A' ∧ mo_sm w w' ∧ rx_keep I I' A A' ∧ match R with
  | (some x, T) => v = some (.int x) ∧ I' 0 = 0 ∧ I' 1 = nI T.2.2.1 ∧ T.2.2.1 ≤ 1200 ∧ I' 6 = nI T.2.2.2.2 ∧ ∀ y, y < T.2.2.1 → A'.1 129 y = T.2.1 y
  | (none, T) => v = some (.int (nI (sn T.1))) ∧ I' 6 = -1 ∧ ∃ D', mdl I' A' T.1 D' T.2.1 T.2.2.1
set_option maxHeartbeats 1000000 in
theorem c_Mo_read {G : Ev_G} {w : Ev_W} {I : Nat → Int32} {v0 : Int64} {A : Ev_A} (hM : is_M w I v0 A) {c : Nat} {g : Nat → Nat} (hin : I 4 = nI c) (hg : rd_g c (A.1 132) g) (S : Ev_S) (sf : Nat → Int32) : ev_Met G M_Mo_read 7 0 0 [.ref 117] w (rx_post w I A (rd_go c g 61 (rd_S0 S, sf, 0, none, 0))) := by
  refine ev_Met.of md_Mo_read (Nat.le_of_ble_eq_true rfl) (fun X hX hR => ?_)
  have hc := hg.1
  obtain ⟨w0, hw0⟩ : ∃ w0, w0 = w := ⟨_, rfl⟩
  have hs : mo_sm w0 w := by rw [hw0]; exact mo_sm.rf
  obtain ⟨T0, hT0⟩ : ∃ T0 : Ev_RS, T0 = (rd_S0 S, sf, 0, none, 0) := ⟨_, rfl⟩
  rw [← hT0] at hR
  have D : Nat → Ev_D := fun _ => (0, 0, fun _ => 0, 0)
  have loop : ∀ (f k : Nat) (T : Ev_RS) (o : Option Nat) (fu : Nat) (I1 : Nat → Int32) (v1 : Int64) (A1 : Ev_A) (D1 : Nat → Ev_D) (w1 : Ev_W) (ls : Ev_L), sn T.1 + f = 61 → rd_go c g f T = rd_go c g 61 T0 → pop1 (sE T.1) (si T.1) T.2.2.2.2 (fu + 1) o = pop1 (sE T.1) (si T.1) T.2.2.2.2 61 T.2.2.2.1 → k ≤ fu → is_M w1 I1 v1 A1 → mo_sm w0 w1 → rx_keep I I1 A A1 → mdl I1 A1 T.1 D1 T.2.1 T.2.2.1 → I1 4 = nI c → I1 6 = -1 → I1 7 = nI T.2.2.2.2 → I1 10 = nI k → k ≤ 2 → stk A1 (sE T.1) (si T.1) c k o → is_tl (sn T.1) (sE T.1) o → T.2.2.1 ≤ T.2.2.2.2 → T.2.2.2.2 ≤ rd_e1 (sE T.1) c o → ls.1 0 = some (.ref 117) → ev_W G M_Mo_read X 0 0 49 ls [] w1 := by
    intro f
    induction f with
    | zero =>
      intro k T o fu I1 v1 A1 D1 w ls e1 hgo hpop hkf hM hs hk hm h4 h6 hat hdp hk2 hst htl hsp hpe l0
      exact absurd hm.2.1 (by omega)
    | succ f ihf =>
      have go96 : ∀ (k : Nat) (T : Ev_RS) (o : Option Nat) (I1 : Nat → Int32) (v1 : Int64) (A1 : Ev_A) (D1 : Nat → Ev_D) (w1 : Ev_W) (ls : Ev_L), sn T.1 + (f + 1) = 61 → rd_go c g (f + 1) T = rd_go c g 61 T0 → o = pop1 (sE T.1) (si T.1) T.2.2.2.2 61 T.2.2.2.1 → T.2.2.2.2 < c → is_M w1 I1 v1 A1 → mo_sm w0 w1 → rx_keep I I1 A A1 → mdl I1 A1 T.1 D1 T.2.1 T.2.2.1 → I1 4 = nI c → I1 6 = -1 → I1 7 = nI T.2.2.2.2 → I1 10 = nI k → k ≤ 2 → stk A1 (sE T.1) (si T.1) c k o → is_tl (sn T.1) (sE T.1) o → T.2.2.1 ≤ T.2.2.2.2 → T.2.2.2.2 ≤ rd_e1 (sE T.1) c o → ls.1 0 = some (.ref 117) → ev_W G M_Mo_read X 0 0 96 ls [] w1 := by
        intro k T o I1 v1 A1 D1 w ls e1 hgo ho hpc hM hs hk hm h4 h6 hat hdp hk2 hst htl hsp hpe l0
        refine q_aload hX 0 d_Mo_read_96 rfl (by first | rfl | assumption) ?_
        refine r_getm (J := 7) (x := nI T.2.2.2.2) hX d_Mo_read_97 fl_Mo_115 hM hat rfl ?_
        refine q_istore hX 1 d_Mo_read_100 rfl (by decide) ?_
        refine q_aload hX 0 d_Mo_read_101 rfl (by first | rfl | assumption) ?_
        refine r_callV (as := []) hX d_Mo_read_102 lk_Mo_190 hM.1 rfl rfl (Nat.le_of_ble_eq_true rfl) (by decide) 0 0 (Nat.le_refl _) (Nat.le_refl _) (c_Mo_readElement (G := G) hM hm (c := c) (g := g) (by rw [hk.2 132 (by decide) (by decide) (by decide) (by decide)]; exact hg) (ms := T.2.2.2.1) hat hpc hdp hk2 hst ho htl hsp) (fun v w hq => ?_)
        cases hr : rd_1 c g T.1 T.2.1 T.2.2.1 T.2.2.2.1 T.2.2.2.2 with
        | inl x =>
          rw [hr] at hq
          obtain ⟨rfl, hx0, I2, v2, A2, hM, hs2, hk2', h1, h29⟩ := hq
          have hs := hs.tr hs2
          have hRR : rd_go c g 61 T0 = (some x, T) := by rw [← hgo, rd_go, if_pos hpc, hr]
          refine q_istore hX 2 d_Mo_read_105 rfl (by decide) ?_
          refine q_iload hX 2 d_Mo_read_106 rfl (by first | rfl | assumption) ?_
          refine r_if_eq hX 122 d_Mo_read_107 (by decide) (fun c107 => absurd c107 hx0) (fun _ => ?_)
          refine q_aload hX 0 d_Mo_read_110 rfl (by first | rfl | assumption) ?_
          refine r_iconst (v := 0) hX d_Mo_read_111 (by decide) ?_
          refine r_putm (J := 0) hX d_Mo_read_112 fp_Mo_86 hM hs rfl rfl (Nat.le_of_ble_eq_true rfl) rfl (fun w hM hs => ?_)
          refine q_aload hX 0 d_Mo_read_115 rfl (by first | rfl | assumption) ?_
          refine q_iload hX 1 d_Mo_read_116 rfl (by first | rfl | assumption) ?_
          refine r_putm (J := 6) hX d_Mo_read_117 fp_Mo_60 hM hs rfl rfl (Nat.le_of_ble_eq_true rfl) rfl (fun w hM hs => ?_)
          refine q_iload hX 2 d_Mo_read_120 rfl (by first | rfl | assumption) ?_
          refine r_iret hX hR d_Mo_read_121 rfl (by first | rfl | assumption) ?_
          refine ⟨_, _, _, hM, hw0 ▸ hs, ⟨?_, (hk.of hk2').2⟩, ?_⟩
          · exact fun J hJ => by
              have hJ2 := hJ
              simp only [List.mem_cons, List.not_mem_nil, or_false, not_or] at hJ2
              show upd (upd I2 0 _) 6 _ J = _
              unfold upd
              rw [if_neg hJ2.2.2.1, if_neg hJ2.1]
              exact (hk.of hk2').1 J hJ
          · rw [hRR]
            exact ⟨rfl, rfl, h1.trans hm.2.2.1, hm.2.2.2.1, rfl, fun y hy => (h29 y hy).trans (hm.2.2.2.2.2.2.2 y hy)⟩
        | inr T2 =>
          rw [hr] at hq
          obtain ⟨rfl, I2, v2, A2, D2, k3, hM, hs2, hk2', hm3, h73, h103, hk23, hst3, htl3, hsp3, hpe3, hn3⟩ := hq
          have hs := hs.tr hs2
          refine q_istore hX 2 d_Mo_read_105 rfl (by decide) ?_
          refine q_iload hX 2 d_Mo_read_106 rfl (by first | rfl | assumption) ?_
          refine r_if_eq hX 122 d_Mo_read_107 (by decide) (fun _ => ?_) (fun c107 => absurd rfl c107)
          refine r_goto hX 49 d_Mo_read_122 (by decide) ?_
          exact ihf k3 T2 T2.2.2.2.1 60 _ _ _ _ w _ (by omega) (by rw [← hgo, rd_go, if_pos hpc, hr]) rfl (by omega) hM hs (hk.of hk2') hm3 ((hk2'.1 4 (by decide)).trans h4) ((hk2'.1 6 (by decide)).trans h6) h73 h103 hk23 hst3 htl3 hsp3 hpe3 l0
      intro k
      induction k with
      | zero =>
        intro T o fu I1 v1 A1 D1 w ls e1 hgo hpop hkf hM hs hk hm h4 h6 hat hdp hk2 hst htl hsp hpe l0
        obtain ⟨rfl, s1, s2, s3⟩ := id hst
        have hpe : T.2.2.2.2 ≤ c := hpe
        refine q_aload hX 0 d_Mo_read_49 rfl (by first | rfl | assumption) ?_
        refine r_getm (J := 10) (x := nI 0) hX d_Mo_read_50 fl_Mo_132 hM hdp rfl ?_
        refine r_if_gt hX 67 d_Mo_read_53 (by decide) (fun c53 => absurd c53 (by decide)) (fun _ => ?_)
        refine q_aload hX 0 d_Mo_read_56 rfl (by first | rfl | assumption) ?_
        refine r_getm (J := 7) (x := nI T.2.2.2.2) hX d_Mo_read_57 fl_Mo_115 hM hat rfl ?_
        refine q_aload hX 0 d_Mo_read_60 rfl (by first | rfl | assumption) ?_
        refine r_getm (J := 4) (x := nI c) hX d_Mo_read_61 fl_Mo_107 hM h4 rfl ?_
        refine r_icmp_ge hX 125 d_Mo_read_64 (by decide) (fun c64 => ?_) (fun c64 => ?_)
        · refine q_aload hX 0 d_Mo_read_125 rfl (by first | rfl | assumption) ?_
          refine r_getm (J := 0) (x := nI (sn T.1)) hX d_Mo_read_126 fl_Mo_86 hM hm.1 rfl ?_
          refine r_iret hX hR d_Mo_read_129 rfl (by first | rfl | assumption) ?_
          have hnc : ¬ T.2.2.2.2 < c := fun z => absurd ((nI_leI (by omega) (by omega)).mp c64) (by omega)
          have hR : rd_go c g 61 T0 = (none, T) := by rw [← hgo, rd_go, if_neg hnc]
          refine ⟨_, _, _, hM, hw0 ▸ hs, hk, ?_⟩
          rw [hR]
          exact ⟨rfl, h6, D1, hm⟩
        · have hpc : T.2.2.2.2 < c := Nat.lt_of_not_le (fun z => c64 (nI_le z (by omega)))
          refine q_aload hX 0 d_Mo_read_67 rfl (by first | rfl | assumption) ?_
          refine r_getm (J := 7) (x := nI T.2.2.2.2) hX d_Mo_read_68 fl_Mo_115 hM hat rfl ?_
          refine q_aload hX 0 d_Mo_read_71 rfl (by first | rfl | assumption) ?_
          refine r_getf hX d_Mo_read_72 fl_Mo_67 hM.1 rfl ?_
          refine q_aload hX 0 d_Mo_read_75 rfl (by first | rfl | assumption) ?_
          refine r_getm (J := 10) (x := nI 0) hX d_Mo_read_76 fl_Mo_132 hM hdp rfl ?_
          refine r_ialdm (c := 135) (x := nI c) hX d_Mo_read_79 hM rfl rfl (by omega) s2 ?_
          refine r_icmp_ne hX 96 d_Mo_read_80 (by decide) (fun _ => ?_) (fun c80 => absurd ((nI_eq (by omega) (by omega)).mp c80) (by omega))
          exact go96 0 T none I1 v1 A1 D1 w _ e1 hgo hpop hpc hM hs hk hm h4 h6 hat hdp hk2 hst htl hsp hpe l0
      | succ k ihk =>
        intro T o fu I1 v1 A1 D1 w ls e1 hgo hpop hkf hM hs hk hm h4 h6 hat hdp hk2 hst htl hsp hpe l0
        obtain ⟨j, rfl, s1, s2, s3, s4, s5, s6, s7⟩ := id hst
        obtain ⟨fu, rfl⟩ : ∃ f', fu = f' + 1 := ⟨fu - 1, by omega⟩
        have hpe : T.2.2.2.2 ≤ rd_en (sE T.1) j := hpe
        by_cases hz : T.2.2.2.2 = rd_en (sE T.1) j
        · refine q_aload hX 0 d_Mo_read_49 rfl (by first | rfl | assumption) ?_
          refine r_getm (J := 10) (x := nI (k + 1)) hX d_Mo_read_50 fl_Mo_132 hM hdp rfl ?_
          refine r_if_gt hX 67 d_Mo_read_53 (by decide) (fun _ => ?_) (fun c53 => absurd (nI_lt (a := 0) (by omega) (by omega)) c53)
          refine q_aload hX 0 d_Mo_read_67 rfl (by first | rfl | assumption) ?_
          refine r_getm (J := 7) (x := nI T.2.2.2.2) hX d_Mo_read_68 fl_Mo_115 hM hat rfl ?_
          refine q_aload hX 0 d_Mo_read_71 rfl (by first | rfl | assumption) ?_
          refine r_getf hX d_Mo_read_72 fl_Mo_67 hM.1 rfl ?_
          refine q_aload hX 0 d_Mo_read_75 rfl (by first | rfl | assumption) ?_
          refine r_getm (J := 10) (x := nI (k + 1)) hX d_Mo_read_76 fl_Mo_132 hM hdp rfl ?_
          refine r_ialdm (c := 135) (x := nI (rd_en (sE T.1) j)) hX d_Mo_read_79 hM rfl rfl (by omega) s2 ?_
          refine r_icmp_ne hX 96 d_Mo_read_80 (by decide) (fun c80 => absurd (by rw [hz]) c80) (fun _ => ?_)
          refine q_aload hX 0 d_Mo_read_83 rfl (by first | rfl | assumption) ?_
          refine r_dup hX d_Mo_read_84 rfl ?_
          refine r_getm (J := 10) (x := nI (k + 1)) hX d_Mo_read_85 fl_Mo_132 hM hdp rfl ?_
          refine r_iconst (v := 1) hX d_Mo_read_88 (by decide) ?_
          refine r_isub hX d_Mo_read_89 ?_
          rw [nI_pred]
          refine r_putm (J := 10) hX d_Mo_read_90 fp_Mo_132 hM hs rfl rfl (Nat.le_of_ble_eq_true rfl) rfl (fun w hM hs => ?_)
          refine r_goto hX 49 d_Mo_read_93 (by decide) ?_
          exact ihk T (si T.1 j) fu _ _ _ D1 w _ e1 hgo (by rw [← hpop, pop1, if_pos (by omega)]) (by omega) hM hs ⟨hk.1.u (by simp), hk.2⟩ hm h4 h6 hat rfl (by omega) s7 (htl.up hm.2.2.2.2.1) hsp (by omega) l0
        · refine q_aload hX 0 d_Mo_read_49 rfl (by first | rfl | assumption) ?_
          refine r_getm (J := 10) (x := nI (k + 1)) hX d_Mo_read_50 fl_Mo_132 hM hdp rfl ?_
          refine r_if_gt hX 67 d_Mo_read_53 (by decide) (fun _ => ?_) (fun c53 => absurd (nI_lt (a := 0) (by omega) (by omega)) c53)
          refine q_aload hX 0 d_Mo_read_67 rfl (by first | rfl | assumption) ?_
          refine r_getm (J := 7) (x := nI T.2.2.2.2) hX d_Mo_read_68 fl_Mo_115 hM hat rfl ?_
          refine q_aload hX 0 d_Mo_read_71 rfl (by first | rfl | assumption) ?_
          refine r_getf hX d_Mo_read_72 fl_Mo_67 hM.1 rfl ?_
          refine q_aload hX 0 d_Mo_read_75 rfl (by first | rfl | assumption) ?_
          refine r_getm (J := 10) (x := nI (k + 1)) hX d_Mo_read_76 fl_Mo_132 hM hdp rfl ?_
          refine r_ialdm (c := 135) (x := nI (rd_en (sE T.1) j)) hX d_Mo_read_79 hM rfl rfl (by omega) s2 ?_
          refine r_icmp_ne hX 96 d_Mo_read_80 (by decide) (fun _ => ?_) (fun c80 => absurd ((nI_eq (by omega) (by omega)).mp c80) hz)
          exact go96 (k + 1) T (some j) I1 v1 A1 D1 w _ e1 hgo (by rw [← hpop, pop1, if_neg (by omega)]) (by omega) hM hs hk hm h4 h6 hat hdp hk2 hst htl hsp hpe l0
  refine q_aload hX 0 d_Mo_read_0 rfl (by first | rfl | assumption) ?_
  refine r_iconst (v := 0) hX d_Mo_read_1 (by decide) ?_
  refine r_putm (J := 0) hX d_Mo_read_2 fp_Mo_86 hM hs rfl rfl (Nat.le_of_ble_eq_true rfl) rfl (fun w hM hs => ?_)
  refine q_aload hX 0 d_Mo_read_5 rfl (by first | rfl | assumption) ?_
  refine r_iconst (v := 0) hX d_Mo_read_6 (by decide) ?_
  refine r_putm (J := 1) hX d_Mo_read_7 fp_Mo_104 hM hs rfl rfl (Nat.le_of_ble_eq_true rfl) rfl (fun w hM hs => ?_)
  refine q_aload hX 0 d_Mo_read_10 rfl (by first | rfl | assumption) ?_
  refine r_iconst (v := 0) hX d_Mo_read_11 (by decide) ?_
  refine r_putm (J := 7) hX d_Mo_read_12 fp_Mo_115 hM hs rfl rfl (Nat.le_of_ble_eq_true rfl) rfl (fun w hM hs => ?_)
  refine q_aload hX 0 d_Mo_read_15 rfl (by first | rfl | assumption) ?_
  refine r_iconst (v := 0) hX d_Mo_read_16 (by decide) ?_
  refine r_putm (J := 10) hX d_Mo_read_17 fp_Mo_132 hM hs rfl rfl (Nat.le_of_ble_eq_true rfl) rfl (fun w hM hs => ?_)
  refine q_aload hX 0 d_Mo_read_20 rfl (by first | rfl | assumption) ?_
  refine r_iconst (v := -1) hX d_Mo_read_21 (by decide) ?_
  refine r_putm (J := 6) hX d_Mo_read_22 fp_Mo_60 hM hs rfl rfl (Nat.le_of_ble_eq_true rfl) rfl (fun w hM hs => ?_)
  refine q_aload hX 0 d_Mo_read_25 rfl (by first | rfl | assumption) ?_
  refine r_getf hX d_Mo_read_26 fl_Mo_64 hM.1 rfl ?_
  refine r_iconst (v := 0) hX d_Mo_read_29 (by decide) ?_
  refine r_iconst (v := -1) hX d_Mo_read_30 (by decide) ?_
  refine r_iastm (c := 134) hX d_Mo_read_31 hM hs rfl (j := 0) rfl (by decide) (fun w hM hs => ?_)
  refine q_aload hX 0 d_Mo_read_32 rfl (by first | rfl | assumption) ?_
  refine r_getf hX d_Mo_read_33 fl_Mo_67 hM.1 rfl ?_
  refine r_iconst (v := 0) hX d_Mo_read_36 (by decide) ?_
  refine q_aload hX 0 d_Mo_read_37 rfl (by first | rfl | assumption) ?_
  refine r_getm (J := 4) (x := nI c) hX d_Mo_read_38 fl_Mo_107 hM hin rfl ?_
  refine r_iastm (c := 135) hX d_Mo_read_41 hM hs rfl (j := 0) rfl (by decide) (fun w hM hs => ?_)
  refine q_aload hX 0 d_Mo_read_42 rfl (by first | rfl | assumption) ?_
  refine r_getf hX d_Mo_read_43 fl_Mo_70 hM.1 rfl ?_
  refine r_iconst (v := 0) hX d_Mo_read_46 (by decide) ?_
  refine r_iconst (v := 0) hX d_Mo_read_47 (by decide) ?_
  refine r_zastm (c := 136) hX d_Mo_read_48 hM hs rfl (j := 0) rfl (by decide) (Or.inl rfl) (fun w hM hs => ?_)
  refine loop 61 0 T0 none 60 _ _ _ D w _ (by rw [hT0]; rfl) rfl (by rw [hT0]) (by omega) hM hs ⟨?_, fun q h1 h2 h3 h4 => ?_⟩ ?_ hin rfl (by rw [hT0]; rfl) rfl (by omega) ?_ (by rw [hT0]; exact is_tl.n) (by rw [hT0]; exact Nat.le_refl _) (by rw [hT0]; exact Nat.zero_le _) rfl
  · exact ((((i_but.rf.u (by simp)).u (by simp)).u (by simp)).u (by simp)).u (by simp)
  · rw [aset_ne _ _ _ h4, aset_ne _ _ _ h3, aset_ne _ _ _ h2]
  · rw [hT0]
    exact ⟨rfl, Nat.zero_le _, rfl, Nat.zero_le _, fun i hi => absurd hi (Nat.not_lt_zero _), fun i hi => absurd hi (Nat.not_lt_zero _), fun i hi => absurd hi (Nat.not_lt_zero _), fun i hi => absurd hi (Nat.not_lt_zero _)⟩
  · rw [hT0]
    exact ⟨rfl, by simp [aset, upd], by simp [aset, upd], by simp [aset, upd]⟩
