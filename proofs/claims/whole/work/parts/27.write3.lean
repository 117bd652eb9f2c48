/-! ===== Writer: an element's data ===== -/
def lf_ok (E : Ev_E) (pf : Nat → Int32) (am ss : Nat) (sz : Nat → Nat) : Prop := E.1 < 17 ∧ (so_fm E.1 = 2 ∨ so_fm E.1 = 3 ∨ so_fm E.1 = 5 → E.2.2.1 = lN am ∧ am ≤ 700) ∧ (so_fm E.1 = 2 ∨ so_fm E.1 = 3 → am ≤ 16) ∧ (so_fm E.1 = 3 → 1 ≤ am ∧ ∀ i, i < am → pf i = nI (sz i) ∧ sz i ≤ 700) ∧ (so_fm E.1 = 3 ∨ so_fm E.1 = 6 → E.2.2.2 4 = nI ss ∧ ss ≤ 1200)
def lf_L (sf : Nat → Int32) (sd : Nat) (E : Ev_E) (pf : Nat → Int32) (am ss : Nat) (sz : Nat → Nat) : List Int32 :=
  if so_fm E.1 = 1 then nm_L E.2.2.1 (wr_fb E.2.2.1 7 1) else if so_fm E.1 = 2 then pt_L am pf am 0 else if so_fm E.1 = 3 then (bh_L E ++ ps_L (E.2.2.2 8) sz (am - 1) 0) ++ st_L sf sd (E.2.2.2 3) ss 0 else if so_fm E.1 = 4 then nm_L 0 4 else if so_fm E.1 = 5 then List.replicate am 0 else if so_fm E.1 = 6 then st_L sf sd (E.2.2.2 3) ss 0 else []
theorem lf_len {sf : Nat → Int32} {sd : Nat} {E : Ev_E} {pf : Nat → Int32} {am ss : Nat} {sz : Nat → Nat} (h : lf_ok E pf am ss sz) : (lf_L sf sd E pf am ss sz).length ≤ 1400 := by
  obtain ⟨h1, h2, h3, h4, h5⟩ := h
  have b1 := wr_fb_le E.2.2.1 7 1
  have b2 := bh_len E
  have b3 := ps_len (E.2.2.2 8) sz (am - 1) 0
  unfold lf_L
  split
  · rw [nm_len]; omega
  · split
    · rename_i z; rw [pt_len]; have := h3 (Or.inl z); omega
    · split
      · rename_i z; rw [List.length_append, List.length_append, st_len]; have := h3 (Or.inr z); have := (h5 (Or.inl z)).2; omega
      · split
        · rw [nm_len]; omega
        · split
          · rename_i z; rw [List.length_replicate]; have := (h2 (Or.inr (Or.inr z))).2; omega
          · split
            · rename_i z; rw [st_len]; have := (h5 (Or.inr z)).2; omega
            · exact Nat.zero_le _
theorem c_Wr_putLeaf {G : Ev_G} {w : Ev_W} (hwr : is_Wr w) {N sd : Nat} {L As : Nat → Option Nat} {sf : Nat → Int32} (htr : is_Tr w N L As sf sd) (hN : N ≤ 60) (hsd : sd ≤ 1200) {a b n c : Nat} {f : Nat → Int32} (h : is_Ro w a b n c f) (hab : (a = 103 ∧ b = 104) ∨ (a = 114 ∧ b = 115)) (hn : n < 2 ^ 31) (hc : c < 2 ^ 28) {e : Nat} {E : Ev_E} (hE : w.2 e = some (el_C e E)) (he : 139 ≤ e) {pf : Nat → Int32} (hp : w.2 (e + 1) = some (.inl (0, 16, .inl pf))) {am ss : Nat} {sz : Nat → Nat} (hlf : lf_ok E pf am ss sz) : ev_Met G M_Wr_putLeaf 4 0 0 [.ref 113, .ref e, .ref a] w (fun v w' => v = none ∧ ro_more w w' a b n c f (lf_L sf sd E pf am ss sz)) := by
  refine ev_Met.of md_Wr_putLeaf (Nat.le_of_ble_eq_true rfl) (fun X hX hR => ?_)
  obtain ⟨k1, k2, k3, k4, k5⟩ := hlf
  refine q_aload hX 1 d_Wr_putLeaf_0 rfl (by first | rfl | assumption) ?_
  refine r_getf hX d_Wr_putLeaf_1 fl_Wr_69 hE rfl ?_
  refine r_getE hX d_Wr_putLeaf_4 k1 (q := ev_fl[1]) (by decide) m_877 ?_
  rw [show ev_fl[1].2.2.2.getD E.1 0 = so_fm E.1 from rfl]
  rcases so_fm_c E.1 k1 with hf | hf | hf | hf | hf | hf | hf
  · rw [hf]
    refine r_tableOut hX 115 d_Wr_putLeaf_7 (by decide) (by decide) ?_
    refine r_vret hX hR d_Wr_putLeaf_115 rfl ?_
    exact ⟨rfl, (ro_more.rf h).un (by rw [lf_L, if_neg (by rw [hf]; decide), if_neg (by rw [hf]; decide), if_neg (by rw [hf]; decide), if_neg (by rw [hf]; decide), if_neg (by rw [hf]; decide), if_neg (by rw [hf]; decide)])⟩
  · rw [hf]
    refine r_tableIn hX 44 d_Wr_putLeaf_7 (by decide) (by decide) rfl (by decide) ?_
    refine q_aload hX 2 d_Wr_putLeaf_44 rfl (by first | rfl | assumption) ?_
    refine q_aload hX 1 d_Wr_putLeaf_45 rfl (by first | rfl | assumption) ?_
    refine r_getf hX d_Wr_putLeaf_46 fl_Wr_104 hE rfl ?_
    refine q_aload hX 1 d_Wr_putLeaf_49 rfl (by first | rfl | assumption) ?_
    refine r_getf hX d_Wr_putLeaf_50 fl_Wr_104 hE rfl ?_
    refine r_callS (as := [_]) hX d_Wr_putLeaf_53 lk_Wr_58 rfl (Nat.le_of_ble_eq_true rfl) (by decide) 0 0 (Nat.le_refl _) (Nat.le_refl _) (c_Wr_fewestBytes (G := G) _) (fun v w1 hq => ?_)
    obtain ⟨rfl, hw⟩ := hq
    rw [hw]
    refine r_callV (as := [_, _]) hX d_Wr_putLeaf_56 lk_Wr_88 h.1 rfl rfl (Nat.le_of_ble_eq_true rfl) (by decide) 0 0 (Nat.le_refl _) (Nat.le_refl _) (c_Ro_numL (G := G) h (by omega) (by omega) hn _ _ (by have := wr_fb_le E.2.2.1 7 1; omega)) (fun v w1 hq => ?_)
    obtain ⟨rfl, q1⟩ := hq
    refine r_goto hX 115 d_Wr_putLeaf_59 (by decide) ?_
    refine r_vret hX hR d_Wr_putLeaf_115 rfl ?_
    exact ⟨rfl, q1.un (by rw [lf_L, if_pos hf])⟩
  · rw [hf]
    refine r_tableIn hX 62 d_Wr_putLeaf_7 (by decide) (by decide) rfl (by decide) ?_
    refine q_aload hX 1 d_Wr_putLeaf_62 rfl (by first | rfl | assumption) ?_
    refine q_aload hX 2 d_Wr_putLeaf_63 rfl (by first | rfl | assumption) ?_
    obtain ⟨hma, hm7⟩ := k2 (Or.inl hf)
    refine r_callS (as := [_, _]) hX d_Wr_putLeaf_64 lk_Wr_108 rfl (Nat.le_of_ble_eq_true rfl) (by decide) 0 0 (Nat.le_refl _) (Nat.le_refl _) (c_Wr_putText (G := G) h (by omega) (by omega) hn hE (by omega) (by omega) hp (by omega) (by omega) hma (k3 (Or.inl hf)) (by omega)) (fun v w1 hq => ?_)
    obtain ⟨rfl, q1⟩ := hq
    refine r_goto hX 115 d_Wr_putLeaf_67 (by decide) ?_
    refine r_vret hX hR d_Wr_putLeaf_115 rfl ?_
    exact ⟨rfl, q1.un (by rw [lf_L, if_neg (by rw [hf]; decide), if_pos hf])⟩
  · rw [hf]
    refine r_tableIn hX 70 d_Wr_putLeaf_7 (by decide) (by decide) rfl (by decide) ?_
    refine q_aload hX 1 d_Wr_putLeaf_70 rfl (by first | rfl | assumption) ?_
    refine q_aload hX 2 d_Wr_putLeaf_71 rfl (by first | rfl | assumption) ?_
    obtain ⟨hma, hm7⟩ := k2 (Or.inr (Or.inl hf))
    obtain ⟨hm1, hsz⟩ := k4 hf
    obtain ⟨hss, hs2⟩ := k5 (Or.inl hf)
    have hm16 := k3 (Or.inr hf)
    refine r_callS (as := [_, _]) hX d_Wr_putLeaf_72 lk_Wr_111 rfl (Nat.le_of_ble_eq_true rfl) (by decide) 0 0 (Nat.le_refl _) (Nat.le_refl _) (c_Wr_putBlockHead (G := G) h hab hn (by omega) hE he) (fun v w1 hq => ?_)
    obtain ⟨rfl, q1⟩ := hq
    have hb1 := bh_len E
    refine q_aload hX 1 d_Wr_putLeaf_75 rfl (by first | rfl | assumption) ?_
    refine q_aload hX 2 d_Wr_putLeaf_76 rfl (by first | rfl | assumption) ?_
    refine r_callS (as := [_, _]) hX d_Wr_putLeaf_77 lk_Wr_114 rfl (Nat.le_of_ble_eq_true rfl) (by decide) 0 0 (Nat.le_refl _) (Nat.le_refl _) (c_Wr_putSizes (G := G) q1.1 hab hn (by omega) (q1.el hE (by omega)) he (q1.el hp (by omega)) hma hm16 hm1 hsz) (fun v w2 hq => ?_)
    obtain ⟨rfl, q2⟩ := hq
    have hb2 := ps_len (E.2.2.2 8) sz (am - 1) 0
    have q3 := q1.tr q2
    have q3c := q3.1
    rw [List.length_append] at q3c
    refine q_aload hX 0 d_Wr_putLeaf_80 rfl (by first | rfl | assumption) ?_
    refine q_aload hX 1 d_Wr_putLeaf_81 rfl (by first | rfl | assumption) ?_
    refine q_aload hX 2 d_Wr_putLeaf_82 rfl (by first | rfl | assumption) ?_
    refine r_callV (as := [_, _]) hX d_Wr_putLeaf_83 lk_Wr_117 (q3.el hwr (by omega)) rfl rfl (Nat.le_of_ble_eq_true rfl) (by decide) 0 0 (Nat.le_refl _) (Nat.le_refl _) (c_Wr_putStored (G := G) (q3.el hwr (by omega)) ⟨q3.el htr.1 (by omega), q3.el htr.2.1 (by omega), q3.el htr.2.2.1 (by omega), q3.el htr.2.2.2 (by omega)⟩ hN hsd q3c hab hn (by omega) (q3.el hE (by omega)) he hss hs2) (fun v w3 hq => ?_)
    obtain ⟨rfl, q4⟩ := hq
    refine r_goto hX 115 d_Wr_putLeaf_86 (by decide) ?_
    refine r_vret hX hR d_Wr_putLeaf_115 rfl ?_
    have q4c : ro_more w2 w3 a b n (c + (bh_L E ++ ps_L (E.2.2.2 8) sz (am - 1) 0).length) (ro_bs n (bh_L E ++ ps_L (E.2.2.2 8) sz (am - 1) 0) f c) (st_L sf sd (E.2.2.2 3) ss 0) := by rw [List.length_append]; exact q4
    exact ⟨rfl, (q3.tr q4c).un (by rw [lf_L, if_neg (by rw [hf]; decide), if_neg (by rw [hf]; decide), if_pos hf])⟩
  · rw [hf]
    refine r_tableIn hX 89 d_Wr_putLeaf_7 (by decide) (by decide) rfl (by decide) ?_
    refine q_aload hX 2 d_Wr_putLeaf_89 rfl (by first | rfl | assumption) ?_
    refine r_lconst (v := 0) hX d_Wr_putLeaf_90 (by decide) ?_
    refine r_iconst (v := 4) hX d_Wr_putLeaf_91 (by decide) ?_
    refine r_callV (as := [_, _]) hX d_Wr_putLeaf_92 lk_Wr_88 h.1 rfl rfl (Nat.le_of_ble_eq_true rfl) (by decide) 0 0 (Nat.le_refl _) (Nat.le_refl _) (c_Ro_numL (G := G) h (by omega) (by omega) hn _ 4 (by omega)) (fun v w1 hq => ?_)
    obtain ⟨rfl, q1⟩ := hq
    refine r_goto hX 115 d_Wr_putLeaf_95 (by decide) ?_
    refine r_vret hX hR d_Wr_putLeaf_115 rfl ?_
    exact ⟨rfl, q1.un (by rw [lf_L, if_neg (by rw [hf]; decide), if_neg (by rw [hf]; decide), if_neg (by rw [hf]; decide), if_pos hf])⟩
  · rw [hf]
    refine r_tableIn hX 98 d_Wr_putLeaf_7 (by decide) (by decide) rfl (by decide) ?_
    refine q_aload hX 1 d_Wr_putLeaf_98 rfl (by first | rfl | assumption) ?_
    refine q_aload hX 2 d_Wr_putLeaf_99 rfl (by first | rfl | assumption) ?_
    obtain ⟨hma, hm7⟩ := k2 (Or.inr (Or.inr hf))
    refine r_callS (as := [_, _]) hX d_Wr_putLeaf_100 lk_Wr_120 rfl (Nat.le_of_ble_eq_true rfl) (by decide) 0 0 (Nat.le_refl _) (Nat.le_refl _) (c_Wr_putZeros (G := G) h (by omega) (by omega) hn hE (by omega) (by omega) hma (by omega) (by omega)) (fun v w1 hq => ?_)
    obtain ⟨rfl, q1⟩ := hq
    refine r_goto hX 115 d_Wr_putLeaf_103 (by decide) ?_
    refine r_vret hX hR d_Wr_putLeaf_115 rfl ?_
    exact ⟨rfl, q1.un (by rw [lf_L, if_neg (by rw [hf]; decide), if_neg (by rw [hf]; decide), if_neg (by rw [hf]; decide), if_neg (by rw [hf]; decide), if_pos hf])⟩
  · rw [hf]
    refine r_tableIn hX 106 d_Wr_putLeaf_7 (by decide) (by decide) rfl (by decide) ?_
    refine q_aload hX 0 d_Wr_putLeaf_106 rfl (by first | rfl | assumption) ?_
    refine q_aload hX 1 d_Wr_putLeaf_107 rfl (by first | rfl | assumption) ?_
    refine q_aload hX 2 d_Wr_putLeaf_108 rfl (by first | rfl | assumption) ?_
    obtain ⟨hss, hs2⟩ := k5 (Or.inr hf)
    refine r_callV (as := [_, _]) hX d_Wr_putLeaf_109 lk_Wr_117 hwr rfl rfl (Nat.le_of_ble_eq_true rfl) (by decide) 0 0 (Nat.le_refl _) (Nat.le_refl _) (c_Wr_putStored (G := G) hwr htr hN hsd h hab hn (by omega) hE he hss hs2) (fun v w1 hq => ?_)
    obtain ⟨rfl, q1⟩ := hq
    refine r_goto hX 115 d_Wr_putLeaf_112 (by decide) ?_
    refine r_vret hX hR d_Wr_putLeaf_115 rfl ?_
    exact ⟨rfl, q1.un (by rw [lf_L, if_neg (by rw [hf]; decide), if_neg (by rw [hf]; decide), if_neg (by rw [hf]; decide), if_neg (by rw [hf]; decide), if_neg (by rw [hf]; decide), if_pos hf])⟩
def hd_L (E : Ev_E) (live : Int32) : List Int32 := nm_L (E.2.2.2 0).toInt64 (wr_fb (E.2.2.2 0).toInt64 7 1) ++ (if wr_op E.1 live = true then [255] else vn_L (E.2.2.2 11).toInt64 (wr_sv (E.2.2.2 11).toInt64 7 1))
theorem hd_len (E : Ev_E) (live : Int32) : (hd_L E live).length ≤ 16 := by
  have b1 := wr_fb_le (E.2.2.2 0).toInt64 7 1
  have b2 := wr_sv_le (E.2.2.2 11).toInt64 7 1
  unfold hd_L
  rw [List.length_append, nm_len]
  split
  · simp; omega
  · rw [vn_len]; omega
def el_dp (E : Ev_E) (x : Int32) : Ev_E := (E.1, E.2.1, E.2.2.1, upd E.2.2.2 12 x)
theorem c_Wr_putHeader {G : Ev_G} {w : Ev_W} (hwr : is_Wr w) {n c : Nat} {f : Nat → Int32} (h : is_Ro w 103 104 n c f) (hn : n < 2 ^ 31) (hc : c < 2 ^ 29) {e : Nat} {E : Ev_E} (hE : w.2 e = some (el_C e E)) (he : 139 ≤ e) (h17 : E.1 < 17) (live : Int32) : ev_Met G M_Wr_putHeader 3 0 0 [.ref 113, .ref e, .int live] w (fun v w' => v = none ∧ is_Ro w' 103 104 n (c + (hd_L E live).length) (ro_bs n (hd_L E live) f c) ∧ w'.2 e = some (el_C e (el_dp E (nI (c + (hd_L E live).length)))) ∧ ev_sm w w' [103, 104, e]) := by
  refine ev_Met.of md_Wr_putHeader (Nat.le_of_ble_eq_true rfl) (fun X hX hR => ?_)
  have b1 := wr_fb_le (E.2.2.2 0).toInt64 7 1
  have b2 := wr_sv_le (E.2.2.2 11).toInt64 7 1
  have tail : ∀ (ls : Ev_L) (w3 : Ev_W), ro_more w w3 103 104 n c f (hd_L E live) → ls.1 0 = some (.ref 113) → ls.1 1 = some (.ref e) → ev_W G M_Wr_putHeader X 0 0 61 ls [] w3 := by
    intro ls w3 q3 l0 l1
    have hwr3 := q3.el hwr (by omega)
    have hE3 := q3.el hE (by omega)
    refine q_aload hX 1 d_Wr_putHeader_61 rfl (by first | rfl | assumption) ?_
    refine q_aload hX 0 d_Wr_putHeader_62 rfl (by first | rfl | assumption) ?_
    refine r_getf hX d_Wr_putHeader_63 fl_Wr_24 hwr3 rfl ?_
    refine r_getf hX d_Wr_putHeader_66 fl_Wr_33 q3.1.1 rfl ?_
    refine r_putf hX d_Wr_putHeader_69 fp_Wr_98 hE3 (by first | assumption | decide | omega) rfl rfl (Nat.le_of_ble_eq_true rfl) ?_
    refine r_vret hX hR d_Wr_putHeader_72 rfl ?_
    exact ⟨rfl, ⟨by rw [ev_set_ne _ _ (by omega)]; exact q3.1.1, by rw [ev_set_ne _ _ (by omega)]; exact q3.1.2⟩, ev_set_self _ _ _, (q3.2.up (by simp)).set (by simp)⟩
  refine q_aload hX 0 d_Wr_putHeader_0 rfl (by first | rfl | assumption) ?_
  refine r_getf hX d_Wr_putHeader_1 fl_Wr_24 hwr rfl ?_
  refine q_aload hX 1 d_Wr_putHeader_4 rfl (by first | rfl | assumption) ?_
  refine r_getf hX d_Wr_putHeader_5 fl_Wr_55 hE rfl ?_
  refine r_i2l hX d_Wr_putHeader_8 ?_
  refine q_aload hX 1 d_Wr_putHeader_9 rfl (by first | rfl | assumption) ?_
  refine r_getf hX d_Wr_putHeader_10 fl_Wr_55 hE rfl ?_
  refine r_i2l hX d_Wr_putHeader_13 ?_
  refine r_callS (as := [_]) hX d_Wr_putHeader_14 lk_Wr_58 rfl (Nat.le_of_ble_eq_true rfl) (by decide) 0 0 (Nat.le_refl _) (Nat.le_refl _) (c_Wr_fewestBytes (G := G) _) (fun v w1 hq => ?_)
  obtain ⟨rfl, hw⟩ := hq
  rw [hw]
  refine r_callV (as := [_, _]) hX d_Wr_putHeader_17 lk_Wr_88 h.1 rfl rfl (Nat.le_of_ble_eq_true rfl) (by decide) 0 0 (Nat.le_refl _) (Nat.le_refl _) (c_Ro_numL (G := G) h (by omega) (by omega) hn _ _ (by omega)) (fun v w1 hq => ?_)
  obtain ⟨rfl, q1⟩ := hq
  have hE1 := q1.el hE (by omega)
  have hwr1 := q1.el hwr (by omega)
  have q1c := q1.1
  rw [nm_len] at q1c
  refine q_aload hX 1 d_Wr_putHeader_20 rfl (by first | rfl | assumption) ?_
  refine q_iload hX 2 d_Wr_putHeader_21 rfl (by first | rfl | assumption) ?_
  refine r_callS (as := [_, _]) hX d_Wr_putHeader_22 lk_Wr_47 rfl (Nat.le_of_ble_eq_true rfl) (by decide) 0 0 (Nat.le_refl _) (Nat.le_refl _) (c_Wr_isOpen (G := G) hE1 h17 live) (fun v w2 hq => ?_)
  obtain ⟨rfl, hw⟩ := hq
  rw [hw]
  refine r_if_eq hX 41 d_Wr_putHeader_25 (by decide) (fun c25 => ?_) (fun c25 => ?_)
  · refine q_aload hX 0 d_Wr_putHeader_41 rfl (by first | rfl | assumption) ?_
    refine r_getf hX d_Wr_putHeader_42 fl_Wr_24 hwr1 rfl ?_
    refine q_aload hX 1 d_Wr_putHeader_45 rfl (by first | rfl | assumption) ?_
    refine r_getf hX d_Wr_putHeader_46 fl_Wr_42 hE1 rfl ?_
    refine r_i2l hX d_Wr_putHeader_49 ?_
    refine q_aload hX 1 d_Wr_putHeader_50 rfl (by first | rfl | assumption) ?_
    refine r_getf hX d_Wr_putHeader_51 fl_Wr_42 hE1 rfl ?_
    refine r_i2l hX d_Wr_putHeader_54 ?_
    refine r_callSN (as := [_]) hX d_Wr_putHeader_55 lk_Wr_51 rfl (Nat.le_of_ble_eq_true rfl) (by decide) 0 0 (Nat.le_refl _) (Nat.le_refl _) (c_EF_shortestVintLength (G := G) _) (fun v w2 hq => ?_)
    obtain ⟨rfl, hw⟩ := hq
    rw [hw]
    refine r_callV (as := [_, _]) hX d_Wr_putHeader_58 lk_Wr_95 q1.1.1 rfl rfl (Nat.le_of_ble_eq_true rfl) (by decide) 0 0 (Nat.le_refl _) (Nat.le_refl _) (c_Ro_vintL (G := G) q1c (by omega) (by omega) hn _ _ (by omega)) (fun v w3 hq => ?_)
    obtain ⟨rfl, q2⟩ := hq
    exact tail _ _ ((q1.tr (by rw [nm_len]; exact q2)).un (by rw [hd_L, if_neg (by rw [b_i_0 c25]; decide)])) rfl rfl
  · refine q_aload hX 0 d_Wr_putHeader_28 rfl (by first | rfl | assumption) ?_
    refine r_getf hX d_Wr_putHeader_29 fl_Wr_24 hwr1 rfl ?_
    refine r_sipush (v := 255) hX d_Wr_putHeader_32 (by decide) ?_
    refine r_callV (as := [_]) hX d_Wr_putHeader_35 lk_Wr_92 q1.1.1 rfl rfl (Nat.le_of_ble_eq_true rfl) (by decide) 0 0 (Nat.le_refl _) (Nat.le_refl _) (c_Ro_putL (G := G) q1c (by omega) (by omega) (by omega) hn _) (fun v w3 hq => ?_)
    obtain ⟨rfl, q2⟩ := hq
    refine r_goto hX 61 d_Wr_putHeader_38 (by decide) ?_
    exact tail _ _ ((q1.tr (by rw [nm_len]; exact q2)).un (by rw [hd_L, if_pos (b_i_1 c25)])) rfl rfl
def cr_u (x : Int32) : Int32 := (x.toUInt32 >>> (Int32.toUInt32 1 &&& Int32.toUInt32 31)).toInt32
def cr_t (b : Int32) : Int32 := if b &&& 1 = 0 then cr_u b else cr_u b ^^^ -306674912
def cr_8 : Nat → Int32 → Int32
  | 0, b => b
  | k + 1, b => cr_8 k (cr_t b)
def cr_s (g : Nat → Int32) : Nat → Nat → Int32 → Int32
  | 0, _, b => b
  | k + 1, i, b => cr_s g k (i + 1) (cr_8 8 (b ^^^ (g i &&& 255)))
theorem c_Ro_sum {G : Ev_G} {w : Ev_W} {a b n c : Nat} {f : Nat → Int32} (h : is_Ro w a b n c f) (hc : c < 2 ^ 31) (hn : n < 2 ^ 31) (p q : Nat) (hp : p < 2 ^ 31) (hq : q < 2 ^ 31) : ev_Met G M_Ro_sum 1 0 0 [.ref a, .int (nI p), .int (nI q)] w (fun v w' => v = some (.int (cr_s (fun i => ro_at n f c (nI i)) (q - p) p (-1) ^^^ -1)) ∧ w' = w) := by
  refine ev_Met.of md_Ro_sum (Nat.le_of_ble_eq_true rfl) (fun X hX hR => ?_)
  have loop : ∀ (k i : Nat) (ls : Ev_L) (y : Int32), k = q - i → i < 2 ^ 31 → cr_s (fun i => ro_at n f c (nI i)) k i y = cr_s (fun i => ro_at n f c (nI i)) (q - p) p (-1) → ls.1 0 = some (.ref a) → ls.1 2 = some (.int (nI q)) → ls.1 3 = some (.int y) → ls.1 4 = some (.int (nI i)) → ev_W G M_Ro_sum X 0 0 5 ls [] w := by
   intro k
   induction k with
   | zero =>
    intro i ls y e1 hi e2 l0 l2 l3 l4
    refine r_iload hX d_Ro_sum_5 (by first | rfl | assumption) ?_
    refine q_iload hX 2 d_Ro_sum_7 rfl (by first | rfl | assumption) ?_
    refine r_icmp_ge hX 65 d_Ro_sum_8 (by decide) (fun _ => ?_) (fun c8 => absurd (nI_le (by omega) hi) c8)
    refine q_iload hX 3 d_Ro_sum_65 rfl (by first | rfl | assumption) ?_
    refine r_iconst (v := -1) hX d_Ro_sum_66 (by decide) ?_
    refine r_ixor hX d_Ro_sum_67 ?_
    refine r_iret hX hR d_Ro_sum_68 rfl (by first | rfl | assumption) ?_
    exact ⟨by rw [← e2]; rfl, rfl⟩
   | succ k ih =>
    intro i ls y e1 hi e2 l0 l2 l3 l4
    have inner : ∀ (t u : Nat) (ls : Ev_L) (b z : Int32), u + t = 8 → cr_8 t b = z → ls.1 0 = some (.ref a) → ls.1 2 = some (.int (nI q)) → ls.1 3 = some (.int b) → ls.1 4 = some (.int (nI i)) → ls.1 5 = some (.int (nI u)) → (∀ ls' : Ev_L, ls'.1 0 = some (.ref a) → ls'.1 2 = some (.int (nI q)) → ls'.1 3 = some (.int z) → ls'.1 4 = some (.int (nI i)) → ev_W G M_Ro_sum X 0 0 59 ls' [] w) → ev_W G M_Ro_sum X 0 0 27 ls [] w := by
      intro t
      induction t with
      | zero =>
        intro u ls b z e1 e2 l0 l2 l3 l4 l5 K
        have hu : u = 8 := by omega
        subst hu
        refine r_iload hX d_Ro_sum_27 (by first | rfl | assumption) ?_
        refine r_bipush (v := 8) hX d_Ro_sum_29 (by decide) ?_
        refine r_icmp_ge hX 59 d_Ro_sum_31 (by decide) (fun _ => ?_) (fun c31 => absurd (by decide) c31)
        exact K _ l0 l2 (by rw [l3, ← e2]; rfl) l4
      | succ t ih =>
        intro u ls b z e1 e2 l0 l2 l3 l4 l5 K
        refine r_iload hX d_Ro_sum_27 (by first | rfl | assumption) ?_
        refine r_bipush (v := 8) hX d_Ro_sum_29 (by decide) ?_
        refine r_icmp_ge hX 59 d_Ro_sum_31 (by decide) (fun c31 => absurd c31 (nI_ge (a := u) (b := 8) (by omega) (by decide))) (fun _ => ?_)
        refine q_iload hX 3 d_Ro_sum_34 rfl (by first | rfl | assumption) ?_
        refine r_iconst (v := 1) hX d_Ro_sum_35 (by decide) ?_
        refine r_iand hX d_Ro_sum_36 ?_
        refine r_if_eq hX 49 d_Ro_sum_37 (by decide) (fun c37 => ?_) (fun c37 => ?_)
        · refine q_iload hX 3 d_Ro_sum_49 rfl (by first | rfl | assumption) ?_
          refine r_iconst (v := 1) hX d_Ro_sum_50 (by decide) ?_
          refine r_iushr hX d_Ro_sum_51 ?_
          refine q_istore hX 3 d_Ro_sum_52 rfl (by decide) ?_
          refine r_iinc hX d_Ro_sum_53 (by first | rfl | assumption) ?_
          refine r_goto hX 27 d_Ro_sum_56 (by decide) ?_
          exact ih (u + 1) _ _ z (by omega) (by rw [← e2, cr_8, cr_t, if_pos c37]; rfl) l0 l2 rfl l4 (by show some (Value.int (nI u + Int32.ofInt 1)) = _; rw [show Int32.ofInt 1 = 1 from rfl, nI_1]) K
        · refine q_iload hX 3 d_Ro_sum_40 rfl (by first | rfl | assumption) ?_
          refine r_iconst (v := 1) hX d_Ro_sum_41 (by decide) ?_
          refine r_iushr hX d_Ro_sum_42 ?_
          refine r_ldc hX d_Ro_sum_43 m_369 ?_
          refine r_ixor hX d_Ro_sum_45 ?_
          refine r_goto hX 52 d_Ro_sum_46 (by decide) ?_
          refine q_istore hX 3 d_Ro_sum_52 rfl (by decide) ?_
          refine r_iinc hX d_Ro_sum_53 (by first | rfl | assumption) ?_
          refine r_goto hX 27 d_Ro_sum_56 (by decide) ?_
          exact ih (u + 1) _ _ z (by omega) (by rw [← e2, cr_8, cr_t, if_neg c37]; rfl) l0 l2 rfl l4 (by show some (Value.int (nI u + Int32.ofInt 1)) = _; rw [show Int32.ofInt 1 = 1 from rfl, nI_1]) K
    refine r_iload hX d_Ro_sum_5 (by first | rfl | assumption) ?_
    refine q_iload hX 2 d_Ro_sum_7 rfl (by first | rfl | assumption) ?_
    refine r_icmp_ge hX 65 d_Ro_sum_8 (by decide) (fun c8 => absurd c8 (nI_ge (by omega) hq)) (fun _ => ?_)
    refine q_iload hX 3 d_Ro_sum_11 rfl (by first | rfl | assumption) ?_
    refine q_aload hX 0 d_Ro_sum_12 rfl (by first | rfl | assumption) ?_
    refine r_iload hX d_Ro_sum_13 (by first | rfl | assumption) ?_
    refine r_callV (as := [_]) hX d_Ro_sum_15 lk_Ro_31 h.1 rfl rfl (Nat.le_of_ble_eq_true rfl) (by decide) 0 0 (Nat.le_refl _) (Nat.le_refl _) (c_Ro_at (G := G) h hc hn (nI i)) (fun v w2 hq => ?_)
    obtain ⟨rfl, hw⟩ := hq
    rw [hw]
    refine r_sipush (v := 255) hX d_Ro_sum_18 (by decide) ?_
    refine r_iand hX d_Ro_sum_21 ?_
    refine r_ixor hX d_Ro_sum_22 ?_
    refine q_istore hX 3 d_Ro_sum_23 rfl (by decide) ?_
    refine r_iconst (v := 0) hX d_Ro_sum_24 (by decide) ?_
    refine r_istore hX d_Ro_sum_25 (by decide) ?_
    refine inner 8 0 _ _ (cr_8 8 (y ^^^ (ro_at n f c (nI i) &&& 255))) rfl rfl l0 l2 rfl l4 rfl (fun ls2 m0 m2 m3 m4 => ?_)
    refine r_iinc hX d_Ro_sum_59 (by first | rfl | assumption) ?_
    refine r_goto hX 5 d_Ro_sum_62 (by decide) ?_
    exact ih (i + 1) _ _ (by omega) (by omega) e2 m0 m2 m3 (by show some (Value.int (nI i + Int32.ofInt 1)) = _; rw [show Int32.ofInt 1 = 1 from rfl, nI_1])
  refine r_iconst (v := -1) hX d_Ro_sum_0 (by decide) ?_
  refine q_istore hX 3 d_Ro_sum_1 rfl (by decide) ?_
  refine q_iload hX 1 d_Ro_sum_2 rfl (by first | rfl | assumption) ?_
  refine r_istore hX d_Ro_sum_3 (by decide) ?_
  exact loop (q - p) p _ _ rfl hp rfl rfl rfl rfl rfl
def cr_b (s : Int32) (k : Nat) : Int32 := (s.toUInt32 >>> ((8 * nI k).toUInt32 &&& Int32.toUInt32 31)).toInt32
def fc_f (n c : Nat) (p s : Int32) : Nat → (Nat → Int32) → (Nat → Int32)
  | 0, f => f
  | k + 1, f => ro_ch n (fc_f n c p s k f) c (p + nI k) (cr_b s k)
theorem c_Wr_fillCheck {G : Ev_G} {w : Ev_W} (hwr : is_Wr w) {n c : Nat} {f : Nat → Int32} (h : is_Ro w 103 104 n c f) (hn : n < 2 ^ 31) (hc : c < 2 ^ 30) {e : Nat} {E : Ev_E} (hE : w.2 e = some (el_C e E)) (he : 139 ≤ e) {mm : Nat} {Em : Ev_E} (hmm : E.2.1 = some mm) (hM : w.2 mm = some (el_C mm Em)) {p q : Nat} (hp : E.2.2.2 12 = nI p) (hp2 : p < 2 ^ 30) (hq1 : Em.2.2.2 12 + Em.2.2.2 11 = nI q) (hq : q < 2 ^ 31) : ev_Met G M_Wr_fillCheck 2 0 0 [.ref 113, .ref e] w (fun v w' => v = none ∧ is_Ro w' 103 104 n c (fc_f n c (nI p) (cr_s (fun i => ro_at n f c (nI i)) (q - (p + 4)) (p + 4) (-1) ^^^ -1) 4 f) ∧ ev_sm w w' [103, 104]) := by
  refine ev_Met.of md_Wr_fillCheck (Nat.le_of_ble_eq_true rfl) (fun X hX hR => ?_)
  have hp4 : E.2.2.2 12 + 4 = nI (p + 4) := by rw [hp]; exact nI_add p 4
  obtain ⟨tg, mo, x, F⟩ := E
  cases hmm
  have loop : ∀ (k i : Nat) (ls : Ev_L) (w1 : Ev_W) (s : Int32), i + k = 4 → s = (cr_s (fun i => ro_at n f c (nI i)) (q - (p + 4)) (p + 4) (-1) ^^^ -1) → (is_Ro w1 103 104 n c (fc_f n c (nI p) s i f) ∧ ev_sm w w1 [103, 104]) → ls.1 0 = some (.ref 113) → ls.1 1 = some (.ref e) → ls.1 3 = some (.int s) → ls.1 4 = some (.int (nI i)) → ev_W G M_Wr_fillCheck X 0 0 42 ls [] w1 := by
    intro k
    induction k with
    | zero =>
      intro i ls w1 s e1 e2 hm1 l0 l1 l3 l4
      have hi : i = 4 := by omega
      subst hi
      refine r_iload hX d_Wr_fillCheck_42 (by first | rfl | assumption) ?_
      refine r_iconst (v := 4) hX d_Wr_fillCheck_44 (by decide) ?_
      refine r_icmp_ge hX 75 d_Wr_fillCheck_45 (by decide) (fun _ => ?_) (fun c45 => absurd (by decide) c45)
      refine r_vret hX hR d_Wr_fillCheck_75 rfl ?_
      exact ⟨rfl, by rw [← e2]; exact hm1.1, hm1.2⟩
    | succ k ih =>
      intro i ls w1 s e1 e2 hm1 l0 l1 l3 l4
      have hwr1 : w1.2 113 = _ := (hm1.2.2 113 (by decide)).trans hwr
      have hE1 := (hm1.2.2 e (by simp; omega)).trans hE
      refine r_iload hX d_Wr_fillCheck_42 (by first | rfl | assumption) ?_
      refine r_iconst (v := 4) hX d_Wr_fillCheck_44 (by decide) ?_
      refine r_icmp_ge hX 75 d_Wr_fillCheck_45 (by decide) (fun c45 => absurd c45 (nI_ge (a := i) (b := 4) (by omega) (by decide))) (fun _ => ?_)
      refine q_aload hX 0 d_Wr_fillCheck_48 rfl (by first | rfl | assumption) ?_
      refine r_getf hX d_Wr_fillCheck_49 fl_Wr_24 hwr1 rfl ?_
      refine q_aload hX 1 d_Wr_fillCheck_52 rfl (by first | rfl | assumption) ?_
      refine r_getf hX d_Wr_fillCheck_53 fl_Wr_98 hE1 rfl ?_
      refine r_iload hX d_Wr_fillCheck_56 (by first | rfl | assumption) ?_
      refine r_iadd hX d_Wr_fillCheck_58 ?_
      refine q_iload hX 3 d_Wr_fillCheck_59 rfl (by first | rfl | assumption) ?_
      refine r_bipush (v := 8) hX d_Wr_fillCheck_60 (by decide) ?_
      refine r_iload hX d_Wr_fillCheck_62 (by first | rfl | assumption) ?_
      refine r_imul hX d_Wr_fillCheck_64 ?_
      refine r_iushr hX d_Wr_fillCheck_65 ?_
      rw [hp]
      refine r_callV (as := [_, _]) hX d_Wr_fillCheck_66 lk_Wr_169 hm1.1.1 rfl rfl (Nat.le_of_ble_eq_true rfl) (by decide) 0 0 (Nat.le_refl _) (Nat.le_refl _) (c_Ro_change (G := G) hm1.1 (by decide) (by decide) (by omega) hn _ _) (fun v w3 hq => ?_)
      obtain ⟨rfl, q1, q2⟩ := hq
      refine r_iinc hX d_Wr_fillCheck_69 (by first | rfl | assumption) ?_
      refine r_goto hX 42 d_Wr_fillCheck_72 (by decide) ?_
      exact ih (i + 1) _ w3 s (by omega) e2 ⟨q1, hm1.2.tr q2⟩ l0 l1 l3 (by show some (Value.int (nI i + Int32.ofInt 1)) = _; rw [show Int32.ofInt 1 = 1 from rfl, nI_1])
  refine q_aload hX 1 d_Wr_fillCheck_0 rfl (by first | rfl | assumption) ?_
  refine r_getf hX d_Wr_fillCheck_1 fl_Wr_61 hE rfl ?_
  refine r_ifnonnull hX 8 d_Wr_fillCheck_4 (by decide) ?_
  refine q_aload hX 1 d_Wr_fillCheck_8 rfl (by first | rfl | assumption) ?_
  refine r_getf hX d_Wr_fillCheck_9 fl_Wr_98 hE rfl ?_
  refine r_iconst (v := 4) hX d_Wr_fillCheck_12 (by decide) ?_
  refine r_iadd hX d_Wr_fillCheck_13 ?_
  refine q_istore hX 2 d_Wr_fillCheck_14 rfl (by decide) ?_
  refine q_aload hX 0 d_Wr_fillCheck_15 rfl (by first | rfl | assumption) ?_
  refine r_getf hX d_Wr_fillCheck_16 fl_Wr_24 hwr rfl ?_
  refine q_iload hX 2 d_Wr_fillCheck_19 rfl (by first | rfl | assumption) ?_
  refine q_aload hX 1 d_Wr_fillCheck_20 rfl (by first | rfl | assumption) ?_
  refine r_getf hX d_Wr_fillCheck_21 fl_Wr_61 hE rfl ?_
  refine r_getf hX d_Wr_fillCheck_24 fl_Wr_98 hM rfl ?_
  refine q_aload hX 1 d_Wr_fillCheck_27 rfl (by first | rfl | assumption) ?_
  refine r_getf hX d_Wr_fillCheck_28 fl_Wr_61 hE rfl ?_
  refine r_getf hX d_Wr_fillCheck_31 fl_Wr_42 hM rfl ?_
  refine r_iadd hX d_Wr_fillCheck_34 ?_
  rw [hq1, hp4]
  refine r_callV (as := [_, _]) hX d_Wr_fillCheck_35 lk_Wr_165 h.1 rfl rfl (Nat.le_of_ble_eq_true rfl) (by decide) 0 0 (Nat.le_refl _) (Nat.le_refl _) (c_Ro_sum (G := G) h (by omega) hn (p + 4) q (by omega) hq) (fun v w1 hq => ?_)
  obtain ⟨rfl, hw⟩ := hq
  rw [hw]
  refine q_istore hX 3 d_Wr_fillCheck_38 rfl (by decide) ?_
  refine r_iconst (v := 0) hX d_Wr_fillCheck_39 (by decide) ?_
  refine r_istore hX d_Wr_fillCheck_40 (by decide) ?_
  exact loop 4 0 _ w _ rfl rfl ⟨h, ev_sm.rf⟩ rfl rfl rfl rfl
