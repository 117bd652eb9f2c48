/-! ===== the reference: readBlock, its walk ===== -/
theorem lo.i1 {n sd : Nat} (c : Nat) (hc : c ≠ 122 ∧ c ≠ 127 ∧ c ≠ 128 ∧ c ≠ 129) : lo_b n sd c = n := by
  unfold lo_b
  rw [if_neg hc.1, if_neg (by omega), if_neg hc.2.2.2]
theorem lo.i8 {n sd : Nat} (c : Nat) (hc : c = 127 ∨ c = 128) : lo_b n sd c = 8 * n := by
  unfold lo_b
  rw [if_neg (by omega), if_pos hc]
theorem lo.i9 {n sd : Nat} : lo_b n sd 129 = sd := rfl
theorem i_but.wk {I I' : Nat → Int32} (h : i_but I I' [7, 8, 9]) : i_but I I' [1, 7, 8, 9] := fun J hJ => h J (fun z => hJ (by simp at z ⊢; omega))
set_option maxHeartbeats 2000000 in
theorem c_Mo_readBlock {G : Ev_G} {w : Ev_W} {I : Nat → Int32} {v0 : Int64} {A : Ev_A} (hM : is_M w I v0 A) {c : Nat} {g : Nat → Nat} (hg : rd_g c (A.1 132) g) {p : Nat} (hat : I 7 = nI p) {n : Nat} (hcn : I 0 = nI n) (hn : n ≤ 60) {sd e : Nat} (hu : I 1 = nI sd) (hsd : sd + (e - p) ≤ 1300) (hec : e ≤ c) (hpe : p ≤ e) : ev_Met G M_Mo_readBlock 4 0 0 [.ref 117, .int (nI e)] w (rbk_post w I A (rbk g p e) n sd e g) := by
  refine ev_Met.of md_Mo_readBlock (Nat.le_of_ble_eq_true rfl) (fun X hX hR => ?_)
  have hc := hg.1
  obtain ⟨w0, hw0⟩ : ∃ w0, w0 = w := ⟨_, rfl⟩
  refine q_aload hX 0 d_Mo_readBlock_0 rfl (by first | rfl | assumption) ?_
  refine q_iload hX 1 d_Mo_readBlock_1 rfl (by first | rfl | assumption) ?_
  refine r_callV (as := [_]) hX d_Mo_readBlock_2 lk_Mo_140 hM.1 rfl rfl (Nat.le_of_ble_eq_true rfl) (by decide) 0 0 (Nat.le_refl _) (Nat.le_refl _) (c_Mo_readVint (G := G) hM hg hat hec (by omega)) (fun v w hq => ?_)
  unfold rv_post at hq
  cases hv : vi g p e with
  | none =>
    rw [hv] at hq
    obtain ⟨rfl, x, hM, hs⟩ := hq
    rw [← hw0] at hs
    refine q_istore hX 2 d_Mo_readBlock_5 rfl (by decide) ?_
    refine q_iload hX 2 d_Mo_readBlock_6 rfl (by first | rfl | assumption) ?_
    refine r_if_ne hX 40 d_Mo_readBlock_7 (by decide) (fun _ => ?_) (fun c7 => absurd c7 (rv_c_ne _ _ _))
    refine r_iconst (v := 0) hX d_Mo_readBlock_40 (by decide) ?_
    refine r_iret hX hR d_Mo_readBlock_41 rfl (by first | rfl | assumption) ?_
    have hz : rbk g p e = none := by
      have hb : bh g p e = none := by rw [bh, hv]
      rw [rbk, hb]
    rw [hz]
    exact ⟨_, _, _, hM, hw0 ▸ hs, i_but.wk (i_but.rf.u (by simp)), lo.rf, rfl, rfl, rfl, rfl⟩
  | some r =>
    rw [hv] at hq
    obtain ⟨rfl, hM, hs⟩ := hq
    rw [← hw0] at hs
    have hv1 := vi_of hv
    have htI : (lN r.1).toInt = (r.1 : Int) := pk_lT (by omega)
    refine q_istore hX 2 d_Mo_readBlock_5 rfl (by decide) ?_
    refine q_iload hX 2 d_Mo_readBlock_6 rfl (by first | rfl | assumption) ?_
    refine r_if_ne hX 40 d_Mo_readBlock_7 (by decide) (fun c7 => absurd rfl c7) (fun _ => ?_)
    refine q_aload hX 0 d_Mo_readBlock_10 rfl (by first | rfl | assumption) ?_
    refine r_getf hX d_Mo_readBlock_11 fl_Mo_124 hM.1 rfl ?_
    refine r_lconst (v := 1) hX d_Mo_readBlock_14 (by decide) ?_
    refine r_lcmp hX d_Mo_readBlock_15 ?_
    refine r_if_lt hX 40 d_Mo_readBlock_16 (by decide) (fun c16 => ?_) (fun c16 => ?_)
    · refine r_iconst (v := 0) hX d_Mo_readBlock_40 (by decide) ?_
      refine r_iret hX hR d_Mo_readBlock_41 rfl (by first | rfl | assumption) ?_
      have hz : rbk g p e = none := by
        have hb : bh g p e = none := by rw [bh, hv]; dsimp only; rw [if_neg (fun z => by have := z.1; have h := l_lt0.mp c16; rw [htI, show (1 : Int64).toInt = 1 from rfl] at h; omega)]
        rw [rbk, hb]
      rw [hz]
      exact ⟨_, _, _, hM, hw0 ▸ hs, i_but.wk (rv_I_but _ _ _), lo.rf, rfl, rfl, rfl, rfl⟩
    · refine q_aload hX 0 d_Mo_readBlock_19 rfl (by first | rfl | assumption) ?_
      refine r_getf hX d_Mo_readBlock_20 fl_Mo_124 hM.1 rfl ?_
      refine r_ldc2 hX d_Mo_readBlock_23 m_708 ?_
      refine r_lcmp hX d_Mo_readBlock_26 ?_
      refine r_if_gt hX 40 d_Mo_readBlock_27 (by decide) (fun c27 => ?_) (fun c27 => ?_)
      · refine r_iconst (v := 0) hX d_Mo_readBlock_40 (by decide) ?_
        refine r_iret hX hR d_Mo_readBlock_41 rfl (by first | rfl | assumption) ?_
        have hz : rbk g p e = none := by
          have hb : bh g p e = none := by rw [bh, hv]; dsimp only; rw [if_neg (fun z => by have := z.2.1; have h := l_gt0.mp c27; rw [htI, show (126 : Int64).toInt = 126 from rfl] at h; omega)]
          rw [rbk, hb]
        rw [hz]
        exact ⟨_, _, _, hM, hw0 ▸ hs, i_but.wk (rv_I_but _ _ _), lo.rf, rfl, rfl, rfl, rfl⟩
      · refine q_iload hX 1 d_Mo_readBlock_30 rfl (by first | rfl | assumption) ?_
        refine q_aload hX 0 d_Mo_readBlock_31 rfl (by first | rfl | assumption) ?_
        refine r_getm (J := 7) (x := nI (p + r.2)) hX d_Mo_readBlock_32 fl_Mo_115 hM rfl rfl ?_
        refine r_isub hX d_Mo_readBlock_35 ?_
        rw [nI_sb hv1.2.2.2.2.1]
        refine r_iconst (v := 3) hX d_Mo_readBlock_36 (by decide) ?_
        refine r_icmp_ge hX 42 d_Mo_readBlock_37 (by decide) (fun c37 => ?_) (fun c37 => ?_)
        · have hr1 : 1 ≤ r.1 := by have h := Int.not_lt.mp (fun z => c16 (l_lt0.mpr z)); rw [htI, show (1 : Int64).toInt = 1 from rfl] at h; omega
          have hr126 : r.1 ≤ 126 := by have h := Int.not_lt.mp (fun z => c27 (l_gt0.mpr z)); rw [htI, show (126 : Int64).toInt = 126 from rfl] at h; omega
          have h3e : p + r.2 + 3 ≤ e := by have h := (nI_leI (a := 3) (by decide) (by omega)).mp c37; omega
          refine q_aload hX 0 d_Mo_readBlock_42 rfl (by first | rfl | assumption) ?_
          refine r_getf hX d_Mo_readBlock_43 fl_Mo_26 hM.1 rfl ?_
          refine q_aload hX 0 d_Mo_readBlock_46 rfl (by first | rfl | assumption) ?_
          refine r_getm (J := 0) (x := nI n) hX d_Mo_readBlock_47 fl_Mo_86 hM hcn rfl ?_
          refine q_aload hX 0 d_Mo_readBlock_50 rfl (by first | rfl | assumption) ?_
          refine r_getf hX d_Mo_readBlock_51 fl_Mo_124 hM.1 rfl ?_
          refine r_l2i hX d_Mo_readBlock_54 ?_
          rw [lN_i]
          refine r_iastm (c := 123) hX d_Mo_readBlock_55 hM hs rfl rfl (by omega) (fun w hM hs => ?_)
          have hr := hr1
          have hgq := hg.2 (p + r.2) (by omega)
          have hgq1 := hg.2 (p + r.2 + 1) (by omega)
          have hgf := hg.2 (p + r.2 + 2) (by omega)
          have hf8 := hgf.2
          have loop : ∀ (l : List Nat) (q5 : Nat) (I4 : Nat → Int32) (A4 : Ev_A), rbk g p e = some (bh_R g e r.1 (p + r.2), l, q5) → l.sum = e - q5 → q5 ≤ e → p ≤ q5 → l.length ≤ 8 → i_but I I4 [1, 7, 8, 9] → lo A A4 n sd → A4.1 118 = A.1 118 → A4.1 119 = A.1 119 → A4.1 121 n = nI l.length → A4.1 123 n = nI r.1 → A4.1 124 n = bh_t g (p + r.2) → A4.1 125 n = b_i (decide (128 ≤ g (p + r.2 + 2))) → A4.1 126 n = nI (g (p + r.2 + 2) / 2 % 4) → (∀ i, i < l.length → A4.1 127 (8 * n + i) = nI (l.getD i 0)) → ∀ (t i : Nat) (I5 : Nat → Int32) (v5 : Int64) (A5 : Ev_A) (w1 : Ev_W) (ls : Ev_L), i + t = l.length → is_M w1 I5 v5 A5 → mo_sm w0 w1 → i_but I4 I5 [1, 7] → I5 1 = nI (sd + sm_N (fun j => l.getD j 0) i) → I5 7 = nI (q5 + sm_N (fun j => l.getD j 0) i) → lo A4 A5 n sd → (∀ q, q ≠ 128 → q ≠ 129 → A5.1 q = A4.1 q) → (∀ x, x < i → A5.1 128 (8 * n + x) = nI (sd + sm_N (fun j => l.getD j 0) x)) → (∀ x, x < sm_N (fun j => l.getD j 0) i → A5.1 129 (sd + x) = nI (g (q5 + x))) → ls.1 0 = some (.ref 117) → ls.1 6 = some (.int (nI l.length)) → ls.1 7 = some (.int (nI i)) → ev_W G M_Mo_readBlock X 0 0 269 ls [] w1 := by
            intro l q5 I4 A4 hrb hsum hq5 hpq5 hl8 hI4 hlo4 h18 h19 h21 h23 h24 h25 h26 h27 t
            have hss : sm_N (fun j => l.getD j 0) l.length = e - q5 := by rw [← sum_sm, hsum]
            induction t with
            | zero =>
              intro i I5 v5 A5 w ls e1 hM hs hI5 hu5 ha5 hlo5 hq5s g1 g2 l0 l6 l7
              have e1 : i = l.length := e1
              subst e1
              refine r_iload hX d_Mo_readBlock_269 (by first | rfl | assumption) ?_
              refine r_iload hX d_Mo_readBlock_271 (by first | rfl | assumption) ?_
              refine r_icmp_ge hX 324 d_Mo_readBlock_273 (by decide) (fun _ => ?_) (fun c273 => absurd (nI_le (Nat.le_refl _) (by omega)) c273)
              refine r_iconst (v := 1) hX d_Mo_readBlock_324 (by decide) ?_
              refine r_iret hX hR d_Mo_readBlock_325 rfl (by first | rfl | assumption) ?_
              rw [hrb]
              have hb : ∀ q, q ≠ 128 → q ≠ 129 → ∀ x, A5.1 q x = A4.1 q x := fun q z1 z2 x => by rw [hq5s q z1 z2]
              refine ⟨I5, v5, A5, hM, hw0 ▸ hs, fun J hJ => (hI5 J (fun z => hJ (by simp at z ⊢; omega))).trans (hI4 J hJ), hlo4.tr hlo5, (hq5s 118 (by decide) (by decide)).trans h18, (hq5s 119 (by decide) (by decide)).trans h19, rfl, by rw [hu5, hss], ?_, ?_, ?_, ?_, ?_, fun i hi => ⟨?_, g1 i hi⟩, fun x hx => g2 x (by rw [hss]; exact hx)⟩
              · rw [hb 121 (by decide) (by decide)]; exact h21
              · rw [hb 123 (by decide) (by decide)]; exact h23
              · rw [hb 124 (by decide) (by decide)]; exact h24
              · rw [hb 125 (by decide) (by decide)]; exact h25
              · rw [hb 126 (by decide) (by decide)]; exact h26
              · rw [hb 127 (by decide) (by decide)]; exact h27 i hi
            | succ t ih =>
              intro i I5 v5 A5 w ls e1 hM hs hI5 hu5 ha5 hlo5 hq5s g1 g2 l0 l6 l7
              have hi : i < l.length := by omega
              have hle := sm_N_le (sz := fun j => l.getD j 0) (show i + 1 ≤ l.length by omega)
              rw [sm_N] at hle
              have hle : sm_N (fun j => l.getD j 0) i + l.getD i 0 ≤ sm_N (fun j => l.getD j 0) l.length := hle
              have hc5 : I5 0 = nI n := (hI5 0 (by decide)).trans ((hI4 0 (by decide)).trans hcn)
              have h27i : A5.1 127 (8 * n + i) = nI (l.getD i 0) := by rw [hq5s 127 (by decide) (by decide)]; exact h27 i hi
              refine r_iload hX d_Mo_readBlock_269 (by first | rfl | assumption) ?_
              refine r_iload hX d_Mo_readBlock_271 (by first | rfl | assumption) ?_
              refine r_icmp_ge hX 324 d_Mo_readBlock_273 (by decide) (fun c273 => absurd c273 (nI_ge hi (by omega))) (fun _ => ?_)
              refine q_aload hX 0 d_Mo_readBlock_276 rfl (by first | rfl | assumption) ?_
              refine r_getf hX d_Mo_readBlock_277 fl_Mo_39 hM.1 rfl ?_
              refine r_bipush (v := 8) hX d_Mo_readBlock_280 (by decide) ?_
              refine q_aload hX 0 d_Mo_readBlock_282 rfl (by first | rfl | assumption) ?_
              refine r_getm (J := 0) (x := nI n) hX d_Mo_readBlock_283 fl_Mo_86 hM hc5 rfl ?_
              refine r_imul hX d_Mo_readBlock_286 ?_
              refine r_iload hX d_Mo_readBlock_287 (by first | rfl | assumption) ?_
              refine r_iadd hX d_Mo_readBlock_289 ?_
              refine r_ialdm (c := 127) (x := nI (l.getD i 0)) hX d_Mo_readBlock_290 hM rfl (j := 8 * n + i) (by rw [show (8 : Int32) = nI 8 from rfl, nI_ml, nI_add]) (by omega) h27i ?_
              refine r_istore hX d_Mo_readBlock_291 (by decide) ?_
              refine q_aload hX 0 d_Mo_readBlock_293 rfl (by first | rfl | assumption) ?_
              refine r_getf hX d_Mo_readBlock_294 fl_Mo_42 hM.1 rfl ?_
              refine r_bipush (v := 8) hX d_Mo_readBlock_297 (by decide) ?_
              refine q_aload hX 0 d_Mo_readBlock_299 rfl (by first | rfl | assumption) ?_
              refine r_getm (J := 0) (x := nI n) hX d_Mo_readBlock_300 fl_Mo_86 hM hc5 rfl ?_
              refine r_imul hX d_Mo_readBlock_303 ?_
              refine r_iload hX d_Mo_readBlock_304 (by first | rfl | assumption) ?_
              refine r_iadd hX d_Mo_readBlock_306 ?_
              refine q_aload hX 0 d_Mo_readBlock_307 rfl (by first | rfl | assumption) ?_
              refine r_getm (J := 1) (x := nI (sd + sm_N (fun j => l.getD j 0) i)) hX d_Mo_readBlock_308 fl_Mo_104 hM hu5 rfl ?_
              refine r_iastm (c := 128) hX d_Mo_readBlock_311 hM hs rfl (j := 8 * n + i) (by rw [show (8 : Int32) = nI 8 from rfl, nI_ml, nI_add]) (by omega) (fun w hM hs => ?_)
              refine q_aload hX 0 d_Mo_readBlock_312 rfl (by first | rfl | assumption) ?_
              refine r_iload hX d_Mo_readBlock_313 (by first | rfl | assumption) ?_
              refine r_callV (as := [_]) hX d_Mo_readBlock_315 lk_Mo_155 hM.1 rfl rfl (Nat.le_of_ble_eq_true rfl) (by decide) 0 0 (Nat.le_refl _) (Nat.le_refl _) (c_Mo_keep (G := G) hM (p := q5 + sm_N (fun j => l.getD j 0) i) ha5 (sd := sd + sm_N (fun j => l.getD j 0) i) (m := l.getD i 0) hu5 (by omega) (by omega)) (fun v w hq => ?_)
              obtain ⟨rfl, A6, hM, hs2, k1, k2, k3⟩ := hq
              have hs := hs.tr hs2
              refine r_iinc hX d_Mo_readBlock_318 (by first | rfl | assumption) ?_
              refine r_goto hX 269 d_Mo_readBlock_321 (by decide) ?_
              have hsm : sm_N (fun j => l.getD j 0) (i + 1) = sm_N (fun j => l.getD j 0) i + l.getD i 0 := rfl
              have hlo6 : lo A4 A6 n sd := by
                have h1 : lo A4 (aset A5 128 (8 * n + i) (nI (sd + sm_N (fun j => l.getD j 0) i))) n sd := hlo5.st (by decide) (by rw [lo.i8 128 (by decide)]; omega)
                exact h1.tr (lo.b1 k1 (fun x hx => k3 x (by rw [lo.i9] at hx; omega)) (by decide))
              have h132 : A5.1 132 = A.1 132 := (hq5s 132 (by decide) (by decide)).trans (hlo4.2.1 132 (by decide))
              refine ih (i + 1) _ _ A6 w _ (by omega) hM hs ((hI5.u (by simp)).u (by simp)) (by rw [hsm]; show nI (sd + sm_N (fun j => l.getD j 0) i + l.getD i 0) = _; rw [Nat.add_assoc]) (by rw [hsm]; show nI (q5 + sm_N (fun j => l.getD j 0) i + l.getD i 0) = _; rw [Nat.add_assoc]) hlo6 (fun q z1 z2 => by rw [k1.1 q (by simpa using z2), aset_ne _ _ _ z1]; exact hq5s q z1 z2) (fun x hx => ?_) (fun x hx => ?_) l0 l6 (by show some (Value.int (nI i + Int32.ofInt 1)) = _; rw [show Int32.ofInt 1 = 1 from rfl, nI_1])
              · rw [k1.1 128 (by decide)]
                by_cases z : x = i
                · rw [z, aset_self]
                · rw [aset_off _ _ _ _ _ _ (Or.inr (by omega))]; exact g1 x (by omega)
              · by_cases z : x < sm_N (fun j => l.getD j 0) i
                · rw [k3 (sd + x) (by omega), aset_ne _ _ _ (by decide)]; exact g2 x z
                · have hx : x < sm_N (fun j => l.getD j 0) i + l.getD i 0 := hx
                  have h3 := k2 (x - sm_N (fun j => l.getD j 0) i) (by omega)
                  rw [show sd + sm_N (fun j => l.getD j 0) i + (x - sm_N (fun j => l.getD j 0) i) = sd + x by omega, show q5 + sm_N (fun j => l.getD j 0) i + (x - sm_N (fun j => l.getD j 0) i) = q5 + x by omega, aset_ne _ _ _ (by decide), h132, (hg.2 (q5 + x) (by omega)).1] at h3
                  exact h3
          have go3 : ∀ (k q4 : Nat) (I3 : Nat → Int32) (v3 : Int64) (A3 : Ev_A) (w1 : Ev_W) (ls : Ev_L), bh g p e = some (bh_R g e r.1 (p + r.2)) → bh_R g e r.1 (p + r.2) = (r.1, bh_t g (p + r.2), decide (128 ≤ g (p + r.2 + 2)), g (p + r.2 + 2) / 2 % 4, k, q4) → 1 ≤ k → k ≤ 8 → q4 ≤ e → p ≤ q4 → is_M w1 I3 v3 A3 → mo_sm w0 w1 → i_but I I3 [7, 8, 9] → I3 7 = nI q4 → A3 = aset (aset (aset (aset A 123 n (nI r.1)) 124 n (bh_t g (p + r.2))) 125 n (b_i (decide (128 ≤ g (p + r.2 + 2))))) 126 n (nI (g (p + r.2 + 2) / 2 % 4)) → ls.1 0 = some (.ref 117) → ls.1 1 = some (.int (nI e)) → ls.1 5 = some (.int (nI (g (p + r.2 + 2) / 2 % 4))) → ls.1 6 = some (.int (nI k)) → ev_W G M_Mo_readBlock X 0 0 241 ls [] w1 := by
            intro k q4 I3 v3 A3 w ls hbh hR4 hk1 hk8 hq4 hpq4 hM hs hI3 ha3 hA3 l0 l1 l5 l6
            have hrbk : rbk g p e = (bz g (g (p + r.2 + 2) / 2 % 4) k q4 e).map (fun q => (bh_R g e r.1 (p + r.2), q.1, q.2)) := by
              rw [rbk, hbh]
              show (bz g (bh_R g e r.1 (p + r.2)).2.2.2.1 (bh_R g e r.1 (p + r.2)).2.2.2.2.1 (bh_R g e r.1 (p + r.2)).2.2.2.2.2 e).map _ = _
              rw [hR4]
            have h132 : A3.1 132 = A.1 132 := by rw [hA3]; rfl
            have hlo3 : lo A A3 n sd := by rw [hA3]; exact (((lo.rf.st (c := 123) (by decide) (by rw [lo.i1 123 (by decide)]; exact Nat.le_refl _)).st (c := 124) (by decide) (by rw [lo.i1 124 (by decide)]; exact Nat.le_refl _)).st (c := 125) (by decide) (by rw [lo.i1 125 (by decide)]; exact Nat.le_refl _)).st (c := 126) (by decide) (by rw [lo.i1 126 (by decide)]; exact Nat.le_refl _)
            refine q_aload hX 0 d_Mo_readBlock_241 rfl (by first | rfl | assumption) ?_
            refine r_iload hX d_Mo_readBlock_242 (by first | rfl | assumption) ?_
            refine r_iload hX d_Mo_readBlock_244 (by first | rfl | assumption) ?_
            refine q_iload hX 1 d_Mo_readBlock_246 rfl (by first | rfl | assumption) ?_
            refine r_callV (as := [_, _, _]) hX d_Mo_readBlock_247 lk_Mo_151 hM.1 rfl rfl (Nat.le_of_ble_eq_true rfl) (by decide) 0 0 (Nat.le_refl _) (Nat.le_refl _) (c_Mo_readSizes (G := G) hM (c := c) (g := g) (by rw [h132]; exact hg) ha3 ((hI3 0 (by decide)).trans hcn) hn hec hq4 (by omega) hk1 hk8) (fun v w hq => ?_)
            obtain ⟨I4, v4, A4, hM, hs2, hI4, hA4, hA4l, hq⟩ := hq
            have hs := hs.tr hs2
            have hI4 := hI3.tr hI4
            have hlo4 : lo A A4 n sd := hlo3.tr (lo.b1 hA4 (fun x hx => hA4l x (by rw [lo.i8 127 (by decide)] at hx; exact hx)) (by decide))
            have h4 : ∀ q, q ≠ 127 → A4.1 q = A3.1 q := fun q z => hA4.1 q (by simpa using z)
            cases hbz : bz g (g (p + r.2 + 2) / 2 % 4) k q4 e with
            | none =>
              rw [hbz] at hq hrbk
              have hq : v = some (.int 0) := hq
              subst hq
              refine r_if_ne hX 255 d_Mo_readBlock_250 (by decide) (fun c250 => absurd rfl c250) (fun _ => ?_)
              refine r_iconst (v := 0) hX d_Mo_readBlock_253 (by decide) ?_
              refine r_iret hX hR d_Mo_readBlock_254 rfl (by first | rfl | assumption) ?_
              have hz : rbk g p e = none := hrbk
              rw [hz]
              exact ⟨_, _, _, hM, hw0 ▸ hs, fun J hJ => hI4 J (fun z => hJ (by simp at z ⊢; omega)), hlo4, by rw [h4 118 (by decide), hA3]; rfl, by rw [h4 119 (by decide), hA3]; rfl, rfl, hI4 1 (by decide)⟩
            | some Q =>
              rw [hbz] at hq hrbk
              obtain ⟨rfl, h7, hlen, h27⟩ := hq
              have hsum := bz_sum hq4 hbz
              have hrbk : rbk g p e = some (bh_R g e r.1 (p + r.2), Q.1, Q.2) := hrbk
              refine r_if_ne hX 255 d_Mo_readBlock_250 (by decide) (fun _ => ?_) (fun c250 => absurd c250 (by decide))
              refine q_aload hX 0 d_Mo_readBlock_255 rfl (by first | rfl | assumption) ?_
              refine r_getf hX d_Mo_readBlock_256 fl_Mo_20 hM.1 rfl ?_
              refine q_aload hX 0 d_Mo_readBlock_259 rfl (by first | rfl | assumption) ?_
              refine r_getm (J := 0) (x := nI n) hX d_Mo_readBlock_260 fl_Mo_86 hM ((hI4 0 (by decide)).trans hcn) rfl ?_
              refine r_iload hX d_Mo_readBlock_263 (by first | rfl | assumption) ?_
              refine r_iastm (c := 121) hX d_Mo_readBlock_265 hM hs rfl rfl (by omega) (fun w hM hs => ?_)
              refine r_iconst (v := 0) hX d_Mo_readBlock_266 (by decide) ?_
              refine r_istore hX d_Mo_readBlock_267 (by decide) ?_
              have h4' : ∀ q, q ≠ 127 → q ≠ 121 → (aset A4 121 n (nI k)).1 q = A3.1 q := fun q z1 z2 => by rw [aset_ne _ _ _ z2]; exact h4 q z1
              refine loop Q.1 Q.2 I4 (aset A4 121 n (nI k)) hrbk hsum.1 hsum.2.2 (by omega) (by rw [hlen]; exact hk8) (fun J hJ => hI4 J (fun z => hJ (by simp at z ⊢; omega))) (hlo4.st (by decide) (by rw [lo.i1 121 (by decide)]; exact Nat.le_refl _)) (by rw [h4' 118 (by decide) (by decide), hA3]; rfl) (by rw [h4' 119 (by decide) (by decide), hA3]; rfl) (by rw [aset_self, hlen]) (by rw [h4' 123 (by decide) (by decide), hA3]; simp [aset, upd]) (by rw [h4' 124 (by decide) (by decide), hA3]; simp [aset, upd]) (by rw [h4' 125 (by decide) (by decide), hA3]; simp [aset, upd]) (by rw [h4' 126 (by decide) (by decide), hA3]; simp [aset, upd]) (fun i hi => by rw [aset_ne _ _ _ (by decide)]; exact h27 i (by rw [← hlen]; exact hi)) Q.1.length 0 I4 v4 _ w _ (by omega) hM hs i_but.rf ?_ (by show I4 7 = nI (Q.2 + 0); exact h7) lo.rf (fun _ _ _ => rfl) (fun x hx => by omega) (fun x hx => by have hx : x < 0 := hx; omega) l0 (by show ls.1 6 = _; rw [hlen]; exact l6) rfl
              show I4 1 = nI (sd + 0)
              rw [hI4 1 (by decide)]
              exact hu
          have go2 : ∀ (Ir : Nat → Int32) (vr : Int64) (w1 : Ev_W) (ls : Ev_L), is_M w1 Ir vr (aset (aset (aset A 123 n (nI r.1)) 124 n (bh_t g (p + r.2))) 125 n (b_i (decide (128 ≤ g (p + r.2 + 2))))) → mo_sm w0 w1 → i_but I Ir [7, 8, 9] → Ir 7 = nI (p + r.2 + 3) → ls.1 0 = some (.ref 117) → ls.1 1 = some (.int (nI e)) → ls.1 4 = some (.int (nI (g (p + r.2 + 2)))) → ev_W G M_Mo_readBlock X 0 0 150 ls [] w1 := by
            intro Ir vr w ls hM hs hIr har l0 l1 l4
            refine r_iload hX d_Mo_readBlock_150 (by first | rfl | assumption) ?_
            refine r_bipush (v := 127) hX d_Mo_readBlock_152 (by decide) ?_
            refine r_iand hX d_Mo_readBlock_154 ?_
            rw [fl_127 _ hf8]
            refine r_iconst (v := 2) hX d_Mo_readBlock_155 (by decide) ?_
            refine r_idiv hX d_Mo_readBlock_156 (by decide) ?_
            rw [show (2 : Int32) = nI 2 from rfl, nI_dv (by omega) (by decide)]
            refine r_istore hX d_Mo_readBlock_157 (by decide) ?_
            refine q_aload hX 0 d_Mo_readBlock_159 rfl (by first | rfl | assumption) ?_
            refine r_getf hX d_Mo_readBlock_160 fl_Mo_36 hM.1 rfl ?_
            refine q_aload hX 0 d_Mo_readBlock_163 rfl (by first | rfl | assumption) ?_
            refine r_getm (J := 0) (x := nI n) hX d_Mo_readBlock_164 fl_Mo_86 hM ((hIr 0 (by decide)).trans hcn) rfl ?_
            refine r_iload hX d_Mo_readBlock_167 (by first | rfl | assumption) ?_
            refine r_iastm (c := 126) hX d_Mo_readBlock_169 hM hs rfl rfl (by omega) (fun w hM hs => ?_)
            refine r_iload hX d_Mo_readBlock_170 (by first | rfl | assumption) ?_
            refine r_iconst (v := 2) hX d_Mo_readBlock_172 (by decide) ?_
            refine r_irem hX d_Mo_readBlock_173 (by decide) ?_
            rw [show (2 : Int32) = nI 2 from rfl, nI_md (by omega) (by decide)]
            refine r_iconst (v := 1) hX d_Mo_readBlock_174 (by decide) ?_
            refine r_icmp_eq hX 184 d_Mo_readBlock_175 (by decide) (fun c175 => ?_) (fun c175 => ?_)
            · refine r_iconst (v := 0) hX d_Mo_readBlock_184 (by decide) ?_
              refine r_iret hX hR d_Mo_readBlock_185 rfl (by first | rfl | assumption) ?_
              have hz : rbk g p e = none := by
                have hb : bh g p e = none := by rw [bh, hv]; dsimp only; rw [if_neg (fun z => by have h := z.2.2.2; have := (nI_eq (b := 1) (by omega) (by decide)).mp c175; omega)]
                rw [rbk, hb]
              rw [hz]
              exact ⟨_, _, _, hM, hw0 ▸ hs, fun J hJ => hIr J (fun z => hJ (by simp at z ⊢; omega)), ((((lo.rf.st (c := 123) (by decide) (by rw [lo.i1 123 (by decide)]; exact Nat.le_refl _)).st (c := 124) (by decide) (by rw [lo.i1 124 (by decide)]; exact Nat.le_refl _)).st (c := 125) (by decide) (by rw [lo.i1 125 (by decide)]; exact Nat.le_refl _)).st (c := 126) (by decide) (by rw [lo.i1 126 (by decide)]; exact Nat.le_refl _)), rfl, rfl, rfl, hIr 1 (by decide)⟩
            · refine r_iload hX d_Mo_readBlock_178 (by first | rfl | assumption) ?_
              refine r_iconst (v := 3) hX d_Mo_readBlock_180 (by decide) ?_
              refine r_icmp_le hX 186 d_Mo_readBlock_181 (by decide) (fun c181 => ?_) (fun c181 => ?_)
              · have hl3 : g (p + r.2 + 2) % 128 / 2 ≤ 3 := (nI_leI (b := 3) (by omega) (by decide)).mp c181
                have hm2 : g (p + r.2 + 2) % 2 = 0 := by
                  have : g (p + r.2 + 2) % 2 ≠ 1 := fun z => c175 (by rw [z]; rfl)
                  omega
                have hla : g (p + r.2 + 2) % 128 / 2 = g (p + r.2 + 2) / 2 % 4 := by omega
                rw [hla] at hM
                have hbh : bh g p e = some (bh_R g e r.1 (p + r.2)) := by rw [bh, hv]; dsimp only; rw [if_pos ⟨hr1, hr126, by omega, by omega⟩]
                refine r_iconst (v := 1) hX d_Mo_readBlock_186 (by decide) ?_
                refine r_istore hX d_Mo_readBlock_187 (by decide) ?_
                refine r_iload hX d_Mo_readBlock_189 (by first | rfl | assumption) ?_
                refine r_if_le hX 241 d_Mo_readBlock_191 (by decide) (fun c191 => ?_) (fun c191 => ?_)
                · have h0 : g (p + r.2 + 2) / 2 % 4 = 0 := by
                    have h1 := (nI_leI (b := 0) (by omega) (by decide)).mp c191
                    omega
                  refine go3 1 (p + r.2 + 3) _ _ _ w _ hbh ?_ (by decide) (by decide) (by omega) (by omega) hM hs hIr har rfl l0 l1 (by show some (Value.int (nI _)) = _; rw [hla]) rfl
                  show (r.1, bh_t g (p + r.2), decide (128 ≤ g (p + r.2 + 2)), g (p + r.2 + 2) / 2 % 4, (if g (p + r.2 + 2) / 2 % 4 = 0 then 1 else if p + r.2 + 3 < e then g (p + r.2 + 3) + 1 else 0), (if g (p + r.2 + 2) / 2 % 4 = 0 then p + r.2 + 3 else if p + r.2 + 3 < e then p + r.2 + 4 else p + r.2 + 3)) = _
                  rw [if_pos h0, if_pos h0]
                · refine q_aload hX 0 d_Mo_readBlock_194 rfl (by first | rfl | assumption) ?_
                  refine r_getm (J := 7) (x := nI (p + r.2 + 3)) hX d_Mo_readBlock_195 fl_Mo_115 hM har rfl ?_
                  refine q_iload hX 1 d_Mo_readBlock_198 rfl (by first | rfl | assumption) ?_
                  refine r_icmp_ge hX 216 d_Mo_readBlock_199 (by decide) (fun c199 => ?_) (fun c199 => ?_)
                  · refine r_iconst (v := 0) hX d_Mo_readBlock_216 (by decide) ?_
                    refine r_iret hX hR d_Mo_readBlock_217 rfl (by first | rfl | assumption) ?_
                    have hz : rbk g p e = none := by
                      rw [rbk, hbh]
                      show (bz g _ (bh_R g e r.1 (p + r.2)).2.2.2.2.1 _ e).map _ = none
                      have hk0 : (bh_R g e r.1 (p + r.2)).2.2.2.2.1 = 0 := by
                        show (if g (p + r.2 + 2) / 2 % 4 = 0 then 1 else if p + r.2 + 3 < e then g (p + r.2 + 3) + 1 else 0) = 0
                        rw [if_neg (fun z => c191 (by rw [hla, z]; decide)), if_neg (fun z => absurd ((nI_leI (by omega) (by omega)).mp c199) (by omega))]
                      rw [hk0, bz, if_pos (Or.inl (by decide))]; rfl
                    rw [hz]
                    exact ⟨_, _, _, hM, hw0 ▸ hs, fun J hJ => hIr J (fun z => hJ (by simp at z ⊢; omega)), ((((lo.rf.st (c := 123) (by decide) (by rw [lo.i1 123 (by decide)]; exact Nat.le_refl _)).st (c := 124) (by decide) (by rw [lo.i1 124 (by decide)]; exact Nat.le_refl _)).st (c := 125) (by decide) (by rw [lo.i1 125 (by decide)]; exact Nat.le_refl _)).st (c := 126) (by decide) (by rw [lo.i1 126 (by decide)]; exact Nat.le_refl _)), rfl, rfl, rfl, hIr 1 (by decide)⟩
                  · have hlt : p + r.2 + 3 < e := Nat.lt_of_not_le (fun z => c199 (nI_le z (by omega)))
                    have hgk := hg.2 (p + r.2 + 3) (by omega)
                    have h132 : A.1 132 (p + r.2 + 3) = nI (g (p + r.2 + 3)) := hgk.1
                    refine q_aload hX 0 d_Mo_readBlock_202 rfl (by first | rfl | assumption) ?_
                    refine r_getf hX d_Mo_readBlock_203 fl_Mo_54 hM.1 rfl ?_
                    refine q_aload hX 0 d_Mo_readBlock_206 rfl (by first | rfl | assumption) ?_
                    refine r_getm (J := 7) (x := nI (p + r.2 + 3)) hX d_Mo_readBlock_207 fl_Mo_115 hM har rfl ?_
                    refine r_ialdm (c := 132) (x := nI (g (p + r.2 + 3))) hX d_Mo_readBlock_210 hM rfl rfl (by omega) h132 ?_
                    refine r_bipush (v := 7) hX d_Mo_readBlock_211 (by decide) ?_
                    refine r_icmp_le hX 218 d_Mo_readBlock_213 (by decide) (fun c213 => ?_) (fun c213 => ?_)
                    · refine q_aload hX 0 d_Mo_readBlock_218 rfl (by first | rfl | assumption) ?_
                      refine r_getf hX d_Mo_readBlock_219 fl_Mo_54 hM.1 rfl ?_
                      refine q_aload hX 0 d_Mo_readBlock_222 rfl (by first | rfl | assumption) ?_
                      refine r_getm (J := 7) (x := nI (p + r.2 + 3)) hX d_Mo_readBlock_223 fl_Mo_115 hM har rfl ?_
                      refine r_ialdm (c := 132) (x := nI (g (p + r.2 + 3))) hX d_Mo_readBlock_226 hM rfl rfl (by omega) h132 ?_
                      refine r_iconst (v := 1) hX d_Mo_readBlock_227 (by decide) ?_
                      refine r_iadd hX d_Mo_readBlock_228 ?_
                      rw [nI_1]
                      refine r_istore hX d_Mo_readBlock_229 (by decide) ?_
                      refine q_aload hX 0 d_Mo_readBlock_231 rfl (by first | rfl | assumption) ?_
                      refine r_dup hX d_Mo_readBlock_232 rfl ?_
                      refine r_getm (J := 7) (x := nI (p + r.2 + 3)) hX d_Mo_readBlock_233 fl_Mo_115 hM har rfl ?_
                      refine r_iconst (v := 1) hX d_Mo_readBlock_236 (by decide) ?_
                      refine r_iadd hX d_Mo_readBlock_237 ?_
                      rw [nI_1]
                      refine r_putm (J := 7) hX d_Mo_readBlock_238 fp_Mo_115 hM hs rfl rfl (Nat.le_of_ble_eq_true rfl) rfl (fun w hM hs => ?_)
                      have hne0 : ¬ g (p + r.2 + 2) / 2 % 4 = 0 := fun z => c191 (by rw [hla, z]; decide)
                      have h7 : g (p + r.2 + 3) ≤ 7 := (nI_leI (b := 7) (by omega) (by decide)).mp c213
                      refine go3 (g (p + r.2 + 3) + 1) (p + r.2 + 4) _ _ _ w _ hbh ?_ (by omega) (by omega) (by omega) (by omega) hM hs (hIr.u (by simp)) rfl rfl l0 l1 (by show some (Value.int (nI _)) = _; rw [hla]) rfl
                      show (r.1, bh_t g (p + r.2), decide (128 ≤ g (p + r.2 + 2)), g (p + r.2 + 2) / 2 % 4, (if g (p + r.2 + 2) / 2 % 4 = 0 then 1 else if p + r.2 + 3 < e then g (p + r.2 + 3) + 1 else 0), (if g (p + r.2 + 2) / 2 % 4 = 0 then p + r.2 + 3 else if p + r.2 + 3 < e then p + r.2 + 4 else p + r.2 + 3)) = _
                      rw [if_neg hne0, if_neg hne0, if_pos hlt, if_pos hlt]
                    · refine r_iconst (v := 0) hX d_Mo_readBlock_216 (by decide) ?_
                      refine r_iret hX hR d_Mo_readBlock_217 rfl (by first | rfl | assumption) ?_
                      have hz : rbk g p e = none := by
                        rw [rbk, hbh]
                        show (bz g _ (bh_R g e r.1 (p + r.2)).2.2.2.2.1 _ e).map _ = none
                        have hk0 : (bh_R g e r.1 (p + r.2)).2.2.2.2.1 = g (p + r.2 + 3) + 1 := by
                          show (if g (p + r.2 + 2) / 2 % 4 = 0 then 1 else if p + r.2 + 3 < e then g (p + r.2 + 3) + 1 else 0) = _
                          rw [if_neg (fun z => c191 (by rw [hla, z]; decide)), if_pos hlt]
                        rw [hk0, bz, if_pos (Or.inr (by have h7 : ¬ g (p + r.2 + 3) ≤ 7 := fun z => c213 (nI_le (b := 7) z (by decide))
                                                        omega))]; rfl
                      rw [hz]
                      exact ⟨_, _, _, hM, hw0 ▸ hs, fun J hJ => hIr J (fun z => hJ (by simp at z ⊢; omega)), ((((lo.rf.st (c := 123) (by decide) (by rw [lo.i1 123 (by decide)]; exact Nat.le_refl _)).st (c := 124) (by decide) (by rw [lo.i1 124 (by decide)]; exact Nat.le_refl _)).st (c := 125) (by decide) (by rw [lo.i1 125 (by decide)]; exact Nat.le_refl _)).st (c := 126) (by decide) (by rw [lo.i1 126 (by decide)]; exact Nat.le_refl _)), rfl, rfl, rfl, hIr 1 (by decide)⟩
              · refine r_iconst (v := 0) hX d_Mo_readBlock_184 (by decide) ?_
                refine r_iret hX hR d_Mo_readBlock_185 rfl (by first | rfl | assumption) ?_
                have hz : rbk g p e = none := by
                  have hb : bh g p e = none := by rw [bh, hv]; dsimp only; rw [if_neg (fun z => by have h := z.2.2.2; have h3 : ¬ g (p + r.2 + 2) % 128 / 2 ≤ 3 := fun y => c181 (nI_le (b := 3) y (by decide)); omega)]
                  rw [rbk, hb]
                rw [hz]
                exact ⟨_, _, _, hM, hw0 ▸ hs, fun J hJ => hIr J (fun z => hJ (by simp at z ⊢; omega)), ((((lo.rf.st (c := 123) (by decide) (by rw [lo.i1 123 (by decide)]; exact Nat.le_refl _)).st (c := 124) (by decide) (by rw [lo.i1 124 (by decide)]; exact Nat.le_refl _)).st (c := 125) (by decide) (by rw [lo.i1 125 (by decide)]; exact Nat.le_refl _)).st (c := 126) (by decide) (by rw [lo.i1 126 (by decide)]; exact Nat.le_refl _)), rfl, rfl, rfl, hIr 1 (by decide)⟩
          have go1 : ∀ (Ir : Nat → Int32) (vr : Int64) (w1 : Ev_W) (ls : Ev_L), is_M w1 Ir vr (aset (aset A 123 n (nI r.1)) 124 n (bh_t g (p + r.2))) → mo_sm w0 w1 → i_but I Ir [7, 8, 9] → Ir 7 = nI (p + r.2) → ls.1 0 = some (.ref 117) → ls.1 1 = some (.int (nI e)) → ev_W G M_Mo_readBlock X 0 0 106 ls [] w1 := by
            intro Ir vr w ls hM hs hIr har l0 l1
            have h32f : (aset (aset A 123 n (nI r.1)) 124 n (bh_t g (p + r.2))).1 132 (p + r.2 + 2) = nI (g (p + r.2 + 2)) := hgf.1
            refine q_aload hX 0 d_Mo_readBlock_106 rfl (by first | rfl | assumption) ?_
            refine r_getf hX d_Mo_readBlock_107 fl_Mo_54 hM.1 rfl ?_
            refine q_aload hX 0 d_Mo_readBlock_110 rfl (by first | rfl | assumption) ?_
            refine r_getm (J := 7) (x := nI (p + r.2)) hX d_Mo_readBlock_111 fl_Mo_115 hM har rfl ?_
            refine r_iconst (v := 2) hX d_Mo_readBlock_114 (by decide) ?_
            refine r_iadd hX d_Mo_readBlock_115 ?_
            refine r_ialdm (c := 132) (x := nI (g (p + r.2 + 2))) hX d_Mo_readBlock_116 hM rfl (j := p + r.2 + 2) (by rw [show (2 : Int32) = nI 2 from rfl, nI_add]) (by omega) h32f ?_
            refine r_istore hX d_Mo_readBlock_117 (by decide) ?_
            refine q_aload hX 0 d_Mo_readBlock_119 rfl (by first | rfl | assumption) ?_
            refine q_aload hX 0 d_Mo_readBlock_120 rfl (by first | rfl | assumption) ?_
            refine r_getm (J := 7) (x := nI (p + r.2)) hX d_Mo_readBlock_121 fl_Mo_115 hM har rfl ?_
            refine r_iconst (v := 3) hX d_Mo_readBlock_124 (by decide) ?_
            refine r_iadd hX d_Mo_readBlock_125 ?_
            rw [show (3 : Int32) = nI 3 from rfl, nI_add]
            refine r_putm (J := 7) hX d_Mo_readBlock_126 fp_Mo_115 hM hs rfl rfl (Nat.le_of_ble_eq_true rfl) rfl (fun w hM hs => ?_)
            refine q_aload hX 0 d_Mo_readBlock_129 rfl (by first | rfl | assumption) ?_
            refine r_getf hX d_Mo_readBlock_130 fl_Mo_32 hM.1 rfl ?_
            refine q_aload hX 0 d_Mo_readBlock_133 rfl (by first | rfl | assumption) ?_
            refine r_getm (J := 0) (x := nI n) hX d_Mo_readBlock_134 fl_Mo_86 hM ((hIr 0 (by decide)).trans hcn) rfl ?_
            refine r_iload hX d_Mo_readBlock_137 (by first | rfl | assumption) ?_
            refine r_bipush (v := 127) hX d_Mo_readBlock_139 (by decide) ?_
            refine r_icmp_le hX 148 d_Mo_readBlock_141 (by decide) (fun c141 => ?_) (fun c141 => ?_)
            · refine r_iconst (v := 0) hX d_Mo_readBlock_148 (by decide) ?_
              refine r_zastm (c := 125) hX d_Mo_readBlock_149 hM hs rfl rfl (by omega) (by first | exact Or.inl rfl | exact Or.inr rfl) (fun w hM hs => ?_)
              exact go2 _ _ w _ (by rw [show b_i (decide (128 ≤ g (p + r.2 + 2))) = 0 from by rw [decide_eq_false (by have := (nI_leI (b := 127) (by omega) (by decide)).mp c141; omega)]; rfl]; exact hM) hs (hIr.u (by simp)) rfl l0 l1 rfl
            · refine r_iconst (v := 1) hX d_Mo_readBlock_144 (by decide) ?_
              refine r_goto hX 149 d_Mo_readBlock_145 (by decide) ?_
              refine r_zastm (c := 125) hX d_Mo_readBlock_149 hM hs rfl rfl (by omega) (by first | exact Or.inl rfl | exact Or.inr rfl) (fun w hM hs => ?_)
              exact go2 _ _ w _ (by rw [show b_i (decide (128 ≤ g (p + r.2 + 2))) = 1 from by rw [decide_eq_true (by have h : ¬ g (p + r.2 + 2) ≤ 127 := fun z => c141 (nI_le (b := 127) z (by decide)); omega)]; rfl]; exact hM) hs (hIr.u (by simp)) rfl l0 l1 rfl
          have h32q : (aset A 123 n (nI r.1)).1 132 (p + r.2) = nI (g (p + r.2)) := hgq.1
          have h32q1 : (aset A 123 n (nI r.1)).1 132 (p + r.2 + 1) = nI (g (p + r.2 + 1)) := hgq1.1
          have hbt : (nI (g (p + r.2) * 256 + g (p + r.2 + 1))).toInt16.toInt32 = bh_t g (p + r.2) := by
            rw [bh_t]
            show _ = (nI ((0 * 256 + g (p + r.2 + 0)) * 256 + g (p + r.2 + 1))).toInt16.toInt32
            rw [Nat.zero_mul, Nat.zero_add]; rfl
          refine q_aload hX 0 d_Mo_readBlock_56 rfl (by first | rfl | assumption) ?_
          refine r_getf hX d_Mo_readBlock_57 fl_Mo_54 hM.1 rfl ?_
          refine q_aload hX 0 d_Mo_readBlock_60 rfl (by first | rfl | assumption) ?_
          refine r_getm (J := 7) (x := nI (p + r.2)) hX d_Mo_readBlock_61 fl_Mo_115 hM rfl rfl ?_
          refine r_ialdm (c := 132) (x := nI (g (p + r.2))) hX d_Mo_readBlock_64 hM rfl rfl (by omega) h32q ?_
          refine q_istore hX 3 d_Mo_readBlock_65 rfl (by decide) ?_
          refine q_aload hX 0 d_Mo_readBlock_66 rfl (by first | rfl | assumption) ?_
          refine r_getf hX d_Mo_readBlock_67 fl_Mo_29 hM.1 rfl ?_
          refine q_aload hX 0 d_Mo_readBlock_70 rfl (by first | rfl | assumption) ?_
          refine r_getm (J := 0) (x := nI n) hX d_Mo_readBlock_71 fl_Mo_86 hM hcn rfl ?_
          refine q_iload hX 3 d_Mo_readBlock_74 rfl (by first | rfl | assumption) ?_
          refine r_bipush (v := 127) hX d_Mo_readBlock_75 (by decide) ?_
          refine r_icmp_le hX 88 d_Mo_readBlock_77 (by decide) (fun c77 => ?_) (fun c77 => ?_)
          · refine q_iload hX 3 d_Mo_readBlock_88 rfl (by first | rfl | assumption) ?_
            refine r_sipush (v := 256) hX d_Mo_readBlock_89 (by decide) ?_
            refine r_imul hX d_Mo_readBlock_92 ?_
            refine q_aload hX 0 d_Mo_readBlock_93 rfl (by first | rfl | assumption) ?_
            refine r_getf hX d_Mo_readBlock_94 fl_Mo_54 hM.1 rfl ?_
            refine q_aload hX 0 d_Mo_readBlock_97 rfl (by first | rfl | assumption) ?_
            refine r_getm (J := 7) (x := nI (p + r.2)) hX d_Mo_readBlock_98 fl_Mo_115 hM rfl rfl ?_
            refine r_iconst (v := 1) hX d_Mo_readBlock_101 (by decide) ?_
            refine r_iadd hX d_Mo_readBlock_102 ?_
            refine r_ialdm (c := 132) (x := nI (g (p + r.2 + 1))) hX d_Mo_readBlock_103 hM rfl (j := p + r.2 + 1) (by rw [nI_1]) (by omega) h32q1 ?_
            refine r_iadd hX d_Mo_readBlock_104 ?_
            first
              | rw [tm_lo ((nI_leI (b := 127) (by omega) (by decide)).mp c77) hgq1.2]
              | rw [tm_hi (Nat.lt_of_not_le (fun z => c77 (nI_le (b := 127) z (by decide)))) hgq.2 hgq1.2]
            rw [hbt]
            refine r_iastm (c := 124) hX d_Mo_readBlock_105 hM hs rfl rfl (by omega) (fun w hM hs => ?_)
            exact go1 _ _ w _ hM hs (rv_I_but _ _ _) rfl rfl rfl
          · refine q_iload hX 3 d_Mo_readBlock_80 rfl (by first | rfl | assumption) ?_
            refine r_sipush (v := 256) hX d_Mo_readBlock_81 (by decide) ?_
            refine r_isub hX d_Mo_readBlock_84 ?_
            refine r_goto hX 89 d_Mo_readBlock_85 (by decide) ?_
            refine r_sipush (v := 256) hX d_Mo_readBlock_89 (by decide) ?_
            refine r_imul hX d_Mo_readBlock_92 ?_
            refine q_aload hX 0 d_Mo_readBlock_93 rfl (by first | rfl | assumption) ?_
            refine r_getf hX d_Mo_readBlock_94 fl_Mo_54 hM.1 rfl ?_
            refine q_aload hX 0 d_Mo_readBlock_97 rfl (by first | rfl | assumption) ?_
            refine r_getm (J := 7) (x := nI (p + r.2)) hX d_Mo_readBlock_98 fl_Mo_115 hM rfl rfl ?_
            refine r_iconst (v := 1) hX d_Mo_readBlock_101 (by decide) ?_
            refine r_iadd hX d_Mo_readBlock_102 ?_
            refine r_ialdm (c := 132) (x := nI (g (p + r.2 + 1))) hX d_Mo_readBlock_103 hM rfl (j := p + r.2 + 1) (by rw [nI_1]) (by omega) h32q1 ?_
            refine r_iadd hX d_Mo_readBlock_104 ?_
            first
              | rw [tm_lo ((nI_leI (b := 127) (by omega) (by decide)).mp c77) hgq1.2]
              | rw [tm_hi (Nat.lt_of_not_le (fun z => c77 (nI_le (b := 127) z (by decide)))) hgq.2 hgq1.2]
            rw [hbt]
            refine r_iastm (c := 124) hX d_Mo_readBlock_105 hM hs rfl rfl (by omega) (fun w hM hs => ?_)
            exact go1 _ _ w _ hM hs (rv_I_but _ _ _) rfl rfl rfl
        · refine r_iconst (v := 0) hX d_Mo_readBlock_40 (by decide) ?_
          refine r_iret hX hR d_Mo_readBlock_41 rfl (by first | rfl | assumption) ?_
          have hz : rbk g p e = none := by
            have hb : bh g p e = none := by rw [bh, hv]; dsimp only; rw [if_neg (fun z => by have := z.2.2.1; exact c37 (nI_le (a := 3) (by omega) (by omega)))]
            rw [rbk, hb]
          rw [hz]
          exact ⟨_, _, _, hM, hw0 ▸ hs, i_but.wk (rv_I_but _ _ _), lo.rf, rfl, rfl, rfl, rfl⟩
