/-! ===== the reference: readElement ===== -/
def re_post (w : Ev_W) (I : Nat → Int32) (A : Ev_A) (n sd c : Nat) (R : Int32 ⊕ Ev_RS) (v : Option Value) (w' : Ev_W) : Prop := match R with
  | .inl x => v = some (.int x) ∧ ¬ x = 0 ∧ ∃ I' v' A', is_M w' I' v' A' ∧ mo_sm w w' ∧ r_keep I I' A A' ∧ I' 1 = I 1 ∧ ∀ y, y < sd → A'.1 129 y = A.1 129 y
  | .inr T => v = some (.int 0) ∧ ∃ I' v' A' D' k', is_M w' I' v' A' ∧ mo_sm w w' ∧ r_keep I I' A A' ∧ mdl I' A' T.1 D' T.2.1 T.2.2.1 ∧ I' 7 = nI T.2.2.2.2 ∧ I' 10 = nI k' ∧ k' ≤ 2 ∧ stk A' (sE T.1) (si T.1) c k' T.2.2.2.1 ∧ is_tl (sn T.1) (sE T.1) T.2.2.2.1 ∧ T.2.2.1 ≤ T.2.2.2.2 ∧ T.2.2.2.2 ≤ rd_e1 (sE T.1) c T.2.2.2.1 ∧ sn T.1 = n + 1
theorem lfd_me {g : Nat → Nat} {p e me me' : Nat} {fm : Int32} (h : fm = 4 → me = me') : lfd g p e me fm = lfd g p e me' fm := by
  unfold lfd
  by_cases z : fm = 4
  · rw [h z]
  · rw [if_neg z, if_neg z]
theorem lfd_q {g : Nat → Nat} {p e me sd : Nat} {fm : Int32} {l : Ev_Lf} (hg : ∀ i, i < e → g i < 256) (hpe : p ≤ e) (hsp : sd ≤ p) (h : lfd g p e me fm = some l) : sd ≤ lf_sd sd e l ∧ lf_sd sd e l ≤ e := by
  have hn : l.2.2.2 = none → sd ≤ lf_sd sd e l ∧ lf_sd sd e l ≤ e := fun z => by unfold lf_sd; rw [z]; exact ⟨Nat.le_refl _, by dsimp only; omega⟩
  have hs : ∀ q, l.2.2.2 = some q → p ≤ q → q ≤ e → sd ≤ lf_sd sd e l ∧ lf_sd sd e l ≤ e := fun q z z1 z2 => by unfold lf_sd; rw [z]; dsimp only; omega
  unfold lfd at h
  split at h
  · split at h
    · cases h; exact hn rfl
    · cases h
  · split at h
    · cases ht : tx g (e - p) p false 0 with
      | none => rw [ht] at h; cases h
      | some t => rw [ht] at h; cases h; exact hn rfl
    · split at h
      · cases hb : bh g p e with
        | none => rw [hb] at h; cases h
        | some R =>
          rw [hb] at h
          dsimp only at h
          have hbi := bh_in hb hg
          cases hz : bz g R.2.2.2.1 R.2.2.2.2.1 R.2.2.2.2.2 e with
          | none => rw [hz] at h; cases h
          | some q =>
            rw [hz] at h
            have hsum := bz_sum hbi.2.2.2.2.2.2 hz
            cases h
            exact hs q.2 rfl (by omega) hsum.2.2
      · split at h
        · split at h
          · cases h; exact hn rfl
          · cases h
        · split at h
          · cases h; exact hs p rfl (Nat.le_refl _) hpe
          · cases h; exact hn rfl
def mo_fit (S : Ev_S) (s : Nat) (o : Option Nat) : Bool := match o with
  | none => so_fits s 1
  | some j => so_fits s (so_in (sE S j).1)
theorem mo_fit_eq {I : Nat → Int32} {A : Ev_A} {S : Ev_S} {D : Nat → Ev_D} {sf : Nat → Int32} {sd : Nat} (hm : mdl I A S D sf sd) {o : Option Nat} (ho : ∀ j, o = some j → j < sn S) (s : Nat) : mo_st s (mo_mt A o) = mo_fit S s o := by
  cases o with
  | none => show mo_st s 0 = so_fits s 1; rw [mo_st, if_pos rfl]
  | some j =>
    have hr := hm.2.2.2.2.2.2.1 j (ho j rfl)
    show mo_st s (A.1 118 j) = so_fits s (so_in (sE S j).1)
    rw [hr.2.1.1, mo_st, if_neg (fun z => by have h := hr.1.2.1; rw [z] at h; exact absurd h (by decide)), ← hr.1.1]
theorem mo_fit_may {S : Ev_S} {s : Nat} {o : Option Nat} (h : mk_may (sE S) (sn S) s o = true) : mo_fit S s o = true := by
  cases o with
  | none => exact h
  | some j => exact (Bool.and_eq_true _ _ ▸ h).1
set_option maxHeartbeats 2000000 in
theorem c_Mo_readElement {G : Ev_G} {w : Ev_W} {I : Nat → Int32} {v0 : Int64} {A : Ev_A} (hM : is_M w I v0 A) {S : Ev_S} {D : Nat → Ev_D} {sf : Nat → Int32} {sd : Nat} (hm : mdl I A S D sf sd) {c : Nat} {g : Nat → Nat} (hg : rd_g c (A.1 132) g) {p k0 : Nat} {ms o0 : Option Nat} (hat : I 7 = nI p) (hpc : p < c) (hdp : I 10 = nI k0) (hk2 : k0 ≤ 2) (hst : stk A (sE S) (si S) c k0 o0) (ho : o0 = pop1 (sE S) (si S) p 61 ms) (htl : is_tl (sn S) (sE S) o0) (hsp : sd ≤ p) : ev_Met G M_Mo_readElement 6 0 0 [.ref 117] w (re_post w I A (sn S) sd c (rd_1 c g S sf sd ms p)) := by
  refine ev_Met.of md_Mo_readElement (Nat.le_of_ble_eq_true rfl) (fun X hX hR => ?_)
  obtain ⟨hc, hn, hu, hsd, hpo, hpl, hrow, hhp⟩ := id hm
  have hc6 := hg.1
  have hgp := (hg.2 p hpc).2
  obtain ⟨w0, hw0⟩ : ∃ w0, w0 = w := ⟨_, rfl⟩
  have hs : mo_sm w0 w := by rw [hw0]; exact mo_sm.rf
  obtain ⟨q, hqd⟩ : ∃ q, q = p + vl (g p) := ⟨_, rfl⟩
  obtain ⟨t, htd⟩ : ∃ t, t = nI (nb g p (vl (g p))) := ⟨_, rfl⟩
  obtain ⟨s, hso⟩ : ∃ s, s = so_of t := ⟨_, rfl⟩
  obtain ⟨e, hed⟩ : ∃ e, e = rd_e1 (sE S) c o0 := ⟨_, rfl⟩
  have hec : e ≤ c := by rw [hed]; exact hst.top.2.2
  by_cases h16 : g p < 16
  · have hX2 := hX
    refine q_aload hX 0 d_Mo_readElement_0 rfl (by first | rfl | assumption) ?_
    refine q_aload hX 0 d_Mo_readElement_1 rfl (by first | rfl | assumption) ?_
    refine r_getf hX d_Mo_readElement_2 fl_Mo_67 hM.1 rfl ?_
    refine q_aload hX 0 d_Mo_readElement_5 rfl (by first | rfl | assumption) ?_
    refine r_getm (J := 10) (x := nI k0) hX d_Mo_readElement_6 fl_Mo_132 hM hdp rfl ?_
    refine r_ialdm (c := 135) (x := nI e) hX d_Mo_readElement_9 hM rfl rfl (by omega) (by rw [hed]; exact hst.top.2.1) ?_
    refine r_callV (as := [_]) hX d_Mo_readElement_10 lk_Mo_171 hM.1 rfl rfl (Nat.le_of_ble_eq_true rfl) (by decide) 0 0 (Nat.le_refl _) (Nat.le_refl _) (c_Mo_readId (G := G) hM hg hat hec hpc) (fun v w hq => ?_)
    rcases hq with ⟨_, rfl, rfl⟩ | ⟨z, _⟩ | ⟨z, _⟩
    · refine q_istore hX 1 d_Mo_readElement_13 rfl (by decide) ?_
      refine q_iload hX 1 d_Mo_readElement_14 rfl (by first | rfl | assumption) ?_
      refine r_if_ge hX 20 d_Mo_readElement_15 (by decide) (fun c15 => absurd c15 (by decide)) (fun _ => ?_)
      refine q_iload hX 1 d_Mo_readElement_18 rfl (by first | rfl | assumption) ?_
      refine r_iret hX hR d_Mo_readElement_19 rfl (by first | rfl | assumption) ?_
      have hR : rd_1 c g S sf sd ms p = .inl (-3) := by unfold rd_1; rw [if_pos h16]
      rw [hR]
      exact ⟨rfl, by decide, _, _, _, hM, hw0 ▸ hs, ⟨i_but.rf, fun _ _ _ _ _ => rfl⟩, rfl, fun _ _ => rfl⟩
    · exact absurd h16 z
    · exact absurd h16 z
  by_cases hpe : ¬ p + vl (g p) ≤ e
  · have hX2 := hX
    refine q_aload hX 0 d_Mo_readElement_0 rfl (by first | rfl | assumption) ?_
    refine q_aload hX 0 d_Mo_readElement_1 rfl (by first | rfl | assumption) ?_
    refine r_getf hX d_Mo_readElement_2 fl_Mo_67 hM.1 rfl ?_
    refine q_aload hX 0 d_Mo_readElement_5 rfl (by first | rfl | assumption) ?_
    refine r_getm (J := 10) (x := nI k0) hX d_Mo_readElement_6 fl_Mo_132 hM hdp rfl ?_
    refine r_ialdm (c := 135) (x := nI e) hX d_Mo_readElement_9 hM rfl rfl (by omega) (by rw [hed]; exact hst.top.2.1) ?_
    refine r_callV (as := [_]) hX d_Mo_readElement_10 lk_Mo_171 hM.1 rfl rfl (Nat.le_of_ble_eq_true rfl) (by decide) 0 0 (Nat.le_refl _) (Nat.le_refl _) (c_Mo_readId (G := G) hM hg hat hec hpc) (fun v w hq => ?_)
    rcases hq with ⟨z, _⟩ | ⟨_, _, rfl, rfl⟩ | ⟨_, z, _⟩
    · exact absurd z h16
    · refine q_istore hX 1 d_Mo_readElement_13 rfl (by decide) ?_
      refine q_iload hX 1 d_Mo_readElement_14 rfl (by first | rfl | assumption) ?_
      refine r_if_ge hX 20 d_Mo_readElement_15 (by decide) (fun c15 => absurd c15 (by decide)) (fun _ => ?_)
      refine q_iload hX 1 d_Mo_readElement_18 rfl (by first | rfl | assumption) ?_
      refine r_iret hX hR d_Mo_readElement_19 rfl (by first | rfl | assumption) ?_
      have hR : rd_1 c g S sf sd ms p = .inl (-2) := by unfold rd_1; rw [if_neg h16, ← ho, if_pos (by rw [← hed]; omega)]
      rw [hR]
      exact ⟨rfl, by decide, _, _, _, hM, hw0 ▸ hs, ⟨i_but.rf, fun _ _ _ _ _ => rfl⟩, rfl, fun _ _ => rfl⟩
    · exact absurd z hpe
  have hpe : p + vl (g p) ≤ e := Decidable.not_not.mp hpe
  have hnb := nb_tag (g := g) (p := p) (fun i _ h1 h2 => (hg.2 i (by omega)).2) hgp h16
  have htag : 0 < t.toInt := by rw [htd, nI_toInt hnb.2]; omega
  have hq6 : q ≤ 640 := by omega
  have hA : ¬ mk_may (sE S) (sn S) s (pop2 (sE S) (si S) s 61 o0) = true → rd_1 c g S sf sd ms p = .inl (-4) := fun z => by
    subst hqd; subst hso; subst htd; subst hed
    unfold rd_1; rw [if_neg h16, ← ho, if_neg (by omega), if_pos z]
  have hB : mk_may (sE S) (sn S) s (pop2 (sE S) (si S) s 61 o0) = true → ¬ rs_c g q e s (sn S) = 0 → rd_1 c g S sf sd ms p = .inl (rs_c g q e s (sn S)) := fun z z2 => by
    subst hqd; subst hso; subst htd; subst hed
    unfold rd_1; rw [if_neg h16, ← ho, if_neg (by omega), if_neg (fun y => y z), if_pos z2]
  have hC : mk_may (sE S) (sn S) s (pop2 (sE S) (si S) s 61 o0) = true → rs_c g q e s (sn S) = 0 → ∀ r, vi g q e = some r → rd_1 c g S sf sd ms p = rd_2 g S sf sd (pop2 (sE S) (si S) s 61 o0) t (q + r.2) (rs_e q e r) (vi_full r) := fun z z2 r hr => by
    subst hqd; subst hso; subst htd; subst hed
    unfold rd_1; rw [if_neg h16, ← ho, if_neg (by omega), if_neg (fun y => y z), if_neg (fun y => y z2), hr]
  have KJ : ∀ k, i_but I (upd (upd I 7 (nI q)) 10 (nI k)) [0, 1, 7, 8, 9, 10] := fun k => (i_but.rf.u (by simp)).u (by simp)
  have go117 : ∀ (k : Nat) (o : Option Nat) (r : Nat × Nat) (w1 : Ev_W) (ls : Ev_L), k ≤ 2 → stk A (sE S) (si S) c k o → is_tl (sn S) (sE S) o → rd_e1 (sE S) c o = e → mo_fit S s o = true → vi g q e = some r → q + r.2 ≤ rs_e q e r → rs_e q e r ≤ e → sn S < 60 → (∀ r, vi g q e = some r → rd_1 c g S sf sd ms p = rd_2 g S sf sd o t (q + r.2) (rs_e q e r) (vi_full r)) → is_M w1 (rv_I (upd (upd I 7 (nI q)) 10 (nI k)) q r) (lN (rs_e q e r - (q + r.2))) A → mo_sm w0 w1 → ls.1 0 = some (.ref 117) → ls.1 1 = some (.int t) → ev_W G M_Mo_readElement X 0 0 117 ls [] w1 := by
    intro k o r w ls hk2 hst htl he hfit hv hre1 hre2 hn60 hrd hM hs l0 l1
    have htop := hst.top
    have hoj : ∀ j, o = some j → j < sn S := fun j hj => (htl j hj).1
    have hmk := htl.end hn hpo
    have hu1 : I 1 = nI sd := hu
    refine q_aload hX 0 d_Mo_readElement_117 rfl (by first | rfl | assumption) ?_
    refine r_getm (J := 9) (x := b_i (vi_full r)) hX d_Mo_readElement_118 fl_Mo_128 hM rfl rfl ?_
    refine q_istore hX 3 d_Mo_readElement_121 rfl (by decide) ?_
    refine q_aload hX 0 d_Mo_readElement_122 rfl (by first | rfl | assumption) ?_
    refine r_getm (J := 7) (x := nI (q + r.2)) hX d_Mo_readElement_123 fl_Mo_115 hM rfl rfl ?_
    refine q_aload hX 0 d_Mo_readElement_126 rfl (by first | rfl | assumption) ?_
    refine r_getf hX d_Mo_readElement_127 fl_Mo_124 hM.1 rfl ?_
    refine r_l2i hX d_Mo_readElement_130 ?_
    rw [lN_i]
    refine r_iadd hX d_Mo_readElement_131 ?_
    rw [nI_add, show q + r.2 + (rs_e q e r - (q + r.2)) = rs_e q e r by omega]
    refine r_istore hX d_Mo_readElement_132 (by decide) ?_
    refine q_aload hX 0 d_Mo_readElement_134 rfl (by first | rfl | assumption) ?_
    refine r_getf hX d_Mo_readElement_135 fl_Mo_7 hM.1 rfl ?_
    refine q_aload hX 0 d_Mo_readElement_138 rfl (by first | rfl | assumption) ?_
    refine r_getm (J := 0) (x := nI (sn S)) hX d_Mo_readElement_139 fl_Mo_86 hM hc rfl ?_
    refine q_iload hX 1 d_Mo_readElement_142 rfl (by first | rfl | assumption) ?_
    refine r_iastm (c := 118) hX d_Mo_readElement_143 hM hs rfl rfl (by omega) (fun w hM hs => ?_)
    refine q_aload hX 0 d_Mo_readElement_144 rfl (by first | rfl | assumption) ?_
    refine r_getf hX d_Mo_readElement_145 fl_Mo_13 hM.1 rfl ?_
    refine q_aload hX 0 d_Mo_readElement_148 rfl (by first | rfl | assumption) ?_
    refine r_getm (J := 0) (x := nI (sn S)) hX d_Mo_readElement_149 fl_Mo_86 hM hc rfl ?_
    refine q_aload hX 0 d_Mo_readElement_152 rfl (by first | rfl | assumption) ?_
    refine r_getf hX d_Mo_readElement_153 fl_Mo_64 hM.1 rfl ?_
    refine q_aload hX 0 d_Mo_readElement_156 rfl (by first | rfl | assumption) ?_
    refine r_getm (J := 10) (x := nI k) hX d_Mo_readElement_157 fl_Mo_132 hM rfl rfl ?_
    refine r_ialdm (c := 134) (x := o_i o) hX d_Mo_readElement_160 hM rfl rfl (by omega) ((congrFun (aset_ne _ _ _ (by decide)) _).trans htop.1) ?_
    refine r_iastm (c := 119) hX d_Mo_readElement_161 hM hs rfl rfl (by omega) (fun w hM hs => ?_)
    refine q_aload hX 0 d_Mo_readElement_162 rfl (by first | rfl | assumption) ?_
    refine r_getf hX d_Mo_readElement_163 fl_Mo_16 hM.1 rfl ?_
    refine q_aload hX 0 d_Mo_readElement_166 rfl (by first | rfl | assumption) ?_
    refine r_getm (J := 0) (x := nI (sn S)) hX d_Mo_readElement_167 fl_Mo_86 hM hc rfl ?_
    refine r_lconst (v := 0) hX d_Mo_readElement_170 (by decide) ?_
    refine r_lastm hX d_Mo_readElement_171 hM hs rfl (by omega) (fun w hM hs => ?_)
    refine q_aload hX 0 d_Mo_readElement_172 rfl (by first | rfl | assumption) ?_
    refine r_getf hX d_Mo_readElement_173 fl_Mo_20 hM.1 rfl ?_
    refine q_aload hX 0 d_Mo_readElement_176 rfl (by first | rfl | assumption) ?_
    refine r_getm (J := 0) (x := nI (sn S)) hX d_Mo_readElement_177 fl_Mo_86 hM hc rfl ?_
    refine r_iconst (v := 0) hX d_Mo_readElement_180 (by decide) ?_
    refine r_iastm (c := 121) hX d_Mo_readElement_181 hM hs rfl rfl (by omega) (fun w hM hs => ?_)
    refine q_iload hX 1 d_Mo_readElement_182 rfl (by first | rfl | assumption) ?_
    refine r_callS (as := [_]) hX d_Mo_readElement_183 lk_Mo_82 rfl (Nat.le_of_ble_eq_true rfl) (by decide) 0 0 (Nat.le_refl _) (Nat.le_refl _) (c_Mo_kindOf (G := G) _) (fun v w1 hq => ?_)
    obtain ⟨rfl, hw⟩ := hq
    rw [hw, ← hso]
    have KB2 : i_but I (rv_I (upd (upd I 7 (nI q)) 10 (nI k)) q r) [0, 1, 7, 8, 9, 10] := fun J hJ => by
      simp only [List.mem_cons, List.not_mem_nil, or_false, not_or] at hJ
      unfold rv_I upd
      simp [hJ]
    by_cases hf0 : so_fm s = 0
    · have hk1 : k ≤ 1 := hst.dep hk2 hoj hpl (fun i j hi hj => by have := ((hpo i hi).2.2.2 j hj).1; omega) (by rw [hso]; exact so_of_lt t) hf0 (fun j hj => by subst hj; exact hfit)
      refine r_if_ne hX 236 d_Mo_readElement_186 (by decide) (fun c186 => absurd hf0 c186) (fun _ => ?_)
      refine q_aload hX 0 d_Mo_readElement_189 rfl (by first | rfl | assumption) ?_
      refine r_dup hX d_Mo_readElement_190 rfl ?_
      refine r_getm (J := 10) (x := nI k) hX d_Mo_readElement_191 fl_Mo_132 hM rfl rfl ?_
      refine r_iconst (v := 1) hX d_Mo_readElement_194 (by decide) ?_
      refine r_iadd hX d_Mo_readElement_195 ?_
      rw [nI_1]
      refine r_putm (J := 10) hX d_Mo_readElement_196 fp_Mo_132 hM hs rfl rfl (Nat.le_of_ble_eq_true rfl) rfl (fun w hM hs => ?_)
      refine q_aload hX 0 d_Mo_readElement_199 rfl (by first | rfl | assumption) ?_
      refine r_getf hX d_Mo_readElement_200 fl_Mo_64 hM.1 rfl ?_
      refine q_aload hX 0 d_Mo_readElement_203 rfl (by first | rfl | assumption) ?_
      refine r_getm (J := 10) (x := nI (k + 1)) hX d_Mo_readElement_204 fl_Mo_132 hM rfl rfl ?_
      refine q_aload hX 0 d_Mo_readElement_207 rfl (by first | rfl | assumption) ?_
      refine r_getm (J := 0) (x := nI (sn S)) hX d_Mo_readElement_208 fl_Mo_86 hM hc rfl ?_
      refine r_iastm (c := 134) hX d_Mo_readElement_211 hM hs rfl (j := k + 1) rfl (by omega) (fun w hM hs => ?_)
      refine q_aload hX 0 d_Mo_readElement_212 rfl (by first | rfl | assumption) ?_
      refine r_getf hX d_Mo_readElement_213 fl_Mo_67 hM.1 rfl ?_
      refine q_aload hX 0 d_Mo_readElement_216 rfl (by first | rfl | assumption) ?_
      refine r_getm (J := 10) (x := nI (k + 1)) hX d_Mo_readElement_217 fl_Mo_132 hM rfl rfl ?_
      refine r_iload hX d_Mo_readElement_220 (by first | rfl | assumption) ?_
      refine r_iastm (c := 135) hX d_Mo_readElement_222 hM hs rfl (j := k + 1) rfl (by omega) (fun w hM hs => ?_)
      refine q_aload hX 0 d_Mo_readElement_223 rfl (by first | rfl | assumption) ?_
      refine r_getf hX d_Mo_readElement_224 fl_Mo_70 hM.1 rfl ?_
      refine q_aload hX 0 d_Mo_readElement_227 rfl (by first | rfl | assumption) ?_
      refine r_getm (J := 10) (x := nI (k + 1)) hX d_Mo_readElement_228 fl_Mo_132 hM rfl rfl ?_
      refine q_iload hX 3 d_Mo_readElement_231 rfl (by first | rfl | assumption) ?_
      refine r_zastm (c := 136) hX d_Mo_readElement_232 hM hs rfl (j := k + 1) rfl (by omega) (by cases vi_full r; exact Or.inl rfl; exact Or.inr rfl) (fun w hM hs => ?_)
      refine r_goto hX 258 d_Mo_readElement_233 (by decide) ?_
      refine q_aload hX 0 d_Mo_readElement_258 rfl (by first | rfl | assumption) ?_
      refine r_dup hX d_Mo_readElement_259 rfl ?_
      refine r_getm (J := 0) (x := nI (sn S)) hX d_Mo_readElement_260 fl_Mo_86 hM hc rfl ?_
      refine r_iconst (v := 1) hX d_Mo_readElement_263 (by decide) ?_
      refine r_iadd hX d_Mo_readElement_264 ?_
      rw [nI_1]
      refine r_putm (J := 0) hX d_Mo_readElement_265 fp_Mo_86 hM hs rfl rfl (Nat.le_of_ble_eq_true rfl) rfl (fun w hM hs => ?_)
      refine r_iconst (v := 0) hX d_Mo_readElement_268 (by decide) ?_
      refine r_iret hX hR d_Mo_readElement_269 rfl (by first | rfl | assumption) ?_
      have hR : rd_1 c g S sf sd ms p = .inr (ad_S S o (rs_E S o t (rs_e q e r) (vi_full r)) (rd_pf S), sf, sd, some (sn S), q + r.2) := by rw [hrd r hv, rd_2, if_pos (by rw [← hso]; exact hf0)]
      rw [hR]
      have hE1 : el_D (rs_E S o t (rs_e q e r) (vi_full r)) (rd_pf S) (0, 0, fun _ => 0, 0) sd := by
        refine ⟨rfl, htag, ?_⟩
        show (so_fm (so_of t) = 2 ∨ so_fm (so_of t) = 3 ∨ so_fm (so_of t) = 5 ∨ so_fm (so_of t) = 6 → _) ∧ (so_fm (so_of t) = 2 → _) ∧ (so_fm (so_of t) = 3 → _) ∧ (so_fm (so_of t) = 6 → _) ∧ (so_fm (so_of t) = 3 ∨ so_fm (so_of t) = 6 → _) ∧ (so_fm (so_of t) = 4 → _)
        rw [← hso, hf0]
        exact ⟨fun z => by simp at z, fun z => by simp at z, fun z => by simp at z, fun z => by simp at z, fun z => by simp at z, fun z => by simp at z⟩
      have hlo : lo A (aset (vset (aset (aset A 118 (sn S) t) 119 (sn S) (o_i o)) (sn S) 0) 121 (sn S) 0) (sn S) sd := (((lo.rf.st (c := 118) (by decide) (by rw [lo.i1 118 (by decide)]; exact Nat.le_refl _)).st (c := 119) (by decide) (by rw [lo.i1 119 (by decide)]; exact Nat.le_refl _)).sv.st (c := 121) (by decide) (by rw [lo.i1 121 (by decide)]; exact Nat.le_refl _))
      refine ⟨rfl, _, _, _, tr_ins (mk_p (sE S) (sn S) o) (sn S) (0, 0, fun _ => 0, 0) D, k + 1, hM, hw0 ▸ hs, ⟨?_, fun x h1 h2 h3 h4 => ?_⟩, ?_, rfl, rfl, by omega, ?_, ?_, by show sd ≤ q + r.2; omega, ?_, rfl⟩
      · exact fun J hJ => by
          simp only [List.mem_cons, List.not_mem_nil, or_false, not_or] at hJ
          unfold rv_I upd
          simp [hJ]
      · rw [aset_ne _ _ _ h4, aset_ne _ _ _ h3, aset_ne _ _ _ h2]; exact hlo.2.1 x h1
      · refine hm.ins hn60 hoj rfl hu1 (Nat.le_refl _) (by omega) (fun i hi => ?_) (fun i h1 h2 => by rw [hmk] at h1; omega) (fun i hi => ?_) hE1 ?_ rfl (by rw [show (rs_E S o t (rs_e q e r) (vi_full r)).1 = so_of t from rfl]; exact so_of_lt t) (fun z => ?_) (fun j hj => ?_) (fun y hy => by exact hhp y hy)
        · rw [hmk] at hi
          exact (show lo A _ (sn S) sd from hlo).c0 hi
        · rw [hmk]
          by_cases z : i = sn S
          · rw [z, miI_at]; simp [aset, vset, upd]
          · rw [miI_lo (by omega)]
            show (aset (vset (aset (aset A 118 (sn S) t) 119 (sn S) (o_i o)) (sn S) 0) 121 (sn S) 0).1 119 i = _
            rw [hlo.1 119 (by decide) i (by rw [lo.i1 119 (by decide)]; omega)]
            exact (hrow i (by omega)).2.2
        · rw [hmk]
          refine ⟨by simp [aset, vset, upd]; rfl, ?_⟩
          show (so_fm (so_of t) = 1 → _) ∧ (so_fm (so_of t) = 2 ∨ so_fm (so_of t) = 3 ∨ so_fm (so_of t) = 5 ∨ so_fm (so_of t) = 6 → _) ∧ (so_fm (so_of t) = 2 → _) ∧ (so_fm (so_of t) = 3 → _) ∧ (so_fm (so_of t) = 6 → _)
          rw [← hso, hf0]
          exact ⟨fun z => by simp at z, fun z => by simp at z, fun z => by simp at z, fun z => by simp at z, fun z => by simp at z⟩
        · subst z; rw [show (rs_E S none t (rs_e q e r) (vi_full r)).1 = so_of t from rfl, ← hso]; exact hfit
        · subst hj; rw [show (rs_E S (some j) t (rs_e q e r) (vi_full r)).1 = so_of t from rfl, ← hso]; exact hfit
      · show stk _ (tr_insE (mk_p (sE S) (sn S) o) (sn S) (rs_E S o t (rs_e q e r) (vi_full r)) (sE S)) (mi_ins (mk_p (sE S) (sn S) o) (sn S) o (si S)) c (k + 1) (some (sn S))
        rw [hmk]
        have hn9 : rd_en (tr_insE (sn S) (sn S) (rs_E S o t (rs_e q e r) (vi_full r)) (sE S)) (sn S) = rs_e q e r := by unfold rd_en; rw [insE_at]; exact nI_clamp (by omega)
        have hn10 : rd_op (tr_insE (sn S) (sn S) (rs_E S o t (rs_e q e r) (vi_full r)) (sE S)) (sn S) = vi_full r := by
          unfold rd_op; rw [insE_at]
          show decide (¬ b_i (vi_full r) = 0) = vi_full r
          cases vi_full r <;> rfl
        have he1' : rd_e1 (tr_insE (sn S) (sn S) (rs_E S o t (rs_e q e r) (vi_full r)) (sE S)) c o = e := by
          rw [← he]
          cases o with
          | none => rfl
          | some j => show rd_en _ j = rd_en _ j; unfold rd_en; rw [insE_lo (hoj j rfl)]
        refine ⟨sn S, rfl, by simp [aset, upd], by rw [hn9]; simp [aset, upd], by rw [hn10]; simp [aset, upd], ?_, fun z => ?_, by rw [hn9]; omega, ?_⟩
        · rw [miI_at, he1', hn9]; omega
        · rw [miI_at, he1', hn9, rs_e, if_pos (by rw [← hn10]; exact z)]
        · rw [miI_at]
          exact stk.cg (n := sn S) (K := k) (fun x hx y hy => by rcases hx with rfl | rfl | rfl <;> simp [aset, vset, upd] <;> omega) (fun j hj => ⟨by rw [insE_lo hj], by rw [insE_lo hj], miI_lo hj⟩) (fun i j hi hj => by have := ((hpo i hi).2.2.2 j hj).1; omega) (Nat.le_refl _) hoj hst
      · show is_tl (sn S + 1) (tr_insE (mk_p (sE S) (sn S) o) (sn S) _ (sE S)) (some (sn S))
        rw [hmk]
        exact (tl_ins hn hpo htl rfl).2
      · show q + r.2 ≤ rd_en (tr_insE (mk_p (sE S) (sn S) o) (sn S) (rs_E S o t (rs_e q e r) (vi_full r)) (sE S)) (sn S)
        rw [hmk]
        unfold rd_en; rw [insE_at]
        show q + r.2 ≤ (nI (rs_e q e r)).toNatClampNeg
        rw [nI_clamp (by omega)]; omega
    · have hfm_c : so_fm s = 1 ∨ so_fm s = 2 ∨ so_fm s = 3 ∨ so_fm s = 4 ∨ so_fm s = 5 ∨ so_fm s = 6 := by
        rcases so_fm_c s (by rw [hso]; exact so_of_lt t) with h | h
        · exact absurd h hf0
        · exact h
      refine r_if_ne hX 236 d_Mo_readElement_186 (by decide) (fun _ => ?_) (fun c186 => absurd c186 hf0)
      refine q_aload hX 0 d_Mo_readElement_236 rfl (by first | rfl | assumption) ?_
      refine q_iload hX 1 d_Mo_readElement_237 rfl (by first | rfl | assumption) ?_
      refine r_callS (as := [_]) hX d_Mo_readElement_238 lk_Mo_82 rfl (Nat.le_of_ble_eq_true rfl) (by decide) 0 0 (Nat.le_refl _) (Nat.le_refl _) (c_Mo_kindOf (G := G) _) (fun v w1 hq => ?_)
      obtain ⟨rfl, hw⟩ := hq
      rw [hw, ← hso]
      refine r_iload hX d_Mo_readElement_241 (by first | rfl | assumption) ?_
      refine r_callV (as := [_, _]) hX d_Mo_readElement_243 lk_Mo_187 hM.1 rfl rfl (Nat.le_of_ble_eq_true rfl) (by decide) 0 0 (Nat.le_refl _) (Nat.le_refl _) (c_Mo_readData (G := G) hM (c := c) (g := g) (show rd_g c ((aset (vset (aset (aset A 118 (sn S) t) 119 (sn S) (o_i o)) (sn S) 0) 121 (sn S) 0).1 132) g from hg) (p := q + r.2) rfl (n := sn S) hc (by omega) (sd := sd) (e := rs_e q e r) (me := e) (k := k) hu (by omega) (sf := sf) (fun x hx => hhp x hx) (by omega) (by omega) hec (by omega) rfl (by omega) (show (aset (vset (aset (aset A 118 (sn S) t) 119 (sn S) (o_i o)) (sn S) 0) 121 (sn S) 0).1 135 k = nI e from by rw [← he]; exact htop.2.1) (hfm_c)) (fun v w hq => ?_)
      obtain ⟨I3, v3, A3, hM, hs2, hI3, hlo3, h18, h19, hq⟩ := hq
      have hs := hs.tr hs2
      have hlo : lo A A3 (sn S) sd := (((lo.rf.st (c := 118) (by decide) (by rw [lo.i1 118 (by decide)]; exact Nat.le_refl _)).st (c := 119) (by decide) (by rw [lo.i1 119 (by decide)]; exact Nat.le_refl _)).sv.st (c := 121) (by decide) (by rw [lo.i1 121 (by decide)]; exact Nat.le_refl _)).tr hlo3
      have hlm : lfd g (q + r.2) (rs_e q e r) (rd_me (sE S) o) (so_fm s) = lfd g (q + r.2) (rs_e q e r) e (so_fm s) := by
        refine lfd_me (fun z => ?_)
        cases o with
        | none =>
          have h14 := (fm_14 _ (by rw [hso]; exact so_of_lt t)).mp z
          have hfit : so_fits s 1 = true := hfit
          rw [h14] at hfit; exact absurd hfit (by decide)
        | some j => exact he
      cases hl : lfd g (q + r.2) (rs_e q e r) e (so_fm s) with
      | none =>
        rw [hl] at hq
        obtain ⟨rfl, h1⟩ := hq
        refine r_if_ne hX 252 d_Mo_readElement_246 (by decide) (fun c246 => absurd rfl c246) (fun _ => ?_)
        refine r_bipush (v := -7) hX d_Mo_readElement_249 (by decide) ?_
        refine r_iret hX hR d_Mo_readElement_251 rfl (by first | rfl | assumption) ?_
        have hR : rd_1 c g S sf sd ms p = .inl (-7) := by rw [hrd r hv, rd_2, if_neg (by rw [← hso]; exact hf0), ← hso, hlm, hl]
        rw [hR]
        exact ⟨rfl, by decide, _, _, _, hM, hw0 ▸ hs, ⟨fun J hJ => (hI3 J (fun z => hJ (by simp at z ⊢; omega))).trans (KB2 J hJ), fun x h1 h2 h3 h4 => hlo.2.1 x h1⟩, h1, fun y hy => hlo.1 129 (by decide) y hy⟩
      | some l =>
        rw [hl] at hq
        obtain ⟨rfl, h1, h29, hrr⟩ := hq
        have hq2 := lfd_q (sd := sd) (fun i hi => (hg.2 i (by omega)).2) (by omega) (by omega) hl
        refine r_if_ne hX 252 d_Mo_readElement_246 (by decide) (fun _ => ?_) (fun c246 => absurd c246 (by decide))
        refine q_aload hX 0 d_Mo_readElement_252 rfl (by first | rfl | assumption) ?_
        refine r_iload hX d_Mo_readElement_253 (by first | rfl | assumption) ?_
        refine r_putm (J := 7) hX d_Mo_readElement_255 fp_Mo_115 hM hs rfl rfl (Nat.le_of_ble_eq_true rfl) rfl (fun w hM hs => ?_)
        refine q_aload hX 0 d_Mo_readElement_258 rfl (by first | rfl | assumption) ?_
        refine r_dup hX d_Mo_readElement_259 rfl ?_
        refine r_getm (J := 0) (x := nI (sn S)) hX d_Mo_readElement_260 fl_Mo_86 hM ((hI3 0 (by decide)).trans hc) rfl ?_
        refine r_iconst (v := 1) hX d_Mo_readElement_263 (by decide) ?_
        refine r_iadd hX d_Mo_readElement_264 ?_
        rw [nI_1]
        refine r_putm (J := 0) hX d_Mo_readElement_265 fp_Mo_86 hM hs rfl rfl (Nat.le_of_ble_eq_true rfl) rfl (fun w hM hs => ?_)
        refine r_iconst (v := 0) hX d_Mo_readElement_268 (by decide) ?_
        refine r_iret hX hR d_Mo_readElement_269 rfl (by first | rfl | assumption) ?_
        have hR : rd_1 c g S sf sd ms p = .inr (ad_S S o (lf_E (rs_E S o t (rs_e q e r) (vi_full r)) sd (rs_e q e r) l) (pa_f l.2.1 (rd_pf S)), lf_sf sf sd g (rs_e q e r) l, lf_sd sd (rs_e q e r) l, o, rs_e q e r) := by rw [hrd r hv, rd_2, if_neg (by rw [← hso]; exact hf0), ← hso, hlm, hl]
        rw [hR]
        have hE0 : (rs_E S o t (rs_e q e r) (vi_full r)).1 = s := by rw [hso]; rfl
        have hll := lf_E_1 (rs_E S o t (rs_e q e r) (vi_full r)) sd (rs_e q e r) l
        have hfn : so_fm (rs_E S o t (rs_e q e r) (vi_full r)).1 = so_fm s := by rw [hE0]
        have hE1 : el_D (lf_E (rs_E S o t (rs_e q e r) (vi_full r)) sd (rs_e q e r) l) (pa_f l.2.1 (rd_pf S)) (rd_D sd (q + r.2) (rs_e q e r) (so_fm s) l) (lf_sd sd (rs_e q e r) l) := by
          have := lf_elD (g := g) (me := e) (p := q + r.2) (e := rs_e q e r) (sd := sd) (E0 := rs_E S o t (rs_e q e r) (vi_full r)) (pf := rd_pf S) (l := l) (by omega) (by omega) (fun i hi => (hg.2 i (by omega)).2) rfl htag (by rw [hfn]; exact hl) (fun z => (hrr.2.1 (by rw [← hfn]; exact z)).1) (by rw [hfn]; exact hf0)
          rw [hfn] at this
          exact this
        have hmq : mq A3 (sn S) (lf_E (rs_E S o t (rs_e q e r) (vi_full r)) sd (rs_e q e r) l) (pa_f l.2.1 (rd_pf S)) (rd_D sd (q + r.2) (rs_e q e r) (so_fm s) l) := by
          have := rr_mq (A' := A3) (g := g) (n := sn S) (p := q + r.2) (e := rs_e q e r) (me := e) (sd := sd) (E0 := rs_E S o t (rs_e q e r) (vi_full r)) (pf := rd_pf S) (l := l) (by rw [hE0, hso]; exact so_of_lt t) (by rw [h18]; simp [aset, vset, upd]; rfl) (by rw [hfn]; exact hl) (by rw [hfn]; exact hrr) (by rw [hfn]; exact hf0)
          rw [hfn] at this
          exact this
        refine ⟨rfl, _, _, _, tr_ins (mk_p (sE S) (sn S) o) (sn S) (rd_D sd (q + r.2) (rs_e q e r) (so_fm s) l) D, k, hM, hw0 ▸ hs, ⟨?_, fun x h1 h2 h3 h4 => hlo.2.1 x h1⟩, ?_, rfl, ?_, by omega, ?_, ?_, hq2.2, ?_, rfl⟩
        · exact fun J hJ => by
            have hJ2 := hJ
            simp only [List.mem_cons, List.not_mem_nil, or_false, not_or] at hJ2
            show upd (upd I3 7 _) 0 _ J = _
            unfold upd
            rw [if_neg hJ2.1, if_neg hJ2.2.2.1]
            exact (hI3 J (fun z => hJ (by simp at z ⊢; omega))).trans (KB2 J hJ)
        · refine hm.ins hn60 hoj rfl h1 hq2.1 (by show lf_sd sd (rs_e q e r) l ≤ 1200; omega) (fun i hi => ?_) (fun i h1 h2 => by rw [hmk] at h1; omega) (fun i hi => ?_) hE1 ?_ ?_ ?_ (fun z => ?_) (fun j hj => ?_) h29
          · rw [hmk] at hi; exact hlo.c0 hi
          · rw [hmk, h19]
            by_cases z : i = sn S
            · rw [z, miI_at]; simp [aset, vset, upd]
            · rw [miI_lo (by omega)]
              rw [((((lo.rf.st (c := 118) (by decide) (by rw [lo.i1 118 (by decide)]; exact Nat.le_refl _)).st (c := 119) (by decide) (by rw [lo.i1 119 (by decide)]; exact Nat.le_refl _)).sv.st (c := 121) (by decide) (by rw [lo.i1 121 (by decide)]; exact Nat.le_refl _)) : lo A _ (sn S) sd).1 119 (by decide) i (by rw [lo.i1 119 (by decide)]; omega)]
              exact (hrow i (by omega)).2.2
          · rw [hmk]; exact hmq
          · rw [lf_E_f _ _ _ _ 1 (by omega)]; rfl
          · rw [hll.1, hE0, hso]; exact so_of_lt t
          · subst z; rw [hll.1, hE0]; exact hfit
          · subst hj; rw [hll.1, hE0]; exact hfit
        · exact (hI3 10 (by decide)).trans rfl
        · show stk _ (tr_insE (mk_p (sE S) (sn S) o) (sn S) _ (sE S)) (mi_ins (mk_p (sE S) (sn S) o) (sn S) o (si S)) c k o
          rw [hmk]
          exact stk.cg (n := sn S) (K := k) (fun x hx y hy => by rw [hlo.2.1 x (by rcases hx with rfl | rfl | rfl <;> decide)]) (fun j hj => ⟨by rw [insE_lo hj], by rw [insE_lo hj], miI_lo hj⟩) (fun i j hi hj => by have := ((hpo i hi).2.2.2 j hj).1; omega) (Nat.le_refl _) hoj hst
        · show is_tl (sn S + 1) (tr_insE (mk_p (sE S) (sn S) o) (sn S) _ (sE S)) o
          rw [hmk]
          exact (tl_ins hn hpo htl (by rw [lf_E_f _ _ _ _ 1 (by omega)]; rfl)).1
        · show rs_e q e r ≤ rd_e1 (tr_insE (mk_p (sE S) (sn S) o) (sn S) _ (sE S)) c o
          rw [hmk]
          have : rd_e1 (tr_insE (sn S) (sn S) (lf_E (rs_E S o t (rs_e q e r) (vi_full r)) sd (rs_e q e r) l) (sE S)) c o = e := by
            rw [← he]
            cases o with
            | none => rfl
            | some j => show rd_en _ j = rd_en _ j; unfold rd_en; rw [insE_lo (hoj j rfl)]
          rw [this]; exact hre2
  have go93 : ∀ (k : Nat) (o : Option Nat) (w1 : Ev_W) (ls : Ev_L), k ≤ 2 → stk A (sE S) (si S) c k o → is_tl (sn S) (sE S) o → rd_e1 (sE S) c o = e → mk_may (sE S) (sn S) s o = true → o = pop2 (sE S) (si S) s 61 o0 → is_M w1 (upd (upd I 7 (nI q)) 10 (nI k)) v0 A → mo_sm w0 w1 → ls.1 0 = some (.ref 117) → ls.1 1 = some (.int t) → ev_W G M_Mo_readElement X 0 0 93 ls [] w1 := by
    intro k o w ls hk2 hst htl he hmay hpop hM hs l0 l1
    refine q_aload hX 0 d_Mo_readElement_93 rfl (by first | rfl | assumption) ?_
    refine q_iload hX 1 d_Mo_readElement_94 rfl (by first | rfl | assumption) ?_
    refine r_callV (as := [_]) hX d_Mo_readElement_95 lk_Mo_184 hM.1 rfl rfl (Nat.le_of_ble_eq_true rfl) (by decide) 0 0 (Nat.le_refl _) (Nat.le_refl _) (c_Mo_readSizeOf (G := G) hM hg (q := q) rfl (k := k) rfl (by omega) (by rw [← he]; exact hst.top.2.1) hec hq6 t hso) (fun v w hq => ?_)
    rcases hq with ⟨hne, rfl, I2, v2, hM, hs2, hI2⟩ | ⟨h0, rfl, r, hv, hre1, hre2, hM, hs2⟩
    · have hs := hs.tr hs2
      refine q_istore hX 2 d_Mo_readElement_98 rfl (by decide) ?_
      refine q_iload hX 2 d_Mo_readElement_99 rfl (by first | rfl | assumption) ?_
      refine r_if_eq hX 105 d_Mo_readElement_100 (by decide) (fun c100 => absurd c100 hne) (fun _ => ?_)
      refine q_iload hX 2 d_Mo_readElement_103 rfl (by first | rfl | assumption) ?_
      refine r_iret hX hR d_Mo_readElement_104 rfl (by first | rfl | assumption) ?_
      have hR : rd_1 c g S sf sd ms p = .inl (rs_c g q e s 0) := by
        have h1 : rs_c g q e s (sn S) = rs_c g q e s 0 := by rw [rs_c_n, if_neg hne]
        rw [hB (by rw [← hpop]; exact hmay) (by rw [h1]; exact hne), h1]
      rw [hR]
      exact ⟨rfl, hne, _, _, _, hM, hw0 ▸ hs, ⟨fun J hJ => (hI2 J (fun z => hJ (by simp at z ⊢; omega))).trans (KJ k J hJ), fun _ _ _ _ _ => rfl⟩, hI2 1 (by decide), fun _ _ => rfl⟩
    · have hs := hs.tr hs2
      refine q_istore hX 2 d_Mo_readElement_98 rfl (by decide) ?_
      refine q_iload hX 2 d_Mo_readElement_99 rfl (by first | rfl | assumption) ?_
      refine r_if_eq hX 105 d_Mo_readElement_100 (by decide) (fun _ => ?_) (fun c100 => absurd rfl c100)
      refine q_aload hX 0 d_Mo_readElement_105 rfl (by first | rfl | assumption) ?_
      refine r_getm (J := 0) (x := nI (sn S)) hX d_Mo_readElement_106 fl_Mo_86 hM hc rfl ?_
      refine r_bipush (v := 60) hX d_Mo_readElement_109 (by decide) ?_
      refine r_icmp_ne hX 117 d_Mo_readElement_111 (by decide) (fun c111 => ?_) (fun c111 => ?_)
      · have hn60 : sn S < 60 := by
          have : sn S ≠ 60 := fun z => c111 (by rw [z]; rfl)
          omega
        exact go117 k o r w _ hk2 hst htl he (mo_fit_may hmay) hv hre1 hre2 hn60 (fun r hr => by rw [hC (by rw [← hpop]; exact hmay) (by rw [rs_c_n, if_pos h0, if_neg (by omega)]) r hr, ← hpop]) hM hs l0 l1
      · refine r_bipush (v := -6) hX d_Mo_readElement_114 (by decide) ?_
        refine r_iret hX hR d_Mo_readElement_116 rfl (by first | rfl | assumption) ?_
        have h60 : sn S = 60 := (nI_eq (b := 60) (by omega) (by decide)).mp c111
        have h1 : rs_c g q e s (sn S) = -6 := by rw [rs_c_n, if_pos h0, if_pos h60]
        have hR : rd_1 c g S sf sd ms p = .inl (-6) := by rw [hB (by rw [← hpop]; exact hmay) (by rw [h1]; decide), h1]
        rw [hR]
        exact ⟨rfl, by decide, _, _, _, hM, hw0 ▸ hs, ⟨fun J hJ => (rv_I_but _ _ _ J (fun z => hJ (by simp at z ⊢; omega))).trans (KJ k J hJ), fun _ _ _ _ _ => rfl⟩, rfl, fun _ _ => rfl⟩
  have go56 : ∀ (k : Nat) (o : Option Nat) (w1 : Ev_W) (ls : Ev_L), k ≤ 2 → stk A (sE S) (si S) c k o → is_tl (sn S) (sE S) o → rd_e1 (sE S) c o = e → o = pop2 (sE S) (si S) s 61 o0 → is_M w1 (upd (upd I 7 (nI q)) 10 (nI k)) v0 A → mo_sm w0 w1 → ls.1 0 = some (.ref 117) → ls.1 1 = some (.int t) → ev_W G M_Mo_readElement X 0 0 56 ls [] w1 := by
    intro k o w ls hk2 hst htl he hpop hM hs l0 l1
    refine q_iload hX 1 d_Mo_readElement_56 rfl (by first | rfl | assumption) ?_
    refine q_aload hX 0 d_Mo_readElement_57 rfl (by first | rfl | assumption) ?_
    refine r_callV (as := []) hX d_Mo_readElement_58 lk_Mo_174 hM.1 rfl rfl (Nat.le_of_ble_eq_true rfl) (by decide) 0 0 (Nat.le_refl _) (Nat.le_refl _) (c_Mo_masterId (G := G) hM (k := k) rfl (by omega) hst.top.1 (fun j hj => by have := (htl j hj).1; omega)) (fun v w1 hq => ?_)
    obtain ⟨rfl, hw⟩ := hq
    rw [hw]
    refine r_callS (as := [_, _]) hX d_Mo_readElement_61 lk_Mo_178 rfl (Nat.le_of_ble_eq_true rfl) (by decide) 0 0 (Nat.le_refl _) (Nat.le_refl _) (c_Mo_stands (G := G) _ _) (fun v w1 hq => ?_)
    obtain ⟨rfl, hw⟩ := hq
    rw [hw, ← hso, mo_fit_eq hm (fun j hj => (htl j hj).1)]
    refine r_if_eq hX 90 d_Mo_readElement_64 (by decide) (fun c64 => ?_) (fun c64 => ?_)
    · refine r_bipush (v := -4) hX d_Mo_readElement_90 (by decide) ?_
      refine r_iret hX hR d_Mo_readElement_92 rfl (by first | rfl | assumption) ?_
      have hmf : ¬ mk_may (sE S) (sn S) s o = true := fun z => by have h1 := mo_fit_may z; rw [h1] at c64; exact absurd c64 (by decide)
      have hR : rd_1 c g S sf sd ms p = .inl (-4) := hA (by rw [← hpop]; exact hmf)
      rw [hR]
      exact ⟨rfl, by decide, _, _, _, hM, hw0 ▸ hs, ⟨KJ k, fun _ _ _ _ _ => rfl⟩, rfl, fun _ _ => rfl⟩
    · have hfit : mo_fit S s o = true := by
        cases hz : mo_fit S s o with
        | true => rfl
        | false => rw [hz] at c64; exact absurd rfl c64
      cases o with
      | none =>
        have hno : ¬ t = 191 := fun z => by
          have h14 : s = 14 := by rw [hso]; exact (tg_iff (s := 14) (by decide)).mp z
          rw [h14] at hfit
          have hfit : so_fits 14 1 = true := hfit
          exact absurd hfit (by decide)
        refine q_iload hX 1 d_Mo_readElement_67 rfl (by first | rfl | assumption) ?_
        refine r_sipush (v := 191) hX d_Mo_readElement_68 (by decide) ?_
        refine r_icmp_ne hX 93 d_Mo_readElement_71 (by decide) (fun _ => ?_) (fun c71 => absurd c71 hno)
        exact go93 k none w _ hk2 hst htl he hfit hpop hM hs l0 l1
      | some j =>
        have hj := (htl j rfl).1
        have hom : A.1 134 k = nI j := hst.top.1
        have hfit : so_fits s (so_in (sE S j).1) = true := hfit
        have hle := sc_n_le (mp_c (si S) j) (sn S) 0
        refine q_iload hX 1 d_Mo_readElement_67 rfl (by first | rfl | assumption) ?_
        refine r_sipush (v := 191) hX d_Mo_readElement_68 (by decide) ?_
        refine r_icmp_ne hX 93 d_Mo_readElement_71 (by decide) (fun c71 => ?_) (fun c71 => ?_)
        · have hmay : mk_may (sE S) (sn S) s (some j) = true := by
            show tr_may (sE S) (sn S) s j = true
            rw [tr_may, show ((ev_fl[3]).2.2.2).getD (sE S j).1 0 = so_in (sE S j).1 from rfl, hfit, decide_eq_false (show ¬ s = 14 from fun z => c71 ((tg_iff (s := 14) (by decide)).mpr (by rw [← hso]; exact z)))]; rfl
          exact go93 k (some j) w _ hk2 hst htl he hmay hpop hM hs l0 l1
        · refine q_aload hX 0 d_Mo_readElement_74 rfl (by first | rfl | assumption) ?_
          refine q_aload hX 0 d_Mo_readElement_75 rfl (by first | rfl | assumption) ?_
          refine r_getf hX d_Mo_readElement_76 fl_Mo_64 hM.1 rfl ?_
          refine q_aload hX 0 d_Mo_readElement_79 rfl (by first | rfl | assumption) ?_
          refine r_getm (J := 10) (x := nI k) hX d_Mo_readElement_80 fl_Mo_132 hM rfl rfl ?_
          refine r_ialdm (c := 134) (x := nI j) hX d_Mo_readElement_83 hM rfl rfl (by omega) hom ?_
          refine r_callV (as := [_]) hX d_Mo_readElement_84 lk_Mo_181 hM.1 rfl rfl (Nat.le_of_ble_eq_true rfl) (by decide) 0 0 (Nat.le_refl _) (Nat.le_refl _) (c_Mo_children (G := G) hM hc hn _) (fun v w1 hq => ?_)
          obtain ⟨rfl, hw⟩ := hq
          rw [hw, sc_n_cg _ _ (sc_mp hm (j := j) (by omega))]
          refine r_if_le hX 93 d_Mo_readElement_87 (by decide) (fun c87 => ?_) (fun c87 => ?_)
          · have hnp : ¬ j + 1 < tr_end (el_lev (sE S)) (sn S) j := fun y => by
              have h1 := (ch_pos hn hpo hj).mpr y
              exact absurd c87 (nI_nle h1 (by omega))
            have hmay : mk_may (sE S) (sn S) s (some j) = true := by
              show tr_may (sE S) (sn S) s j = true
              rw [tr_may, show ((ev_fl[3]).2.2.2).getD (sE S j).1 0 = so_in (sE S j).1 from rfl, hfit, decide_eq_false hnp, Bool.and_false]; rfl
            exact go93 k (some j) w _ hk2 hst htl he hmay hpop hM hs l0 l1
          · refine r_bipush (v := -4) hX d_Mo_readElement_90 (by decide) ?_
            refine r_iret hX hR d_Mo_readElement_92 rfl (by first | rfl | assumption) ?_
            have hmf : ¬ mk_may (sE S) (sn S) s (some j) = true := fun z => by
              have h14 : s = 14 := by rw [hso]; exact (tg_iff (s := 14) (by decide)).mp c71
              have hpos : j + 1 < tr_end (el_lev (sE S)) (sn S) j := (ch_pos hn hpo hj).mp (Nat.pos_of_ne_zero (fun y => c87 (by rw [y]; decide)))
              have z : tr_may (sE S) (sn S) s j = true := z
              rw [tr_may, decide_eq_true h14, decide_eq_true hpos] at z; simp at z
            have hR : rd_1 c g S sf sd ms p = .inl (-4) := hA (by rw [← hpop]; exact hmf)
            rw [hR]
            exact ⟨rfl, by decide, _, _, _, hM, hw0 ▸ hs, ⟨KJ k, fun _ _ _ _ _ => rfl⟩, rfl, fun _ _ => rfl⟩
  have loop20 : ∀ (k : Nat) (o : Option Nat) (f : Nat) (w1 : Ev_W) (ls : Ev_L), k ≤ 2 → stk A (sE S) (si S) c k o → is_tl (sn S) (sE S) o → rd_e1 (sE S) c o = e → pop2 (sE S) (si S) s (f + 1) o = pop2 (sE S) (si S) s 61 o0 → k ≤ f → is_M w1 (upd (upd I 7 (nI q)) 10 (nI k)) v0 A → mo_sm w0 w1 → ls.1 0 = some (.ref 117) → ls.1 1 = some (.int t) → ev_W G M_Mo_readElement X 0 0 20 ls [] w1 := by
    intro k
    induction k with
    | zero =>
      intro o f w ls hk2 hst htl he hpop hkf hM hs l0 l1
      obtain ⟨rfl, h1, h2, h3⟩ := id hst
      refine q_aload hX 0 d_Mo_readElement_20 rfl (by first | rfl | assumption) ?_
      refine r_getf hX d_Mo_readElement_21 fl_Mo_70 hM.1 rfl ?_
      refine q_aload hX 0 d_Mo_readElement_24 rfl (by first | rfl | assumption) ?_
      refine r_getm (J := 10) (x := nI 0) hX d_Mo_readElement_25 fl_Mo_132 hM rfl rfl ?_
      refine r_zaldm (c := 136) (x := 0) hX d_Mo_readElement_28 hM rfl rfl (by omega) h3 ?_
      refine r_if_eq hX 56 d_Mo_readElement_29 (by decide) (fun _ => ?_) (fun c29 => absurd rfl c29)
      exact go56 0 none w _ hk2 hst htl he hpop hM hs l0 l1
    | succ k ih =>
      intro o f w ls hk2 hst htl he hpop hkf hM hs l0 l1
      obtain ⟨j, rfl, h1, h2, h3, h4, h5, h6, h7⟩ := id hst
      obtain ⟨f, rfl⟩ : ∃ f', f = f' + 1 := ⟨f - 1, by omega⟩
      cases hop : rd_op (sE S) j with
      | false =>
        rw [hop] at h3
        refine q_aload hX 0 d_Mo_readElement_20 rfl (by first | rfl | assumption) ?_
        refine r_getf hX d_Mo_readElement_21 fl_Mo_70 hM.1 rfl ?_
        refine q_aload hX 0 d_Mo_readElement_24 rfl (by first | rfl | assumption) ?_
        refine r_getm (J := 10) (x := nI (k + 1)) hX d_Mo_readElement_25 fl_Mo_132 hM rfl rfl ?_
        refine r_zaldm (c := 136) (x := 0) hX d_Mo_readElement_28 hM rfl rfl (by omega) h3 ?_
        refine r_if_eq hX 56 d_Mo_readElement_29 (by decide) (fun _ => ?_) (fun c29 => absurd rfl c29)
        exact go56 (k + 1) (some j) w _ hk2 hst htl he (by rw [← hpop, pop2, if_neg (fun z => by rw [hop] at z; exact absurd z.1 (by decide))]) hM hs l0 l1
      | true =>
        rw [hop] at h3
        cases hft : so_fits s (so_in (sE S j).1) with
        | true =>
          refine q_aload hX 0 d_Mo_readElement_20 rfl (by first | rfl | assumption) ?_
          refine r_getf hX d_Mo_readElement_21 fl_Mo_70 hM.1 rfl ?_
          refine q_aload hX 0 d_Mo_readElement_24 rfl (by first | rfl | assumption) ?_
          refine r_getm (J := 10) (x := nI (k + 1)) hX d_Mo_readElement_25 fl_Mo_132 hM rfl rfl ?_
          refine r_zaldm (c := 136) (x := 1) hX d_Mo_readElement_28 hM rfl rfl (by omega) h3 ?_
          refine r_if_eq hX 56 d_Mo_readElement_29 (by decide) (fun c29 => absurd c29 (by decide)) (fun _ => ?_)
          refine q_iload hX 1 d_Mo_readElement_32 rfl (by first | rfl | assumption) ?_
          refine q_aload hX 0 d_Mo_readElement_33 rfl (by first | rfl | assumption) ?_
          refine r_callV (as := []) hX d_Mo_readElement_34 lk_Mo_174 hM.1 rfl rfl (Nat.le_of_ble_eq_true rfl) (by decide) 0 0 (Nat.le_refl _) (Nat.le_refl _) (c_Mo_masterId (G := G) hM (k := k + 1) rfl (by omega) hst.top.1 (fun j hj => by have := (htl j hj).1; omega)) (fun v w1 hq => ?_)
          obtain ⟨rfl, hw⟩ := hq
          rw [hw]
          refine r_callS (as := [_, _]) hX d_Mo_readElement_37 lk_Mo_178 rfl (Nat.le_of_ble_eq_true rfl) (by decide) 0 0 (Nat.le_refl _) (Nat.le_refl _) (c_Mo_stands (G := G) _ _) (fun v w1 hq => ?_)
          obtain ⟨rfl, hw⟩ := hq
          rw [hw, ← hso, mo_fit_eq hm (fun j hj => (htl j hj).1)]
          rw [show mo_fit S s (some j) = true from hft]
          rw [show b_i true = 1 from rfl]
          refine r_if_ne hX 56 d_Mo_readElement_40 (by decide) (fun _ => ?_) (fun c40 => absurd c40 (by decide))
          exact go56 (k + 1) (some j) w _ hk2 hst htl he (by rw [← hpop, pop2, if_neg (fun z => by rw [hft] at z; exact absurd z.2 (by decide))]) hM hs l0 l1
        | false =>
          refine q_aload hX 0 d_Mo_readElement_20 rfl (by first | rfl | assumption) ?_
          refine r_getf hX d_Mo_readElement_21 fl_Mo_70 hM.1 rfl ?_
          refine q_aload hX 0 d_Mo_readElement_24 rfl (by first | rfl | assumption) ?_
          refine r_getm (J := 10) (x := nI (k + 1)) hX d_Mo_readElement_25 fl_Mo_132 hM rfl rfl ?_
          refine r_zaldm (c := 136) (x := 1) hX d_Mo_readElement_28 hM rfl rfl (by omega) h3 ?_
          refine r_if_eq hX 56 d_Mo_readElement_29 (by decide) (fun c29 => absurd c29 (by decide)) (fun _ => ?_)
          refine q_iload hX 1 d_Mo_readElement_32 rfl (by first | rfl | assumption) ?_
          refine q_aload hX 0 d_Mo_readElement_33 rfl (by first | rfl | assumption) ?_
          refine r_callV (as := []) hX d_Mo_readElement_34 lk_Mo_174 hM.1 rfl rfl (Nat.le_of_ble_eq_true rfl) (by decide) 0 0 (Nat.le_refl _) (Nat.le_refl _) (c_Mo_masterId (G := G) hM (k := k + 1) rfl (by omega) hst.top.1 (fun j hj => by have := (htl j hj).1; omega)) (fun v w1 hq => ?_)
          obtain ⟨rfl, hw⟩ := hq
          rw [hw]
          refine r_callS (as := [_, _]) hX d_Mo_readElement_37 lk_Mo_178 rfl (Nat.le_of_ble_eq_true rfl) (by decide) 0 0 (Nat.le_refl _) (Nat.le_refl _) (c_Mo_stands (G := G) _ _) (fun v w1 hq => ?_)
          obtain ⟨rfl, hw⟩ := hq
          rw [hw, ← hso, mo_fit_eq hm (fun j hj => (htl j hj).1)]
          rw [show mo_fit S s (some j) = false from hft]
          rw [show b_i false = 0 from rfl]
          refine r_if_ne hX 56 d_Mo_readElement_40 (by decide) (fun c40 => absurd rfl c40) (fun _ => ?_)
          refine q_aload hX 0 d_Mo_readElement_43 rfl (by first | rfl | assumption) ?_
          refine r_dup hX d_Mo_readElement_44 rfl ?_
          refine r_getm (J := 10) (x := nI (k + 1)) hX d_Mo_readElement_45 fl_Mo_132 hM rfl rfl ?_
          refine r_iconst (v := 1) hX d_Mo_readElement_48 (by decide) ?_
          refine r_isub hX d_Mo_readElement_49 ?_
          rw [nI_pred]
          refine r_putm (J := 10) hX d_Mo_readElement_50 fp_Mo_132 hM hs rfl rfl (Nat.le_of_ble_eq_true rfl) rfl (fun w hM hs => ?_)
          rw [upd2] at hM
          refine r_goto hX 20 d_Mo_readElement_53 (by decide) ?_
          exact ih (si S j) f w _ (by omega) h7 (htl.up hpo) (by rw [← he]; exact (h5 hop).symm) (by rw [← hpop, pop2, if_pos ⟨hop, hft⟩]) (by omega) hM hs l0 l1
  refine q_aload hX 0 d_Mo_readElement_0 rfl (by first | rfl | assumption) ?_
  refine q_aload hX 0 d_Mo_readElement_1 rfl (by first | rfl | assumption) ?_
  refine r_getf hX d_Mo_readElement_2 fl_Mo_67 hM.1 rfl ?_
  refine q_aload hX 0 d_Mo_readElement_5 rfl (by first | rfl | assumption) ?_
  refine r_getm (J := 10) (x := nI k0) hX d_Mo_readElement_6 fl_Mo_132 hM hdp rfl ?_
  refine r_ialdm (c := 135) (x := nI e) hX d_Mo_readElement_9 hM rfl rfl (by omega) (by rw [hed]; exact hst.top.2.1) ?_
  refine r_callV (as := [_]) hX d_Mo_readElement_10 lk_Mo_171 hM.1 rfl rfl (Nat.le_of_ble_eq_true rfl) (by decide) 0 0 (Nat.le_refl _) (Nat.le_refl _) (c_Mo_readId (G := G) hM hg hat hec hpc) (fun v w hq => ?_)
  rcases hq with ⟨z, _⟩ | ⟨_, z, _⟩ | ⟨_, _, rfl, hM, hs2⟩
  · exact absurd z h16
  · exact absurd hpe z
  · have hs := hs.tr hs2
    refine q_istore hX 1 d_Mo_readElement_13 rfl (by decide) ?_
    refine q_iload hX 1 d_Mo_readElement_14 rfl (by first | rfl | assumption) ?_
    refine r_if_ge hX 20 d_Mo_readElement_15 (by decide) (fun _ => ?_) (fun c15 => absurd (nI_le (a := 0) (Nat.zero_le _) hnb.2) c15)
    exact loop20 k0 o0 60 w _ hk2 hst htl hed.symm rfl (by omega) (by rw [show upd (upd I 7 (nI q)) 10 (nI k0) = upd I 7 (nI q) from upd_id hdp]; rw [hqd]; exact hM) hs rfl (by rw [htd]; rfl)
