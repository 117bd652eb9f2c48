/-! ===== Reader: readData ===== -/
theorem rz_le {g : Nat → Nat} {la e : Nat} (hg : ∀ i, i < e → g i < 256) (he : e ≤ 640) : ∀ (k i p prev sum : Nat) (q : List Nat × Nat), p ≤ e → prev ≤ 640 → rz g la e k i p prev sum = some q → p ≤ q.2 ∧ q.2 ≤ e
  | 0, i, p, prev, sum, q, hp, hpr, h => by
    unfold rz at h
    split at h
    · cases h; exact ⟨Nat.le_refl _, hp⟩
    · cases h
  | k + 1, i, p, prev, sum, q, hp, hpr, h => by
    unfold rz at h
    split at h
    · cases h
    · rename_i r hr
      have hb := rz1_b hg hp he hpr hr
      split at h
      · rename_i hle
        cases hz : rz g la e k (i + 1) r.2 r.1 (sum + r.1) with
        | none => rw [hz] at h; cases h
        | some y =>
          rw [hz] at h
          cases h
          have := rz_le hg he k (i + 1) r.2 r.1 (sum + r.1) y (by omega) (by omega) hz
          exact ⟨by dsimp only; omega, this.2⟩
      · cases h
theorem bz_le {g : Nat → Nat} {la k p e : Nat} {q : List Nat × Nat} (hg : ∀ i, i < e → g i < 256) (he : e ≤ 640) (hp : p ≤ e) (h : bz g la k p e = some q) : p ≤ q.2 ∧ q.2 ≤ e := by
  unfold bz at h
  split at h
  · cases h
  · split at h
    · split at h
      · cases h; exact ⟨Nat.le_refl _, hp⟩
      · cases h
    · exact rz_le hg he _ _ _ _ _ q hp (by omega) h
theorem bh_le {g : Nat → Nat} {p e : Nat} {R : Ev_B} (h : bh g p e = some R) : p ≤ R.2.2.2.2.2 ∧ R.2.2.2.2.2 ≤ e ∧ R.2.2.2.1 ≤ 3 ∧ ∃ q, R = bh_R g e R.1 q ∧ q + 3 ≤ e := by
  unfold bh at h
  split at h
  · cases h
  · rename_i r hv
    have hv1 := vi_of hv
    split at h
    · rename_i hk
      cases h
      have h3 := hk.2.2.1
      refine ⟨?_, ?_, ?_, p + r.2, rfl, h3⟩
      · show p ≤ (if g (p + r.2 + 2) / 2 % 4 = 0 then p + r.2 + 3 else if p + r.2 + 3 < e then p + r.2 + 4 else p + r.2 + 3); split <;> (try split) <;> omega
      · show (if g (p + r.2 + 2) / 2 % 4 = 0 then p + r.2 + 3 else if p + r.2 + 3 < e then p + r.2 + 4 else p + r.2 + 3) ≤ e; split <;> (try split) <;> omega
      · show g (p + r.2 + 2) / 2 % 4 ≤ 3; omega
    · cases h
abbrev Ev_Lf : Type := Int64 × List Nat × Option (Nat × Int32 × Bool × Nat) × Option Nat
/-- the data of an element from p to e: amount, parts, details, where its stored bytes begin -/
def lfd (g : Nat → Nat) (p e me : Nat) (fm : Int32) : Option Ev_Lf :=
  if fm = 1 then (if e - p ≤ 8 then some (lN (nb g p (e - p)), [], none, none) else none)
  else if fm = 2 then (tx g (e - p) p false 0).map (fun l => (lN l.length, l, none, none))
  else if fm = 3 then (match bh g p e with
    | none => none
    | some R => (bz g R.2.2.2.1 R.2.2.2.2.1 R.2.2.2.2.2 e).map (fun q => (lN q.1.length, q.1, some (R.1, R.2.1, R.2.2.1, R.2.2.2.1), some q.2)))
  else if fm = 4 then (if rk g p e me = true then some (0, [], none, none) else none)
  else if fm = 6 then some (lN (e - p), [], none, some p)
  else some (lN (e - p), [], none, none)
def lf_d (E : Ev_E) (D : Option (Nat × Int32 × Bool × Nat)) : Ev_E := match D with
  | none => E
  | some d => el_d E (nI d.1) d.2.1 (b_i d.2.2.1) (nI d.2.2.2)
def lf_E (E : Ev_E) (sd e : Nat) (l : Ev_Lf) : Ev_E := match l.2.2.2 with
  | none => el_am (lf_d E l.2.2.1) l.1
  | some q => el_s (el_am (lf_d E l.2.2.1) l.1) (nI sd) (nI (e - q))
def lf_sf (sf : Nat → Int32) (sd : Nat) (g : Nat → Nat) (e : Nat) (l : Ev_Lf) : Nat → Int32 := match l.2.2.2 with
  | none => sf
  | some q => fr_s sd (e - q) (fun i => nI (g (q + i))) sf
def lf_sd (sd e : Nat) (l : Ev_Lf) : Nat := match l.2.2.2 with
  | none => sd
  | some q => sd + (e - q)
theorem c_Re_readSizes0 {G : Ev_G} {w : Ev_W} (a : Nat) : ev_Met G M_Re_readSizes 3 0 0 [.ref 112, .ref a, .int 0] w (fun v w' => v = some (.int 0) ∧ w' = w) := by
  refine ev_Met.of md_Re_readSizes (Nat.le_of_ble_eq_true rfl) (fun X hX hR => ?_)
  refine q_iload hX 2 d_Re_readSizes_0 rfl (by first | rfl | assumption) ?_
  refine r_iconst (v := 1) hX d_Re_readSizes_1 (by decide) ?_
  refine r_icmp_lt hX 11 d_Re_readSizes_2 (by decide) (fun _ => ?_) (fun c2 => absurd (by decide) c2)
  refine r_iconst (v := 0) hX d_Re_readSizes_11 (by decide) ?_
  refine r_iret hX hR d_Re_readSizes_12 rfl (by first | rfl | assumption) ?_
  exact ⟨rfl, rfl⟩
def da_post (w w' : Ev_W) (o : Option Ev_Lf) (N sd : Nat) (L As : Nat → Option Nat) (sf : Nat → Int32) (g : Nat → Nat) (a : Nat) (E : Ev_E) (pf : Nat → Int32) (e : Nat) (fp : Int32) (ms : Option Nat) (tg : Int32) (v : Option Value) : Prop :=
  (∃ vf' vL', is_Re w' fp ms (nI e) (nI e) tg vf' vL') ∧ ev_sm w w' [112, 108, 111, a, a + 1] ∧ match o with
  | none => v = some (.int (-7)) ∧ (∃ E' pf', w'.2 a = some (el_C a E') ∧ w'.2 (a + 1) = some (.inl (0, 16, .inl pf')) ∧ E'.1 = E.1 ∧ E'.2.1 = E.2.1 ∧ E'.2.2.2 2 = E.2.2.2 2) ∧ is_Tr w' N L As sf sd
  | some l => v = some (.int 0) ∧ w'.2 a = some (el_C a (lf_E E sd e l)) ∧ w'.2 (a + 1) = some (.inl (0, 16, .inl (pa_f l.2.1 pf))) ∧ is_Tr w' N L As (lf_sf sf sd g e l) (lf_sd sd e l)
theorem c_Re_readData0 {G : Ev_G} {w : Ev_W} {fp tg vf vL : Int32} {ms : Option Nat} {p e : Nat} (hre : is_Re w fp ms (nI p) (nI e) tg vf vL) (hpe : p ≤ e) {N sd : Nat} {L As : Nat → Option Nat} {sf : Nat → Int32} (htr : is_Tr w N L As sf sd) (hN : N ≤ 60) (hN1 : 0 < N) (hsd : sd + (e - p) ≤ 1200) {a : Nat} {E : Ev_E} {pf : Nat → Int32} (hE : w.2 a = some (el_C a E)) (hp : w.2 (a + 1) = some (.inl (0, 16, .inl pf))) (ha : 139 ≤ a) (hL : L (N - 1) = some a) (h0 : E.2.2.1 = 0) (h17 : E.1 < 17) (hf0 : so_fm E.1 = 0) : ev_Met G M_Re_readData 4 0 0 [.ref 112] w (fun v w' => v = some (.int 0) ∧ is_Re w' fp (some a) (nI p) (nI e) tg vf vL ∧ ev_sm w w' [112]) := by
  have hat : tr_at N L (nI (N - 1)) = some a := by rw [tr_at, nI_toInt (by omega), nI_clamp (by omega), if_pos (by omega), hL]
  unfold is_Re at hre
  refine ev_Met.of md_Re_readData (Nat.le_of_ble_eq_true rfl) (fun X hX hR => ?_)
  refine q_aload hX 0 d_Re_readData_0 rfl (by first | rfl | assumption) ?_
  refine r_getf hX d_Re_readData_1 fl_Re_19 hre rfl ?_
  refine q_aload hX 0 d_Re_readData_4 rfl (by first | rfl | assumption) ?_
  refine r_getf hX d_Re_readData_5 fl_Re_19 hre rfl ?_
  refine r_getf hX d_Re_readData_8 fl_Re_50 htr.1 rfl ?_
  refine r_iconst (v := 1) hX d_Re_readData_11 (by decide) ?_
  refine r_isub hX d_Re_readData_12 ?_
  rw [nI_1m hN1]
  refine r_callV (as := [_]) hX d_Re_readData_13 lk_Re_114 htr.1 rfl rfl (Nat.le_of_ble_eq_true rfl) (by decide) 0 0 (Nat.le_refl _) (Nat.le_refl _) (c_Tr_at (G := G) htr hN (by omega) (nI (N - 1))) (fun v w1 hq => ?_)
  obtain ⟨rfl, hw⟩ := hq
  rw [hw, hat]
  refine q_astore hX 1 d_Re_readData_16 rfl (by decide) ?_
  refine q_aload hX 1 d_Re_readData_17 rfl (by first | rfl | assumption) ?_
  refine r_ifnonnull hX 24 d_Re_readData_18 (by decide) ?_
  refine r_iconst (v := 1) hX d_Re_readData_24 (by decide) ?_
  refine q_istore hX 2 d_Re_readData_25 rfl (by decide) ?_
  refine q_aload hX 1 d_Re_readData_26 rfl (by first | rfl | assumption) ?_
  refine r_getf hX d_Re_readData_27 fl_Re_82 hE rfl ?_
  refine r_getE hX d_Re_readData_30 h17 (q := ev_fl[1]) (by decide) m_874 ?_
  rw [show ev_fl[1].2.2.2.getD E.1 0 = so_fm E.1 from rfl, hf0]
  refine r_tableIn hX 76 d_Re_readData_33 (by decide) (by decide) rfl (by decide) ?_
  refine q_aload hX 0 d_Re_readData_76 rfl (by first | rfl | assumption) ?_
  refine q_aload hX 1 d_Re_readData_77 rfl (by first | rfl | assumption) ?_
  refine r_putf hX d_Re_readData_78 fp_Re_28 hre (by first | assumption | decide | omega) rfl rfl (Nat.le_of_ble_eq_true rfl) ?_
  refine r_iconst (v := 0) hX d_Re_readData_81 (by decide) ?_
  refine r_iret hX hR d_Re_readData_82 rfl (by first | rfl | assumption) ?_
  exact ⟨rfl, ev_set_self _ _ _, ev_sm.s1 (by simp)⟩
theorem c_Re_readData {G : Ev_G} {w : Ev_W} {c : Nat} {f : Nat → Int32} (hin : is_Ro w 101 102 640 c f) {g : Nat → Nat} (hg : rd_g c f g) {fp tg vf vL : Int32} {ms : Option Nat} {p e : Nat} (hre : is_Re w fp ms (nI p) (nI e) tg vf vL) (hec : e ≤ c) (hpe : p ≤ e) {N sd : Nat} {L As : Nat → Option Nat} {sf : Nat → Int32} (htr : is_Tr w N L As sf sd) (hN : N ≤ 60) (hN1 : 0 < N) (hsd : sd + (e - p) ≤ 1200) {a : Nat} {E : Ev_E} {pf : Nat → Int32} (hE : w.2 a = some (el_C a E)) (hp : w.2 (a + 1) = some (.inl (0, 16, .inl pf))) (ha : 139 ≤ a) (hL : L (N - 1) = some a) (h0 : E.2.2.1 = 0) (h17 : E.1 < 17) (hf0 : ¬ so_fm E.1 = 0) {me : Nat} (hck : so_fm E.1 = 4 → ∃ mm Em, E.2.1 = some mm ∧ w.2 mm = some (el_C mm Em) ∧ Em.2.2.2 9 = nI me ∧ me ≤ c) : ev_Met G M_Re_readData 4 0 0 [.ref 112] w (fun v w' => da_post w w' (lfd g p e me (so_fm E.1)) N sd L As sf g a E pf e fp ms tg v) := by
  have hc := hg.1
  have hat : tr_at N L (nI (N - 1)) = some a := by rw [tr_at, nI_toInt (by omega), nI_clamp (by omega), if_pos (by omega), hL]
  refine ev_Met.of md_Re_readData (Nat.le_of_ble_eq_true rfl) (fun X hX hR => ?_)
  have tT : ∀ (l : Ev_Lf) (ls : Ev_L) (w2 : Ev_W), (lfd g p e me (so_fm E.1)) = some l → w2.2 a = some (el_C a (lf_E E sd e l)) → w2.2 (a + 1) = some (.inl (0, 16, .inl (pa_f l.2.1 pf))) → is_Tr w2 N L As (lf_sf sf sd g e l) (lf_sd sd e l) → (∃ p' vf' vL', is_Re w2 fp ms (nI p') (nI e) tg vf' vL') → ev_sm w w2 [112, 108, 111, a, a + 1] → ls.1 0 = some (.ref 112) → ls.1 2 = some (.int 1) → ev_W G M_Re_readData X 0 0 205 ls [] w2 := by
    intro l ls w2 hl hE2 hp2 ht2 hr2 hs2 l0 l2
    obtain ⟨p', vf', vL', hr2⟩ := hr2
    unfold is_Re at hr2
    refine q_aload hX 0 d_Re_readData_205 rfl (by first | rfl | assumption) ?_
    refine q_aload hX 0 d_Re_readData_206 rfl (by first | rfl | assumption) ?_
    refine r_getf hX d_Re_readData_207 fl_Re_57 hr2 rfl ?_
    refine r_putf hX d_Re_readData_210 fp_Re_32 hr2 (by first | assumption | decide | omega) rfl rfl (Nat.le_of_ble_eq_true rfl) ?_
    refine q_iload hX 2 d_Re_readData_213 rfl (by first | rfl | assumption) ?_
    refine r_if_eq hX 221 d_Re_readData_214 (by decide) (fun c214 => absurd c214 (by decide)) (fun _ => ?_)
    refine r_iconst (v := 0) hX d_Re_readData_217 (by decide) ?_
    refine r_goto hX 223 d_Re_readData_218 (by decide) ?_
    refine r_iret hX hR d_Re_readData_223 rfl (by first | rfl | assumption) ?_
    show da_post _ _ _ _ _ _ _ _ _ _ _ _ _ _ _ _ _
    unfold da_post; rw [hl]
    exact ⟨⟨_, _, ev_set_self _ _ _⟩, hs2.set (by simp), rfl, (ev_set_ne _ _ (by omega)).trans hE2, (ev_set_ne _ _ (by omega)).trans hp2, ⟨(ev_set_ne _ _ (by decide)).trans ht2.1, (ev_set_ne _ _ (by decide)).trans ht2.2.1, (ev_set_ne _ _ (by decide)).trans ht2.2.2.1, (ev_set_ne _ _ (by decide)).trans ht2.2.2.2⟩⟩
  have tF : ∀ (ls : Ev_L) (w2 : Ev_W), (lfd g p e me (so_fm E.1)) = none → (∃ E' pf', w2.2 a = some (el_C a E') ∧ w2.2 (a + 1) = some (.inl (0, 16, .inl pf')) ∧ E'.1 = E.1 ∧ E'.2.1 = E.2.1 ∧ E'.2.2.2 2 = E.2.2.2 2) → is_Tr w2 N L As sf sd → (∃ p' vf' vL', is_Re w2 fp ms (nI p') (nI e) tg vf' vL') → ev_sm w w2 [112, 108, 111, a, a + 1] → ls.1 0 = some (.ref 112) → ls.1 2 = some (.int 0) → ev_W G M_Re_readData X 0 0 205 ls [] w2 := by
    intro ls w2 hl hx2 ht2 hr2 hs2 l0 l2
    obtain ⟨p', vf', vL', hr2⟩ := hr2
    unfold is_Re at hr2
    refine q_aload hX 0 d_Re_readData_205 rfl (by first | rfl | assumption) ?_
    refine q_aload hX 0 d_Re_readData_206 rfl (by first | rfl | assumption) ?_
    refine r_getf hX d_Re_readData_207 fl_Re_57 hr2 rfl ?_
    refine r_putf hX d_Re_readData_210 fp_Re_32 hr2 (by first | assumption | decide | omega) rfl rfl (Nat.le_of_ble_eq_true rfl) ?_
    refine q_iload hX 2 d_Re_readData_213 rfl (by first | rfl | assumption) ?_
    refine r_if_eq hX 221 d_Re_readData_214 (by decide) (fun _ => ?_) (fun c214 => absurd rfl c214)
    refine r_bipush (v := -7) hX d_Re_readData_221 (by decide) ?_
    refine r_iret hX hR d_Re_readData_223 rfl (by first | rfl | assumption) ?_
    show da_post _ _ _ _ _ _ _ _ _ _ _ _ _ _ _ _ _
    unfold da_post; rw [hl]
    obtain ⟨E', pf', hE2, hp2, hx3⟩ := hx2
    exact ⟨⟨_, _, ev_set_self _ _ _⟩, hs2.set (by simp), rfl, ⟨E', pf', (ev_set_ne _ _ (by omega)).trans hE2, (ev_set_ne _ _ (by omega)).trans hp2, hx3⟩, ⟨(ev_set_ne _ _ (by decide)).trans ht2.1, (ev_set_ne _ _ (by decide)).trans ht2.2.1, (ev_set_ne _ _ (by decide)).trans ht2.2.2.1, (ev_set_ne _ _ (by decide)).trans ht2.2.2.2⟩⟩
  unfold is_Re at hre
  refine q_aload hX 0 d_Re_readData_0 rfl (by first | rfl | assumption) ?_
  refine r_getf hX d_Re_readData_1 fl_Re_19 hre rfl ?_
  refine q_aload hX 0 d_Re_readData_4 rfl (by first | rfl | assumption) ?_
  refine r_getf hX d_Re_readData_5 fl_Re_19 hre rfl ?_
  refine r_getf hX d_Re_readData_8 fl_Re_50 htr.1 rfl ?_
  refine r_iconst (v := 1) hX d_Re_readData_11 (by decide) ?_
  refine r_isub hX d_Re_readData_12 ?_
  rw [nI_1m hN1]
  refine r_callV (as := [_]) hX d_Re_readData_13 lk_Re_114 htr.1 rfl rfl (Nat.le_of_ble_eq_true rfl) (by decide) 0 0 (Nat.le_refl _) (Nat.le_refl _) (c_Tr_at (G := G) htr hN (by omega) (nI (N - 1))) (fun v w1 hq => ?_)
  obtain ⟨rfl, hw⟩ := hq
  rw [hw, hat]
  refine q_astore hX 1 d_Re_readData_16 rfl (by decide) ?_
  refine q_aload hX 1 d_Re_readData_17 rfl (by first | rfl | assumption) ?_
  refine r_ifnonnull hX 24 d_Re_readData_18 (by decide) ?_
  refine r_iconst (v := 1) hX d_Re_readData_24 (by decide) ?_
  refine q_istore hX 2 d_Re_readData_25 rfl (by decide) ?_
  refine q_aload hX 1 d_Re_readData_26 rfl (by first | rfl | assumption) ?_
  refine r_getf hX d_Re_readData_27 fl_Re_82 hE rfl ?_
  refine r_getE hX d_Re_readData_30 h17 (q := ev_fl[1]) (by decide) m_874 ?_
  rw [show ev_fl[1].2.2.2.getD E.1 0 = so_fm E.1 from rfl]
  rcases so_fm_c E.1 h17 with hf | hf | hf | hf | hf | hf | hf
  · exact absurd hf hf0
  · rw [hf]
    refine r_tableIn hX 83 d_Re_readData_33 (by decide) (by decide) rfl (by decide) ?_
    by_cases h8 : e - p ≤ 8
    · refine q_aload hX 0 d_Re_readData_83 rfl (by first | rfl | assumption) ?_
      refine r_getf hX d_Re_readData_84 fl_Re_57 hre rfl ?_
      refine q_aload hX 0 d_Re_readData_87 rfl (by first | rfl | assumption) ?_
      refine r_getf hX d_Re_readData_88 fl_Re_32 hre rfl ?_
      refine r_isub hX d_Re_readData_91 ?_
      rw [nI_sb hpe]
      refine r_bipush (v := 8) hX d_Re_readData_92 (by decide) ?_
      refine r_icmp_gt hX 101 d_Re_readData_94 (by decide) (fun c94 => absurd c94 (nI_nlt (a := 8) (b := e - p) (by omega) (by decide))) (fun _ => ?_)
      refine r_iconst (v := 1) hX d_Re_readData_97 (by decide) ?_
      refine r_goto hX 102 d_Re_readData_98 (by decide) ?_
      refine q_istore hX 2 d_Re_readData_102 rfl (by decide) ?_
      refine q_aload hX 1 d_Re_readData_103 rfl (by first | rfl | assumption) ?_
      refine q_aload hX 0 d_Re_readData_104 rfl (by first | rfl | assumption) ?_
      refine q_aload hX 0 d_Re_readData_105 rfl (by first | rfl | assumption) ?_
      refine r_getf hX d_Re_readData_106 fl_Re_57 hre rfl ?_
      refine q_aload hX 0 d_Re_readData_109 rfl (by first | rfl | assumption) ?_
      refine r_getf hX d_Re_readData_110 fl_Re_32 hre rfl ?_
      refine r_isub hX d_Re_readData_113 ?_
      rw [nI_sb hpe]
      refine r_bipush (v := 8) hX d_Re_readData_114 (by decide) ?_
      refine r_mmin hX d_Re_readData_116 m_316 m_317 m_74 m_318 (by decide) (Nat.le_of_ble_eq_true rfl) ?_
      rw [if_neg (show ¬ (8 : Int32) < nI (e - p) from nI_nlt (a := 8) (b := e - p) (by omega) (by decide))]
      refine r_callV (as := [_]) hX d_Re_readData_119 lk_Re_65 hre rfl rfl (Nat.le_of_ble_eq_true rfl) (by decide) 0 0 (Nat.le_refl _) (Nat.le_refl _) (c_Re_nextNumber (G := G) hin hg hre (e - p) (by omega)) (fun v w2 hq => ?_)
      obtain ⟨rfl, q1, q2⟩ := hq
      refine r_putf hX d_Re_readData_122 fp_Re_126 ((q2.2 a (by simp <;> omega)).trans hE) (by first | assumption | decide | omega) rfl rfl (Nat.le_of_ble_eq_true rfl) ?_
      refine r_goto hX 205 d_Re_readData_125 (by decide) ?_
      exact tT (lN (nb g p (e - p)), [], none, none) _ _ (by rw [lfd, if_pos hf, if_pos h8]) (ev_set_self _ _ _) ((ev_set_ne _ _ (by omega)).trans ((q2.2 (a + 1) (by simp <;> omega)).trans hp)) ⟨(ev_set_ne _ _ (by omega)).trans ((q2.2 108 (by decide)).trans htr.1), (ev_set_ne _ _ (by omega)).trans ((q2.2 109 (by decide)).trans htr.2.1), (ev_set_ne _ _ (by omega)).trans ((q2.2 110 (by decide)).trans htr.2.2.1), (ev_set_ne _ _ (by omega)).trans ((q2.2 111 (by decide)).trans htr.2.2.2)⟩ ⟨_, _, _, (ev_set_ne _ _ (by omega)).trans q1⟩ ((q2.up (by simp)).set (by simp)) rfl rfl
    · refine q_aload hX 0 d_Re_readData_83 rfl (by first | rfl | assumption) ?_
      refine r_getf hX d_Re_readData_84 fl_Re_57 hre rfl ?_
      refine q_aload hX 0 d_Re_readData_87 rfl (by first | rfl | assumption) ?_
      refine r_getf hX d_Re_readData_88 fl_Re_32 hre rfl ?_
      refine r_isub hX d_Re_readData_91 ?_
      rw [nI_sb hpe]
      refine r_bipush (v := 8) hX d_Re_readData_92 (by decide) ?_
      refine r_icmp_gt hX 101 d_Re_readData_94 (by decide) (fun _ => ?_) (fun c94 => absurd (nI_lt (a := 8) (b := e - p) (by omega) (by omega)) c94)
      refine r_iconst (v := 0) hX d_Re_readData_101 (by decide) ?_
      refine q_istore hX 2 d_Re_readData_102 rfl (by decide) ?_
      refine q_aload hX 1 d_Re_readData_103 rfl (by first | rfl | assumption) ?_
      refine q_aload hX 0 d_Re_readData_104 rfl (by first | rfl | assumption) ?_
      refine q_aload hX 0 d_Re_readData_105 rfl (by first | rfl | assumption) ?_
      refine r_getf hX d_Re_readData_106 fl_Re_57 hre rfl ?_
      refine q_aload hX 0 d_Re_readData_109 rfl (by first | rfl | assumption) ?_
      refine r_getf hX d_Re_readData_110 fl_Re_32 hre rfl ?_
      refine r_isub hX d_Re_readData_113 ?_
      rw [nI_sb hpe]
      refine r_bipush (v := 8) hX d_Re_readData_114 (by decide) ?_
      refine r_mmin hX d_Re_readData_116 m_316 m_317 m_74 m_318 (by decide) (Nat.le_of_ble_eq_true rfl) ?_
      rw [if_pos (show (8 : Int32) < nI (e - p) from nI_lt (a := 8) (b := e - p) (by omega) (by omega)), show (8 : Int32) = nI 8 from rfl]
      refine r_callV (as := [_]) hX d_Re_readData_119 lk_Re_65 hre rfl rfl (Nat.le_of_ble_eq_true rfl) (by decide) 0 0 (Nat.le_refl _) (Nat.le_refl _) (c_Re_nextNumber (G := G) hin hg hre 8 (by omega)) (fun v w2 hq => ?_)
      obtain ⟨rfl, q1, q2⟩ := hq
      refine r_putf hX d_Re_readData_122 fp_Re_126 ((q2.2 a (by simp <;> omega)).trans hE) (by first | assumption | decide | omega) rfl rfl (Nat.le_of_ble_eq_true rfl) ?_
      refine r_goto hX 205 d_Re_readData_125 (by decide) ?_
      exact tF _ _ (by rw [lfd, if_pos hf, if_neg h8]) ⟨el_am E (lN (nb g p 8)), pf, ev_set_self _ _ _, (ev_set_ne _ _ (by omega)).trans ((q2.2 (a + 1) (by simp <;> omega)).trans hp), rfl, rfl, rfl⟩ ⟨(ev_set_ne _ _ (by omega)).trans ((q2.2 108 (by decide)).trans htr.1), (ev_set_ne _ _ (by omega)).trans ((q2.2 109 (by decide)).trans htr.2.1), (ev_set_ne _ _ (by omega)).trans ((q2.2 110 (by decide)).trans htr.2.2.1), (ev_set_ne _ _ (by omega)).trans ((q2.2 111 (by decide)).trans htr.2.2.2)⟩ ⟨_, _, _, (ev_set_ne _ _ (by omega)).trans q1⟩ ((q2.up (by simp)).set (by simp)) rfl rfl
  · rw [hf]
    refine r_tableIn hX 128 d_Re_readData_33 (by decide) (by decide) rfl (by decide) ?_
    refine q_aload hX 0 d_Re_readData_128 rfl (by first | rfl | assumption) ?_
    refine q_aload hX 1 d_Re_readData_129 rfl (by first | rfl | assumption) ?_
    refine r_callV (as := [_]) hX d_Re_readData_130 lk_Re_130 hre rfl rfl (Nat.le_of_ble_eq_true rfl) (by decide) 0 0 (Nat.le_refl _) (Nat.le_refl _) (c_Re_readText (G := G) hin hg hre hec hpe (is_pa.st hE hp h0) ha) (fun v w2 hq => ?_)
    have hq : tx_post _ _ _ _ _ _ _ := hq
    cases htx : tx g (e - p) p false 0 with
    | none =>
      unfold tx_post at hq; rw [htx] at hq
      obtain ⟨rfl, ⟨l9, q1⟩, q2⟩ := hq
      refine q_istore hX 2 d_Re_readData_133 rfl (by decide) ?_
      refine r_goto hX 205 d_Re_readData_134 (by decide) ?_
      exact tF _ _ (by rw [lfd, if_neg (by rw [hf]; decide), if_pos hf, htx]; rfl) ⟨_, _, q1.1, q1.2, rfl, rfl, rfl⟩ ⟨(q2.2 108 (by simp <;> omega)).trans htr.1, (q2.2 109 (by simp <;> omega)).trans htr.2.1, (q2.2 110 (by simp <;> omega)).trans htr.2.2.1, (q2.2 111 (by simp <;> omega)).trans htr.2.2.2⟩ ⟨_, _, _, (q2.2 112 (by simp <;> omega)).trans hre⟩ (q2.up (by simp)) rfl rfl
    | some l =>
      unfold tx_post at hq; rw [htx] at hq
      obtain ⟨rfl, q1, q2⟩ := hq
      refine q_istore hX 2 d_Re_readData_133 rfl (by decide) ?_
      refine r_goto hX 205 d_Re_readData_134 (by decide) ?_
      exact tT (lN l.length, l, none, none) _ _ (by rw [lfd, if_neg (by rw [hf]; decide), if_pos hf, htx]; rfl) q1.1 q1.2 ⟨(q2.2 108 (by simp <;> omega)).trans htr.1, (q2.2 109 (by simp <;> omega)).trans htr.2.1, (q2.2 110 (by simp <;> omega)).trans htr.2.2.1, (q2.2 111 (by simp <;> omega)).trans htr.2.2.2⟩ ⟨_, _, _, (q2.2 112 (by simp <;> omega)).trans hre⟩ (q2.up (by simp)) rfl rfl
  · rw [hf]
    refine r_tableIn hX 137 d_Re_readData_33 (by decide) (by decide) rfl (by decide) ?_
    refine q_aload hX 0 d_Re_readData_137 rfl (by first | rfl | assumption) ?_
    refine q_aload hX 1 d_Re_readData_138 rfl (by first | rfl | assumption) ?_
    refine q_aload hX 0 d_Re_readData_139 rfl (by first | rfl | assumption) ?_
    refine q_aload hX 1 d_Re_readData_140 rfl (by first | rfl | assumption) ?_
    refine r_callV (as := [_]) hX d_Re_readData_141 lk_Re_134 hre rfl rfl (Nat.le_of_ble_eq_true rfl) (by decide) 0 0 (Nat.le_refl _) (Nat.le_refl _) (c_Re_readBlockHead (G := G) hin hg hre hec hpe hE ha) (fun v w2 hq => ?_)
    have hq : bh_post _ _ _ _ _ _ _ _ _ _ := hq
    cases hbh : bh g p e with
    | none =>
      unfold bh_post at hq; rw [hbh] at hq
      obtain ⟨rfl, ⟨p9, vf9, vL9, hp9, q1⟩, q2⟩ := hq
      refine r_callV (as := [_, _]) hX d_Re_readData_144 lk_Re_138 q1 rfl rfl (Nat.le_of_ble_eq_true rfl) (by decide) 0 0 (Nat.le_refl _) (Nat.le_refl _) (c_Re_readSizes0 (G := G) a) (fun v w3 hq => ?_)
      obtain ⟨rfl, hw3⟩ := hq
      rw [hw3]
      refine q_istore hX 2 d_Re_readData_147 rfl (by decide) ?_
      refine q_iload hX 2 d_Re_readData_148 rfl (by first | rfl | assumption) ?_
      refine r_if_eq hX 205 d_Re_readData_149 (by decide) (fun _ => ?_) (fun c149 => absurd rfl c149)
      exact tF _ _ (by rw [lfd, if_neg (by rw [hf]; decide), if_neg (by rw [hf]; decide), if_pos hf, hbh]) ⟨_, _, (q2.2 a (by simp <;> omega)).trans hE, (q2.2 (a + 1) (by simp <;> omega)).trans hp, rfl, rfl, rfl⟩ ⟨(q2.2 108 (by simp <;> omega)).trans htr.1, (q2.2 109 (by simp <;> omega)).trans htr.2.1, (q2.2 110 (by simp <;> omega)).trans htr.2.2.1, (q2.2 111 (by simp <;> omega)).trans htr.2.2.2⟩ ⟨_, _, _, q1⟩ (q2.up (by simp)) rfl rfl
    | some R =>
      have hR1 := bh_le hbh
      unfold bh_post at hq; rw [hbh] at hq
      obtain ⟨rfl, ⟨vf9, vL9, q1⟩, qE, q2⟩ := hq
      have hpa2 : is_pa w2 a (el_d E (nI R.1) R.2.1 (b_i R.2.2.1) (nI R.2.2.2.1)) pf [] := is_pa.st qE ((q2.2 (a + 1) (by simp <;> omega)).trans hp) h0
      have hfr : R.2.2.2.2.1 ≤ 300 := by
        obtain ⟨q, hq1, hq2⟩ := hR1.2.2.2
        rw [hq1]
        show (if _ then 1 else if _ then g (q + 3) + 1 else 0) ≤ 300
        split
        · omega
        · split
          · rename_i z; have := (hg.2 (q + 3) (by omega)).2; exact Nat.le_trans (Nat.succ_le_succ (Nat.le_of_lt this)) (by decide)
          · omega
      refine r_callV (as := [_, _]) hX d_Re_readData_144 lk_Re_138 q1 rfl rfl (Nat.le_of_ble_eq_true rfl) (by decide) 0 0 (Nat.le_refl _) (Nat.le_refl _) (c_Re_readSizes (G := G) (hin.sm q2 (by simp <;> omega) (by simp <;> omega)) hg q1 hec hR1.2.1 hpa2 ha (la := R.2.2.2.1) rfl hR1.2.2.1 R.2.2.2.2.1 hfr) (fun v w3 hq => ?_)
      have hq : rz_post _ _ _ _ _ _ _ _ _ _ _ := hq
      cases hbz : bz g R.2.2.2.1 R.2.2.2.2.1 R.2.2.2.2.2 e with
      | none =>
        unfold rz_post at hq; rw [hbz] at hq
        obtain ⟨rfl, ⟨l9, q3⟩, ⟨p8, vf8, vL8, hp8, q4⟩, q5⟩ := hq
        have hs5 : ev_sm w w3 [112, a, a + 1] := (q2.up (by simp)).tr q5
        refine q_istore hX 2 d_Re_readData_147 rfl (by decide) ?_
        refine q_iload hX 2 d_Re_readData_148 rfl (by first | rfl | assumption) ?_
        refine r_if_eq hX 205 d_Re_readData_149 (by decide) (fun _ => ?_) (fun c149 => absurd rfl c149)
        exact tF _ _ (by rw [lfd, if_neg (by rw [hf]; decide), if_neg (by rw [hf]; decide), if_pos hf, hbh]; dsimp only; rw [hbz]; rfl) ⟨_, _, q3.1, q3.2, rfl, rfl, rfl⟩ ⟨(hs5.2 108 (by simp <;> omega)).trans htr.1, (hs5.2 109 (by simp <;> omega)).trans htr.2.1, (hs5.2 110 (by simp <;> omega)).trans htr.2.2.1, (hs5.2 111 (by simp <;> omega)).trans htr.2.2.2⟩ ⟨_, _, _, q4⟩ (hs5.up (by simp)) rfl rfl
      | some y =>
        have hy := bz_le (fun i hi => (hg.2 i (by omega)).2) (by omega) hR1.2.1 hbz
        unfold rz_post at hq; rw [hbz] at hq
        obtain ⟨rfl, q3, ⟨vf8, vL8, q4⟩, q5⟩ := hq
        have hs5 : ev_sm w w3 [112, a, a + 1] := (q2.up (by simp)).tr q5
        have ht5 : is_Tr w3 N L As sf sd := ⟨(hs5.2 108 (by simp <;> omega)).trans htr.1, (hs5.2 109 (by simp <;> omega)).trans htr.2.1, (hs5.2 110 (by simp <;> omega)).trans htr.2.2.1, (hs5.2 111 (by simp <;> omega)).trans htr.2.2.2⟩
        refine q_istore hX 2 d_Re_readData_147 rfl (by decide) ?_
        refine q_iload hX 2 d_Re_readData_148 rfl (by first | rfl | assumption) ?_
        refine r_if_eq hX 205 d_Re_readData_149 (by decide) (fun c149 => absurd c149 (by decide)) (fun _ => ?_)
        refine q_aload hX 0 d_Re_readData_152 rfl (by first | rfl | assumption) ?_
        refine q_aload hX 1 d_Re_readData_153 rfl (by first | rfl | assumption) ?_
        refine r_callV (as := [_]) hX d_Re_readData_154 lk_Re_142 q4 rfl rfl (Nat.le_of_ble_eq_true rfl) (by decide) 0 0 (Nat.le_refl _) (Nat.le_refl _) (c_Re_storeRest (G := G) (hin.sm hs5 (by simp <;> omega) (by simp <;> omega)) hg q4 hec hy.2 ht5 hN (by omega) q3.1 ha) (fun v w4 hq => ?_)
        obtain ⟨rfl, q6, q7, q8⟩ := hq
        refine r_goto hX 205 d_Re_readData_157 (by decide) ?_
        exact tT (lN y.1.length, y.1, some (R.1, R.2.1, R.2.2.1, R.2.2.2.1), some y.2) _ _ (by rw [lfd, if_neg (by rw [hf]; decide), if_neg (by rw [hf]; decide), if_pos hf, hbh]; dsimp only; rw [hbz]; rfl) q7 ((q8.2 (a + 1) (by simp <;> omega)).trans q3.2) q6 ⟨_, _, _, (q8.2 112 (by simp <;> omega)).trans q4⟩ ((hs5.up (by simp)).tr (q8.up (by simp))) rfl rfl
  · rw [hf]
    refine r_tableIn hX 160 d_Re_readData_33 (by decide) (by decide) rfl (by decide) ?_
    obtain ⟨mm, Em, hk1, hk2, hk3, hk4⟩ := hck hf
    refine q_aload hX 0 d_Re_readData_160 rfl (by first | rfl | assumption) ?_
    refine q_aload hX 1 d_Re_readData_161 rfl (by first | rfl | assumption) ?_
    refine r_callV (as := [_]) hX d_Re_readData_162 lk_Re_146 hre rfl rfl (Nat.le_of_ble_eq_true rfl) (by decide) 0 0 (Nat.le_refl _) (Nat.le_refl _) (c_Re_readCheck (G := G) hin hg hre hec hpe hE hk1 hk2 hk3 hk4) (fun v w2 hq => ?_)
    obtain ⟨rfl, hw2⟩ := hq
    rw [hw2]
    cases hrk : rk g p e me with
    | true =>
      refine q_istore hX 2 d_Re_readData_165 rfl (by decide) ?_
      refine r_goto hX 205 d_Re_readData_166 (by decide) ?_
      exact tT (0, [], none, none) _ _ (by rw [lfd, if_neg (by rw [hf]; decide), if_neg (by rw [hf]; decide), if_neg (by rw [hf]; decide), if_pos hf, if_pos hrk]) (by rw [hE]; show _ = some (el_C a (el_am E 0)); rw [← h0]; rfl) hp htr ⟨_, _, _, hre⟩ ev_sm.rf rfl rfl
    | false =>
      refine q_istore hX 2 d_Re_readData_165 rfl (by decide) ?_
      refine r_goto hX 205 d_Re_readData_166 (by decide) ?_
      exact tF _ _ (by rw [lfd, if_neg (by rw [hf]; decide), if_neg (by rw [hf]; decide), if_neg (by rw [hf]; decide), if_pos hf, if_neg (by rw [hrk]; decide)]) ⟨_, _, hE, hp, rfl, rfl, rfl⟩ htr ⟨_, _, _, hre⟩ ev_sm.rf rfl rfl
  · rw [hf]
    refine r_tableIn hX 191 d_Re_readData_33 (by decide) (by decide) rfl (by decide) ?_
    have hsa : ev_sm w (ev_set w a (el_C a (el_am E (lN (e - p))))) [a] := ev_sm.s1 (by simp)
    refine q_aload hX 1 d_Re_readData_191 rfl (by first | rfl | assumption) ?_
    refine q_aload hX 0 d_Re_readData_192 rfl (by first | rfl | assumption) ?_
    refine r_getf hX d_Re_readData_193 fl_Re_57 hre rfl ?_
    refine q_aload hX 0 d_Re_readData_196 rfl (by first | rfl | assumption) ?_
    refine r_getf hX d_Re_readData_197 fl_Re_32 hre rfl ?_
    refine r_isub hX d_Re_readData_200 ?_
    rw [nI_sb hpe]
    refine r_i2l hX d_Re_readData_201 ?_
    rw [nI_l (by omega)]
    refine r_putf hX d_Re_readData_202 fp_Re_126 hE (by first | assumption | decide | omega) rfl rfl (Nat.le_of_ble_eq_true rfl) ?_
    show ev_W G M_Re_readData X 0 0 _ _ _ (ev_set w a (el_C a (el_am E (lN (e - p)))))
    exact tT (lN (e - p), [], none, none) _ _ (by rw [lfd, if_neg (by rw [hf]; decide), if_neg (by rw [hf]; decide), if_neg (by rw [hf]; decide), if_neg (by rw [hf]; decide), if_neg (by rw [hf]; decide)]) (ev_set_self _ _ _) ((hsa.2 (a + 1) (by simp)).trans hp) ⟨(hsa.2 108 (by simp <;> omega)).trans htr.1, (hsa.2 109 (by simp <;> omega)).trans htr.2.1, (hsa.2 110 (by simp <;> omega)).trans htr.2.2.1, (hsa.2 111 (by simp <;> omega)).trans htr.2.2.2⟩ ⟨_, _, _, (hsa.2 112 (by simp <;> omega)).trans hre⟩ (hsa.up (by simp)) rfl rfl
  · rw [hf]
    refine r_tableIn hX 169 d_Re_readData_33 (by decide) (by decide) rfl (by decide) ?_
    have hsa : ev_sm w (ev_set w a (el_C a (el_am E (lN (e - p))))) [a] := ev_sm.s1 (by simp)
    refine q_aload hX 1 d_Re_readData_169 rfl (by first | rfl | assumption) ?_
    refine q_aload hX 0 d_Re_readData_170 rfl (by first | rfl | assumption) ?_
    refine r_getf hX d_Re_readData_171 fl_Re_57 hre rfl ?_
    refine q_aload hX 0 d_Re_readData_174 rfl (by first | rfl | assumption) ?_
    refine r_getf hX d_Re_readData_175 fl_Re_32 hre rfl ?_
    refine r_isub hX d_Re_readData_178 ?_
    rw [nI_sb hpe]
    refine r_i2l hX d_Re_readData_179 ?_
    rw [nI_l (by omega)]
    refine r_putf hX d_Re_readData_180 fp_Re_126 hE (by first | assumption | decide | omega) rfl rfl (Nat.le_of_ble_eq_true rfl) ?_
    show ev_W G M_Re_readData X 0 0 _ _ _ (ev_set w a (el_C a (el_am E (lN (e - p)))))
    refine q_aload hX 0 d_Re_readData_183 rfl (by first | rfl | assumption) ?_
    refine q_aload hX 1 d_Re_readData_184 rfl (by first | rfl | assumption) ?_
    refine r_callV (as := [_]) hX d_Re_readData_185 lk_Re_142 ((hsa.2 112 (by simp <;> omega)).trans hre) rfl rfl (Nat.le_of_ble_eq_true rfl) (by decide) 0 0 (Nat.le_refl _) (Nat.le_refl _) (c_Re_storeRest (G := G) (w := (ev_set w a (el_C a (el_am E (lN (e - p)))))) (hin.sm hsa (by simp <;> omega) (by simp <;> omega)) hg ((hsa.2 112 (by simp <;> omega)).trans hre) hec hpe ⟨(hsa.2 108 (by simp <;> omega)).trans htr.1, (hsa.2 109 (by simp <;> omega)).trans htr.2.1, (hsa.2 110 (by simp <;> omega)).trans htr.2.2.1, (hsa.2 111 (by simp <;> omega)).trans htr.2.2.2⟩ hN (by omega) (ev_set_self _ _ _) ha) (fun v w4 hq => ?_)
    obtain ⟨rfl, q6, q7, q8⟩ := hq
    refine r_goto hX 205 d_Re_readData_188 (by decide) ?_
    exact tT (lN (e - p), [], none, some p) _ _ (by rw [lfd, if_neg (by rw [hf]; decide), if_neg (by rw [hf]; decide), if_neg (by rw [hf]; decide), if_neg (by rw [hf]; decide), if_pos hf]) q7 ((q8.2 (a + 1) (by simp <;> omega)).trans ((hsa.2 (a + 1) (by simp)).trans hp)) q6 ⟨_, _, _, (q8.2 112 (by simp <;> omega)).trans ((hsa.2 112 (by simp <;> omega)).trans hre)⟩ ((hsa.up (by simp)).tr (q8.up (by simp))) rfl rfl
