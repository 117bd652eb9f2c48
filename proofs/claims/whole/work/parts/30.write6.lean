/-! ===== ElementFiles: write ===== -/
theorem ok_ds {n : Nat} {ad : Nat → Nat} {E : Nat → Ev_E} {mi : Nat → Option Nat} (h : el_ok n ad E mi) (d : Nat → Nat) : el_ok n ad (ds_E n E d) mi := fun i hi => by
  rw [show ds_E n E d i = el_ds (E i) (nI (d i)) from if_pos hi]; exact h i hi
def wr_D (sf : Nat → Int32) (sd : Nat) (E : Nat → Ev_E) (PF : Nat → Nat → Int32) (am ss : Nat → Nat) (sz : Nat → Nat → Nat) (mi : Nat → Option Nat) (live : Int32) (n : Nat) : (Nat → Nat) × Nat := me_go E mi live n (fun i => (lf_L sf sd (E i) (PF i) (am i) (ss i) (sz i)).length) 0
theorem wr_D_b {sf : Nat → Int32} {sd : Nat} {E : Nat → Ev_E} {PF : Nat → Nat → Int32} {am ss : Nat → Nat} {sz : Nat → Nat → Nat} {mi : Nat → Option Nat} {live : Int32} {n : Nat} (hn : n ≤ 60) (hlf : ∀ i, i < n → lf_ok (E i) (PF i) (am i) (ss i) (sz i)) (hmi : ∀ i j, i < n → mi i = some j → j < i) : ∀ i, i < n → (wr_D sf sd E PF am ss sz mi live n).1 i ≤ 84960 := by
  have h1 := sm_le (d := (fun i => (lf_L sf sd (E i) (PF i) (am i) (ss i) (sz i)).length)) (b := 1400) n (fun i hi => lf_len (hlf i hi))
  exact me_bnd E mi live 84960 n _ 0 hmi (by omega)
theorem wt_sum (sf : Nat → Int32) (sd : Nat) (E : Nat → Ev_E) (PF : Nat → Nat → Int32) (am ss : Nat → Nat) (sz : Nat → Nat → Nat) (live : Int32) : ∀ k, (wt_L sf sd E PF am ss sz live k).length = sm_N (fun i => (lf_L sf sd (E i) (PF i) (am i) (ss i) (sz i)).length) k + sm_N (fun i => (hd_L (E i) live).length) k
  | 0 => rfl
  | k + 1 => by
    rw [wt_L, List.length_append, wt_1, List.length_append, wt_sum sf sd E PF am ss sz live k, sm_N, sm_N]; omega
/-- as many bytes are written as were measured -/
theorem wr_D_t {sf : Nat → Int32} {sd : Nat} {E : Nat → Ev_E} {PF : Nat → Nat → Int32} {am ss : Nat → Nat} {sz : Nat → Nat → Nat} {mi : Nat → Option Nat} {live : Int32} {n : Nat} (hn : n ≤ 60) (hlf : ∀ i, i < n → lf_ok (E i) (PF i) (am i) (ss i) (sz i)) (hmi : ∀ i j, i < n → mi i = some j → j < i) : (wr_D sf sd E PF am ss sz mi live n).2 = (wt_L sf sd (ds_E n E (wr_D sf sd E PF am ss sz mi live n).1) PF am ss sz live n).length := by
  have hb := wr_D_b (sf := sf) (sd := sd) (live := live) hn hlf hmi
  rw [wt_sum]
  have h1 := me_sum E mi live n (fun i => (lf_L sf sd (E i) (PF i) (am i) (ss i) (sz i)).length) 0 hmi
  rw [Nat.zero_add] at h1
  rw [show (wr_D sf sd E PF am ss sz mi live n).2 = _ from h1]
  congr 1
  · refine sm_ext n (fun i hi => ?_)
    rw [show ds_E n E (wr_D sf sd E PF am ss sz mi live n).1 i = el_ds (E i) _ from if_pos hi, lf_L_ds]
  · refine sm_ext n (fun i hi => ?_)
    rw [show ds_E n E (wr_D sf sd E PF am ss sz mi live n).1 i = el_ds (E i) _ from if_pos hi, hd_hdl _ _ (by have := hb i hi; omega)]
    rfl
theorem c_EF_write {G : Ev_G} {w : Ev_W} (he : is_EF w) {n sd : Nat} {L As : Nat → Option Nat} {sf : Nat → Int32} (hwr : is_Wr w) (htr : is_Tr w n L As sf sd) (hn : n ≤ 60) (hsd : sd ≤ 1200) {m : Nat} {ad : Nat → Nat} {E : Nat → Ev_E} {PF : Nat → Nat → Int32} {mi : Nat → Option Nat} (hes : is_Es w m L ad E PF) (hm : n ≤ m) (hok : el_ok n ad E mi) {am ss : Nat → Nat} {sz : Nat → Nat → Nat} (hlf : ∀ i, i < n → lf_ok (E i) (PF i) (am i) (ss i) (sz i)) (hro1 : ∃ c f, is_Ro w 114 115 0 c f) {c0 : Nat} {f0 : Nat → Int32} (hro : is_Ro w 103 104 640 c0 f0) (live : Int32) (hck : ∀ i, i < n → (E i).1 = 14 → ∃ j, mi i = some j) : ev_Met G M_EF_write 6 0 0 [.ref 100, .int live] w (fun v w' => (640 < (wr_D sf sd E PF am ss sz mi live n).2 ∧ v = some (.int (-8)) ∧ ms_inv w w' n m sd L As sf ad (ds_E n E (wr_D sf sd E PF am ss sz mi live n).1) PF) ∨ ((wr_D sf sd E PF am ss sz mi live n).2 ≤ 640 ∧ v = some (.int (nI (wt_L sf sd (ds_E n E (wr_D sf sd E PF am ss sz mi live n).1) PF am ss sz live n).length)) ∧ ∃ w1, ms_inv w w1 n m sd L As sf ad (ds_E n E (wr_D sf sd E PF am ss sz mi live n).1) PF ∧ pt_inv w1 w' n m sd L As sf ad (dp_E n (ds_E n E (wr_D sf sd E PF am ss sz mi live n).1) (wt_p sf sd (ds_E n E (wr_D sf sd E PF am ss sz mi live n).1) PF am ss sz live)) PF (wt_L sf sd (ds_E n E (wr_D sf sd E PF am ss sz mi live n).1) PF am ss sz live n).length (ck_go (ds_E n E (wr_D sf sd E PF am ss sz mi live n).1) mi (wt_L sf sd (ds_E n E (wr_D sf sd E PF am ss sz mi live n).1) PF am ss sz live n).length (wt_p sf sd (ds_E n E (wr_D sf sd E PF am ss sz mi live n).1) PF am ss sz live) (wr_D sf sd E PF am ss sz mi live n).1 n 0 (ro_bs 640 (wt_L sf sd (ds_E n E (wr_D sf sd E PF am ss sz mi live n).1) PF am ss sz live n) f0 0)))) := by
  refine ev_Met.of md_EF_write (Nat.le_of_ble_eq_true rfl) (fun X hX hR => ?_)
  have hmi : ∀ i j, i < n → mi i = some j → j < i := fun i j hi => (hok i hi).2.2.2 j
  have hb := wr_D_b (sf := sf) (sd := sd) (live := live) hn hlf hmi
  have hE2 : ∀ i, i < n → (ds_E n E (wr_D sf sd E PF am ss sz mi live n).1) i = el_ds (E i) (nI ((wr_D sf sd E PF am ss sz mi live n).1 i)) := fun i hi => if_pos hi
  have hlf2 : ∀ i, i < n → lf_ok ((ds_E n E (wr_D sf sd E PF am ss sz mi live n).1) i) (PF i) (am i) (ss i) (sz i) := fun i hi => by rw [hE2 i hi]; exact hlf i hi
  have hd2 : ∀ i, i < n → ((ds_E n E (wr_D sf sd E PF am ss sz mi live n).1) i).2.2.2 11 = nI ((wr_D sf sd E PF am ss sz mi live n).1 i) ∧ (wr_D sf sd E PF am ss sz mi live n).1 i ≤ 84960 := fun i hi => by rw [hE2 i hi]; exact ⟨rfl, hb i hi⟩
  have hck2 : ∀ i, i < n → ((ds_E n E (wr_D sf sd E PF am ss sz mi live n).1) i).1 = 14 → ∃ j, mi i = some j := fun i hi z => by rw [hE2 i hi] at z; exact hck i hi z
  have htt : (wr_D sf sd E PF am ss sz mi live n).2 ≤ 84960 := by
    rw [wr_D_t hn hlf hmi]
    have := wt_len sf sd (ds_E n E (wr_D sf sd E PF am ss sz mi live n).1) PF am ss sz live n hlf2
    omega
  refine q_aload hX 0 d_EF_write_0 rfl (by first | rfl | assumption) ?_
  refine r_getf hX d_EF_write_1 fl_EF_49 he rfl ?_
  refine q_iload hX 1 d_EF_write_4 rfl (by first | rfl | assumption) ?_
  refine r_callV (as := [_]) hX d_EF_write_5 lk_EF_206 hwr rfl rfl (Nat.le_of_ble_eq_true rfl) (by decide) 0 0 (Nat.le_refl _) (Nat.le_refl _) (c_Wr_measureTree (G := G) hwr htr hn hsd hes hm hok hlf hro1 live) (fun v w1 hq => ?_)
  obtain ⟨rfl, h1⟩ := hq
  have he1 : w1.2 100 = _ := (h1.2.2.2.1 100 (by decide) (by decide)).trans he
  have hwr1 : w1.2 113 = _ := (h1.2.2.2.1 113 (by decide) (by decide)).trans hwr
  have hroa : is_Ro w1 103 104 640 c0 f0 := ⟨(h1.2.2.2.1 103 (by decide) (by decide)).trans hro.1, (h1.2.2.2.1 104 (by decide) (by decide)).trans hro.2⟩
  have hcm : nI (wr_D sf sd E PF am ss sz mi live n).2 ≤ 640 ↔ (wr_D sf sd E PF am ss sz mi live n).2 ≤ 640 := nI_leI (b := 640) (by omega) (by decide)
  refine r_sipush (v := 640) hX d_EF_write_8 (by decide) ?_
  refine r_icmp_le hX 19 d_EF_write_11 (by decide) (fun c11 => ?_) (fun c11 => ?_)
  · refine q_aload hX 0 d_EF_write_19 rfl (by first | rfl | assumption) ?_
    refine r_getf hX d_EF_write_20 fl_EF_49 he1 rfl ?_
    refine q_iload hX 1 d_EF_write_23 rfl (by first | rfl | assumption) ?_
    refine r_callV (as := [_]) hX d_EF_write_24 lk_EF_210 hwr1 rfl rfl (Nat.le_of_ble_eq_true rfl) (by decide) 0 0 (Nat.le_refl _) (Nat.le_refl _) (c_Wr_putTree (G := G) hwr1 h1.1 hn hsd h1.2.1 hm (ok_ds hok _) hlf2 hroa live hd2 hck2) (fun v w2 hq => ?_)
    obtain ⟨rfl, q1⟩ := hq
    refine r_iret hX hR d_EF_write_27 rfl (by first | rfl | assumption) ?_
    exact Or.inr ⟨hcm.mp c11, rfl, w1, h1, q1⟩
  · refine r_bipush (v := -8) hX d_EF_write_14 (by decide) ?_
    refine r_goto hX 27 d_EF_write_16 (by decide) ?_
    refine r_iret hX hR d_EF_write_27 rfl (by first | rfl | assumption) ?_
    exact Or.inl ⟨Nat.lt_of_not_le (fun z => c11 (hcm.mpr z)), rfl, h1⟩
