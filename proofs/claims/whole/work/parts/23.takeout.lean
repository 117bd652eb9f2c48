/-! ===== Tree.takeOut ===== -/
theorem gd_l {l : List Nat} {x t : Nat} (h : t < l.length) : (l ++ [x]).getD t 0 = l.getD t 0 := by
  rw [List.getD_eq_getElem?_getD, List.getD_eq_getElem?_getD, List.getElem?_append_left h]
theorem gd_r {l : List Nat} {x : Nat} : (l ++ [x]).getD l.length 0 = x := by
  rw [List.getD_eq_getElem?_getD, List.getElem?_append_right (Nat.le_refl _)]
  simp
theorem gd_al {l r : List Nat} {t : Nat} (h : t < l.length) : (l ++ r).getD t 0 = l.getD t 0 := by
  rw [List.getD_eq_getElem?_getD, List.getD_eq_getElem?_getD, List.getElem?_append_left h]
theorem gd_ar {l r : List Nat} {t : Nat} (h : l.length ≤ t) : (l ++ r).getD t 0 = r.getD (t - l.length) 0 := by
  rw [List.getD_eq_getElem?_getD, List.getD_eq_getElem?_getD, List.getElem?_append_right h]
theorem gd_range {k t : Nat} (h : t < k) : (List.range k).getD t 0 = t := by
  rw [List.getD_eq_getElem?_getD, List.getElem?_range h]; rfl
def tk_pi (E : Nat → Ev_E) (a s n k : Nat) (t : Nat) : Nat := if t < n then (tk_K E a s n k ++ tk_G E a s n k).getD t 0 else t
/-- what takeOut makes of the tree -/
def tk_post (w w' : Ev_W) (n m k s sd : Nat) (L : Nat → Option Nat) (sf : Nat → Int32) (ad : Nat → Nat) (E : Nat → Ev_E) (PF : Nat → Nat → Int32) : Prop :=
  ∃ L' As' : Nat → Option Nat, is_Tr w' (tk_K E (ad k) s n k).length L' As' sf sd ∧ is_Es w' m L' (fun t => ad (tk_pi E (ad k) s n k t)) (fun t => if t < (tk_K E (ad k) s n k).length then el_n (E (tk_pi E (ad k) s n k t)) (nI t) else E (tk_pi E (ad k) s n k t)) (fun t => PF (tk_pi E (ad k) s n k t)) ∧ (∀ i, n ≤ i → L' i = L i) ∧ (∀ q : Nat, q < 139 → q ≠ 108 → q ≠ 109 → q ≠ 110 → w'.2 q = w.2 q) ∧ w'.1 = w.1
/-- the state of takeOut's first loop, at i, with the lists of those that stay and go so far -/
def tk_inv (w w1 : Ev_W) (n m i sd : Nat) (L L1 A1 : Nat → Option Nat) (sf : Nat → Int32) (ad : Nat → Nat) (E : Nat → Ev_E) (K1 G1 : List Nat) : Prop :=
  is_Tr w1 n L1 A1 sf sd ∧ (∀ t, t < K1.length → L1 t = L (K1.getD t 0)) ∧ (∀ x, i ≤ x → L1 x = L x) ∧ (∀ t, t < G1.length → A1 t = L (G1.getD t 0)) ∧ (∀ t, t < K1.length → w1.2 (ad (K1.getD t 0)) = some (el_C (ad (K1.getD t 0)) (el_n (E (K1.getD t 0)) (nI t)))) ∧ (∀ t, t < G1.length → w1.2 (ad (G1.getD t 0)) = some (el_C (ad (G1.getD t 0)) (E (G1.getD t 0)))) ∧ (∀ x, i ≤ x → x < m → w1.2 (ad x) = some (el_C (ad x) (E x))) ∧ (∀ q : Nat, q ≠ 109 → q ≠ 110 → (∀ x, x < m → q ≠ ad x) → w1.2 q = w.2 q) ∧ w1.1 = w.1 ∧ K1.length + G1.length = i ∧ (∀ t, t < K1.length → K1.getD t 0 < i) ∧ ∀ t, t < G1.length → G1.getD t 0 < i
theorem tk_stay {w w1 w2 : Ev_W} {n m i sd : Nat} {L L1 A1 : Nat → Option Nat} {sf : Nat → Int32} {ad : Nat → Nat} {E : Nat → Ev_E} {PF : Nat → Nat → Int32} {K1 G1 : List Nat} (hes : is_Es w m L ad E PF) (hi : i < m) (h : tk_inv w w1 n m i sd L L1 A1 sf ad E K1 G1)
    (hT : is_Tr w2 n (va_up L1 K1.length (some (ad i))) A1 sf sd) (hE : w2.2 (ad i) = some (el_C (ad i) (el_n (E i) (nI K1.length)))) (hs : ev_sm w1 w2 [109, ad i]) : tk_inv w w2 n m (i + 1) sd L (va_up L1 K1.length (some (ad i))) A1 sf ad E (K1 ++ [i]) G1 := by
  obtain ⟨a1, a2, a3, a4, a5, a6, a7, a8, a9, b1, b2, b3⟩ := h
  have hne : ∀ x, x < m → x ≠ i → w2.2 (ad x) = w1.2 (ad x) := fun x hx hxi => hs.2 _ (by
    have := (hes.1 x hx).2.1
    simp
    exact ⟨by omega, fun z => hxi (hes.2 x i hx hi z)⟩)
  refine ⟨hT, fun t ht => ?_, fun x hx => ?_, a4, fun t ht => ?_, fun t ht => ?_, fun x hx hxm => ?_, fun q h1 h2 h3 => ?_, hs.1.trans a9, by simp; omega, fun t ht => ?_, fun t ht => by have := b3 t ht; omega⟩
  · simp at ht
    unfold va_up
    by_cases z : t = K1.length
    · rw [if_pos z, z, gd_r]; exact ((hes.1 i hi).1).symm
    · rw [if_neg z, gd_l (by omega)]; exact a2 t (by omega)
  · unfold va_up
    rw [if_neg (by omega)]; exact a3 x (by omega)
  · simp at ht
    by_cases z : t = K1.length
    · rw [z, gd_r]; exact hE
    · rw [gd_l (by omega), hne _ (by have := b2 t (by omega); omega) (by have := b2 t (by omega); omega)]; exact a5 t (by omega)
  · rw [hne _ (by have := b3 t ht; omega) (by have := b3 t ht; omega)]; exact a6 t ht
  · rw [hne x hxm (by omega)]; exact a7 x (by omega) hxm
  · rw [hs.2 q (by simp; exact ⟨h1, h3 i hi⟩)]; exact a8 q h1 h2 h3
  · simp at ht
    by_cases z : t = K1.length
    · rw [z, gd_r]; omega
    · rw [gd_l (by omega)]; have := b2 t (by omega); omega
theorem tk_goes {w w1 : Ev_W} {n m i sd : Nat} {L L1 A1 : Nat → Option Nat} {sf : Nat → Int32} {ad : Nat → Nat} {E : Nat → Ev_E} {PF : Nat → Nat → Int32} {K1 G1 : List Nat} (hes : is_Es w m L ad E PF) (hi : i < m) (h : tk_inv w w1 n m i sd L L1 A1 sf ad E K1 G1) : tk_inv w (ev_set w1 110 (.inl (3, 60, .inr (.inr (va_up A1 G1.length (some (ad i))))))) n m (i + 1) sd L L1 (va_up A1 G1.length (some (ad i))) sf ad E K1 (G1 ++ [i]) := by
  obtain ⟨a1, a2, a3, a4, a5, a6, a7, a8, a9, b1, b2, b3⟩ := h
  have hne : ∀ x, x < m → (ev_set w1 110 (.inl (3, 60, .inr (.inr (va_up A1 G1.length (some (ad i))))))).2 (ad x) = w1.2 (ad x) := fun x hx => ev_set_ne _ _ (by have := (hes.1 x hx).2.1; omega)
  refine ⟨⟨?_, ?_, ev_set_self _ _ _, ?_⟩, a2, fun x hx => a3 x (by omega), fun t ht => ?_, fun t ht => ?_, fun t ht => ?_, fun x hx hxm => ?_, fun q h1 h2 h3 => ?_, a9, by simp; omega, fun t ht => by have := b2 t ht; omega, fun t ht => ?_⟩
  · rw [ev_set_ne _ _ (by decide)]; exact a1.1
  · rw [ev_set_ne _ _ (by decide)]; exact a1.2.1
  · rw [ev_set_ne _ _ (by decide)]; exact a1.2.2.2
  · simp at ht
    unfold va_up
    by_cases z : t = G1.length
    · rw [if_pos z, z, gd_r]; exact ((hes.1 i hi).1).symm
    · rw [if_neg z, gd_l (by omega)]; exact a4 t (by omega)
  · rw [hne _ (by have := b2 t ht; omega)]; exact a5 t ht
  · simp at ht
    by_cases z : t = G1.length
    · rw [z, gd_r, hne i hi]; exact a7 i (Nat.le_refl _) hi
    · rw [gd_l (by omega), hne _ (by have := b3 t (by omega); omega)]; exact a6 t (by omega)
  · rw [hne x hxm]; exact a7 x (by omega) hxm
  · rw [ev_set_ne _ _ h2]; exact a8 q h1 h2 h3
  · simp at ht
    by_cases z : t = G1.length
    · rw [z, gd_r]; omega
    · rw [gd_l (by omega)]; have := b3 t (by omega); omega
set_option maxHeartbeats 1000000 in
theorem c_Tr_takeOut {G : Ev_G} {w : Ev_W} {n sd : Nat} {L As : Nat → Option Nat} {sf : Nat → Int32} {m : Nat} {ad : Nat → Nat} {E : Nat → Ev_E} {PF : Nat → Nat → Int32} {mi : Nat → Option Nat} (htr : is_Tr w n L As sf sd) (hn : n ≤ 60) (hsd : sd ≤ 1200) (hes : is_Es w m L ad E PF) (hm : n ≤ m) (hok : el_ok n ad E mi) {k s : Nat} (hk : k < n) (hs : s < 17) : ev_Met G M_Tr_takeOut 1 0 0 [.ref 108, .ref (ad k), .ref s] w (fun v w' => v = none ∧ tk_post w w' n m k s sd L sf ad E PF) := by
  have htr0 := htr
  obtain ⟨t1, t2, t3, t4⟩ := htr
  have hn31 : n < 2 ^ 31 := by omega
  have hmok := mk_ok hes hm hok
  obtain ⟨k1, k2, k3, k4⟩ := hes.1 k (by omega)
  have heN : tr_end (el_lev E) n k ≤ n := tr_go_le _ _ _ _ _ (by omega)
  have heK : k + 1 ≤ tr_end (el_lev E) n k := tr_go_ge _ _ _ _ _
  obtain ⟨e, hee⟩ : ∃ e, e = tr_end (el_lev E) n k := ⟨_, rfl⟩
  rw [← hee] at heN heK
  refine ev_Met.of md_Tr_takeOut (Nat.le_of_ble_eq_true rfl) (fun X hX hR => ?_)
  obtain ⟨K, hKe⟩ : ∃ K, K = tk_K E (ad k) s n k := ⟨_, rfl⟩
  obtain ⟨Gs, hGe⟩ : ∃ Gs, Gs = tk_G E (ad k) s n k := ⟨_, rfl⟩
  have lp1 : ∀ (f i : Nat) (b : Bool) (ls : Ev_L) (w1 : Ev_W) (L1 A1 : Nat → Option Nat) (K1 G1 : List Nat), i + f = n → tk_inv w w1 n m i sd L L1 A1 sf ad E K1 G1 → K1 ++ (tk E (ad k) s e f i b).1 = K → G1 ++ (tk E (ad k) s e f i b).2 = Gs → ls.1 0 = some (.ref 108) → ls.1 1 = some (.ref (ad k)) → ls.1 2 = some (.ref s) → ls.1 3 = some (.int (nI G1.length)) → ls.1 4 = some (.int (nI K1.length)) → ls.1 5 = some (.int (b_i b)) → ls.1 6 = some (.int (nI e)) → ls.1 7 = some (.int (nI i)) → ev_W G M_Tr_takeOut X 0 0 24 ls [] w1 := by
    intro f
    induction f with
    | zero =>
      intro i b ls w1 L1 A1 K1 G1 e1 hI eK eG l0 l1 l2 l3 l4 l5 l6 l7
      have hin : i = n := by omega
      subst hin
      have eK : K1 = K := by rw [← eK]; simp [tk]
      have eG : G1 = Gs := by rw [← eG]; simp [tk]
      subst eK
      subst eG
      obtain ⟨a1, a2, a3, a4, a5, a6, a7, a8, a9, b1, b2, b3⟩ := hI
      refine r_iload hX d_Tr_takeOut_24 (by first | rfl | assumption) ?_
      refine q_aload hX 0 d_Tr_takeOut_26 rfl (by first | rfl | assumption) ?_
      refine r_getf hX d_Tr_takeOut_27 fl_Tr_24 a1.1 rfl ?_
      refine r_icmp_ge hX 116 d_Tr_takeOut_30 (by decide) (fun _ => ?_) (fun c30 => absurd (nI_le (by omega) (by omega)) c30)
      refine q_aload hX 0 d_Tr_takeOut_116 rfl (by first | rfl | assumption) ?_
      refine r_iload hX d_Tr_takeOut_117 (by first | rfl | assumption) ?_
      refine r_putf hX d_Tr_takeOut_119 fp_Tr_24 a1.1 (by first | assumption | decide | omega) rfl rfl (Nat.le_of_ble_eq_true rfl) ?_
      refine r_iconst (v := 0) hX d_Tr_takeOut_122 (by decide) ?_
      refine r_istore hX d_Tr_takeOut_123 (by decide) ?_
      generalize hW9 : ev_set w1 108 _ = w9
      have hsame : ∀ q : Nat, q ≠ 108 → w9.2 q = w1.2 q := fun q h => by rw [← hW9, ev_set_ne _ _ h]
      have hE9 : ∀ t, t < G1.length → w9.2 (ad (G1.getD t 0)) = some (el_C (ad (G1.getD t 0)) (E (G1.getD t 0))) := fun t ht => by
        have := (hes.1 (G1.getD t 0) (by have := b3 t ht; omega)).2.1
        rw [hsame _ (by omega)]; exact a6 t ht
      have hA1 := a4
      have fin : ∀ (w2 : Ev_W) (L2 : Nat → Option Nat), is_Tr w2 K1.length L2 A1 sf sd → (∀ t, t < K1.length → L2 t = L (K1.getD t 0)) → (∀ t, t < G1.length → L2 (K1.length + t) = L (G1.getD t 0)) → (∀ x, i ≤ x → L2 x = L x) → ev_sm w9 w2 [109] → (none : Option Value) = none ∧ tk_post w w2 i m k s sd L sf ad E PF := by
        intro w2 L2 g1 g2 g3 g4 g5
        refine ⟨rfl, L2, A1, by rw [← hKe]; exact g1, ?_, g4, fun q h1 h2 h3 h4 => ?_, by rw [g5.1, ← hW9]; exact a9⟩
        · obtain ⟨p1, p2, p3⟩ := tk_inj (tk_all E (ad k) s hk)
          have hpm : ∀ t, t < m → tk_pi E (ad k) s i k t < m := fun t ht => by
            unfold tk_pi
            by_cases z : t < i
            · rw [if_pos z]; have := p2 t z; omega
            · rw [if_neg z]; exact ht
          have hpart : ∀ x, x < m → w2.2 (ad x + 1) = some (.inl (0, 16, .inl (PF x))) := fun x hx => by
            have h1 := (hes.1 x hx).2.1
            rw [g5.2 _ (by simp; omega), hsame _ (by omega), a8 _ (by omega) (by omega) (fun y hy z => by
              have h2 := (hes.1 x hx).2.2.2
              rw [z, (hes.1 y hy).2.2.1] at h2
              cases h2)]
            exact (hes.1 x hx).2.2.2
          have hcl2 : ∀ x, x < m → w2.2 (ad x) = w1.2 (ad x) := fun x hx => by
            have h1 := (hes.1 x hx).2.1
            rw [g5.2 _ (by simp; omega), hsame _ (by omega)]
          refine ⟨fun t ht => ⟨?_, (hes.1 _ (hpm t ht)).2.1, ?_, hpart _ (hpm t ht)⟩, fun t u ht hu z => ?_⟩
          · dsimp only
            unfold tk_pi
            by_cases z : t < i
            · rw [if_pos z, ← hKe, ← hGe]
              by_cases z2 : t < K1.length
              · rw [g2 t z2, gd_al z2]; exact (hes.1 _ (by have := b2 t z2; omega)).1
              · have := g3 (t - K1.length) (by omega)
                rw [show K1.length + (t - K1.length) = t by omega] at this
                rw [this, gd_ar (by omega)]; exact (hes.1 _ (by have := b3 (t - K1.length) (by omega); omega)).1
            · rw [if_neg z, g4 t (by omega)]; exact (hes.1 t ht).1
          · dsimp only
            rw [hcl2 _ (hpm t ht), ← hKe]
            unfold tk_pi
            by_cases z : t < i
            · rw [if_pos z, ← hKe, ← hGe]
              by_cases z2 : t < K1.length
              · rw [if_pos z2, gd_al z2]; exact a5 t z2
              · rw [if_neg z2, gd_ar (by omega)]; exact a6 _ (by omega)
            · rw [if_neg z, if_neg (by omega)]; exact a7 t (by omega) ht
          · have z1 := hes.2 _ _ (hpm t ht) (hpm u hu) z
            unfold tk_pi at z1
            by_cases y1 : t < i
            · by_cases y2 : u < i
              · rw [if_pos y1, if_pos y2] at z1; exact p3 t u y1 y2 z1
              · rw [if_pos y1, if_neg y2] at z1; have := p2 t y1; omega
            · by_cases y2 : u < i
              · rw [if_neg y1, if_pos y2] at z1; have := p2 u y2; omega
              · rw [if_neg y1, if_neg y2] at z1; exact z1
        · rw [g5.2 q (by simp; exact h3), hsame q h2]
          exact a8 q h3 h4 (fun x hx => by have := (hes.1 x hx).2.1; omega)
      have lp2 : ∀ (f j : Nat) (ls : Ev_L) (w1 : Ev_W) (L1 : Nat → Option Nat), j + f = G1.length → is_Tr w1 K1.length L1 A1 sf sd → (∀ t, t < K1.length → L1 t = L (K1.getD t 0)) → (∀ t, t < j → L1 (K1.length + t) = L (G1.getD t 0)) → (∀ x, i ≤ x → L1 x = L x) → ev_sm w9 w1 [109] → ls.1 0 = some (.ref 108) → ls.1 3 = some (.int (nI G1.length)) → ls.1 4 = some (.int (nI K1.length)) → ls.1 7 = some (.int (nI j)) → ev_W G M_Tr_takeOut X 0 0 125 ls [] w1 := by
        intro f
        induction f with
        | zero =>
          intro j ls w1 L1 e1 g1 g2 g3 g4 g5 l0 l3 l4 l7
          have hj : j = G1.length := by omega
          rw [hj] at g3
          refine r_iload hX d_Tr_takeOut_125 (by first | rfl | assumption) ?_
          refine q_iload hX 3 d_Tr_takeOut_127 rfl (by first | rfl | assumption) ?_
          refine r_icmp_ge hX 154 d_Tr_takeOut_128 (by decide) (fun _ => ?_) (fun c128 => absurd (nI_le (by omega) (by omega)) c128)
          refine r_vret hX hR d_Tr_takeOut_154 rfl ?_
          exact fin w1 L1 g1 g2 g3 g4 g5
        | succ f ih =>
          intro j ls w1 L1 e1 g1 g2 g3 g4 g5 l0 l3 l4 l7
          have hGj : G1.getD j 0 < i := b3 j (by omega)
          have hAj : A1 j = some (ad (G1.getD j 0)) := by rw [hA1 j (by omega)]; exact (hes.1 _ (by omega)).1
          have hcell : w1.2 (ad (G1.getD j 0)) = some (el_C (ad (G1.getD j 0)) (E (G1.getD j 0))) := by
            have := (hes.1 (G1.getD j 0) (by omega)).2.1
            rw [g5.2 _ (by intro z; have := List.mem_singleton.mp z; omega)]; exact hE9 j (by omega)
          refine r_iload hX d_Tr_takeOut_125 (by first | rfl | assumption) ?_
          refine q_iload hX 3 d_Tr_takeOut_127 rfl (by first | rfl | assumption) ?_
          refine r_icmp_ge hX 154 d_Tr_takeOut_128 (by decide) (fun c128 => absurd c128 (nI_ge (by omega) (by omega))) (fun _ => ?_)
          refine q_aload hX 0 d_Tr_takeOut_131 rfl (by first | rfl | assumption) ?_
          refine r_getf hX d_Tr_takeOut_132 fl_Tr_11 g1.1 rfl ?_
          refine r_iload hX d_Tr_takeOut_135 (by first | rfl | assumption) ?_
          refine r_iload hX d_Tr_takeOut_137 (by first | rfl | assumption) ?_
          refine r_iadd hX d_Tr_takeOut_139 ?_
          refine q_aload hX 0 d_Tr_takeOut_140 rfl (by first | rfl | assumption) ?_
          refine r_getf hX d_Tr_takeOut_141 fl_Tr_17 g1.1 rfl ?_
          refine r_iload hX d_Tr_takeOut_144 (by first | rfl | assumption) ?_
          refine r_aald hX d_Tr_takeOut_146 g1.2.2.1 rfl (vp_in_nI (by omega) (by decide)) ?_
          rw [nI_clamp (by omega), hAj]
          refine r_aast hX d_Tr_takeOut_147 g1.2.1 (by first | assumption | decide | omega) hcell rfl rfl (by rw [nI_add]; exact vp_in_nI (by omega) (by decide)) ?_
          refine r_iinc hX d_Tr_takeOut_148 (by first | rfl | assumption) ?_
          refine r_goto hX 125 d_Tr_takeOut_151 (by decide) ?_
          rw [nI_add, nI_clamp (by omega)]
          refine ih (j + 1) _ _ (va_up L1 (K1.length + j) (some (ad (G1.getD j 0)))) (by omega) ⟨?_, ev_set_self _ _ _, ?_, ?_⟩ (fun t ht => ?_) (fun t ht => ?_) (fun x hx => ?_) (g5.set (by simp)) l0 l3 l4 (by show some (Value.int (nI j + Int32.ofInt 1)) = _; rw [show Int32.ofInt 1 = 1 from rfl, nI_1])
          · rw [ev_set_ne _ _ (by decide)]; exact g1.1
          · rw [ev_set_ne _ _ (by decide)]; exact g1.2.2.1
          · rw [ev_set_ne _ _ (by decide)]; exact g1.2.2.2
          · unfold va_up; rw [if_neg (by omega)]; exact g2 t ht
          · unfold va_up
            by_cases z : t = j
            · rw [if_pos (by omega), z]; exact ((hes.1 _ (by omega)).1).symm
            · rw [if_neg (by omega)]; exact g3 t (by omega)
          · unfold va_up; rw [if_neg (by omega)]; exact g4 x hx
      exact lp2 G1.length 0 _ w9 L1 (by omega) ⟨by rw [← hW9, ev_set_self]; rfl, by rw [hsame _ (by decide)]; exact a1.2.1, by rw [hsame _ (by decide)]; exact a1.2.2.1, by rw [hsame _ (by decide)]; exact a1.2.2.2⟩ a2 (fun t ht => absurd ht (Nat.not_lt_zero t)) (fun x hx => a3 x hx) ev_sm.rf l0 l3 l4 rfl
    | succ f ih =>
      intro i b ls w1 L1 A1 K1 G1 e1 hI eK eG l0 l1 l2 l3 l4 l5 l6 l7
      have hi : i < n := by omega
      obtain ⟨u1, u2, u3, u4⟩ := hes.1 i (by omega)
      obtain ⟨o1, o2, o3, o4⟩ := hok i hi
      have hmo := hmok i hi
      have hcl : (nI i).toNatClampNeg = i := nI_clamp (by omega)
      have hci : w1.2 (ad i) = some (el_C (ad i) (E i)) := hI.2.2.2.2.2.2.1 i (Nat.le_refl _) (by omega)
      have hlen := hI.2.2.2.2.2.2.2.2.2.1
      have tail : ∀ (b2 : Bool) (ls : Ev_L), b2 = tk_b E (ad k) s e i b → ls.1 0 = some (.ref 108) → ls.1 1 = some (.ref (ad k)) → ls.1 2 = some (.ref s) → ls.1 3 = some (.int (nI G1.length)) → ls.1 4 = some (.int (nI K1.length)) → ls.1 5 = some (.int (b_i b2)) → ls.1 6 = some (.int (nI e)) → ls.1 7 = some (.int (nI i)) → ls.1 8 = some (.ref (ad i)) → ev_W G M_Tr_takeOut X 0 0 80 ls [] w1 := by
        intro b2 ls hb2 l0 l1 l2 l3 l4 l5 l6 l7 l8
        refine r_iload hX d_Tr_takeOut_80 (by first | rfl | assumption) ?_
        refine r_if_eq hX 99 d_Tr_takeOut_82 (by decide) (fun c82 => ?_) (fun c82 => ?_)
        · refine q_aload hX 0 d_Tr_takeOut_99 rfl (by first | rfl | assumption) ?_
          refine r_iload hX d_Tr_takeOut_100 (by first | rfl | assumption) ?_
          refine r_aload hX d_Tr_takeOut_102 (by first | rfl | assumption) ?_
          refine r_callV (as := [_, _]) hX d_Tr_takeOut_104 lk_Tr_62 hI.1.1 rfl rfl (Nat.le_of_ble_eq_true rfl) (by decide) 0 0 (Nat.le_refl _) (Nat.le_refl _) (c_Tr_putInLine (G := G) hI.1 hn hsd hci u2 K1.length (by omega)) (fun v w2 hq => ?_)
          obtain ⟨rfl, q1, q2, q3⟩ := hq
          refine r_iinc hX d_Tr_takeOut_107 (by first | rfl | assumption) ?_
          refine r_iinc hX d_Tr_takeOut_110 (by first | rfl | assumption) ?_
          refine r_goto hX 24 d_Tr_takeOut_113 (by decide) ?_
          exact ih (i + 1) b2 _ w2 _ _ (K1 ++ [i]) G1 (by omega) (tk_stay hes (by omega) hI q1 q2 q3) (by rw [← eK, tk, ← hb2, if_neg (by rw [b_i_0 c82]; decide), List.append_assoc]; rfl) (by rw [← eG, tk, ← hb2, if_neg (by rw [b_i_0 c82]; decide)]) l0 l1 l2 l3 (by show some (Value.int (nI K1.length + Int32.ofInt 1)) = _; rw [show Int32.ofInt 1 = 1 from rfl, nI_1, List.length_append]; rfl) l5 l6 (by show some (Value.int (nI i + Int32.ofInt 1)) = _; rw [show Int32.ofInt 1 = 1 from rfl, nI_1])
        · refine q_aload hX 0 d_Tr_takeOut_85 rfl (by first | rfl | assumption) ?_
          refine r_getf hX d_Tr_takeOut_86 fl_Tr_17 hI.1.1 rfl ?_
          refine q_iload hX 3 d_Tr_takeOut_89 rfl (by first | rfl | assumption) ?_
          refine r_aload hX d_Tr_takeOut_90 (by first | rfl | assumption) ?_
          refine r_aast hX d_Tr_takeOut_92 hI.1.2.2.1 (by first | assumption | decide | omega) hci rfl rfl (vp_in_nI (by omega) (by decide)) ?_
          refine r_iinc hX d_Tr_takeOut_93 (by first | rfl | assumption) ?_
          refine r_goto hX 110 d_Tr_takeOut_96 (by decide) ?_
          refine r_iinc hX d_Tr_takeOut_110 (by first | rfl | assumption) ?_
          refine r_goto hX 24 d_Tr_takeOut_113 (by decide) ?_
          rw [nI_clamp (by omega)]
          exact ih (i + 1) b2 _ _ _ _ K1 (G1 ++ [i]) (by omega) (tk_goes hes (by omega) hI) (by rw [← eK, tk, ← hb2, if_pos (b_i_1 c82)]) (by rw [← eG, tk, ← hb2, if_pos (b_i_1 c82), List.append_assoc]; rfl) l0 l1 l2 (by show some (Value.int (nI G1.length + Int32.ofInt 1)) = _; rw [show Int32.ofInt 1 = 1 from rfl, nI_1, List.length_append]; rfl) l4 l5 l6 (by show some (Value.int (nI i + Int32.ofInt 1)) = _; rw [show Int32.ofInt 1 = 1 from rfl, nI_1])
      refine r_iload hX d_Tr_takeOut_24 (by first | rfl | assumption) ?_
      refine q_aload hX 0 d_Tr_takeOut_26 rfl (by first | rfl | assumption) ?_
      refine r_getf hX d_Tr_takeOut_27 fl_Tr_24 hI.1.1 rfl ?_
      refine r_icmp_ge hX 116 d_Tr_takeOut_30 (by decide) (fun c30 => absurd c30 (nI_ge (by omega) (by omega))) (fun _ => ?_)
      refine q_aload hX 0 d_Tr_takeOut_33 rfl (by first | rfl | assumption) ?_
      refine r_getf hX d_Tr_takeOut_34 fl_Tr_11 hI.1.1 rfl ?_
      refine r_iload hX d_Tr_takeOut_37 (by first | rfl | assumption) ?_
      refine r_aald hX d_Tr_takeOut_39 hI.1.2.1 rfl (vp_in_nI (by omega) (by decide)) ?_
      rw [hcl, hI.2.2.1 i (Nat.le_refl _), u1]
      refine r_astore hX d_Tr_takeOut_40 (by decide) ?_
      refine r_iload hX d_Tr_takeOut_42 (by first | rfl | assumption) ?_
      refine r_iload hX d_Tr_takeOut_44 (by first | rfl | assumption) ?_
      refine r_icmp_lt hX 55 d_Tr_takeOut_46 (by decide) (fun c46 => ?_) (fun c46 => ?_)
      · refine r_aload hX d_Tr_takeOut_55 (by first | rfl | assumption) ?_
        refine r_getf hX d_Tr_takeOut_57 fl_Tr_41 hci rfl ?_
        refine q_aload hX 1 d_Tr_takeOut_60 rfl (by first | rfl | assumption) ?_
        refine r_acmp_ne (u := some (ad k)) hX 80 hmo (by intro r h; cases h; omega) d_Tr_takeOut_61 (by decide) (fun c61 => ?_) (fun c61 => ?_)
        · exact tail b _ (by rw [tk_b, if_neg (by rw [i_lt, nI_toInt (by omega), nI_toInt (by omega)] at c46; omega), tr_wb, if_neg c61]) l0 l1 l2 l3 l4 l5 l6 l7 rfl
        · refine r_aload hX d_Tr_takeOut_64 (by first | rfl | assumption) ?_
          refine r_getf hX d_Tr_takeOut_66 fl_Tr_55 hci rfl ?_
          refine q_aload hX 2 d_Tr_takeOut_69 rfl (by first | rfl | assumption) ?_
          refine r_acmp_ne (o := some (E i).1) (u := some s) hX 77 (by intro r h; cases h; exact Or.inl o2) (by intro r h; cases h; exact Or.inl hs) d_Tr_takeOut_70 (by decide) (fun c70 => ?_) (fun c70 => ?_)
          · refine r_iconst (v := 0) hX d_Tr_takeOut_77 (by decide) ?_
            refine r_istore hX d_Tr_takeOut_78 (by decide) ?_
            exact tail false _ (by rw [tk_b, if_neg (by rw [i_lt, nI_toInt (by omega), nI_toInt (by omega)] at c46; omega), tr_wb, if_pos c61, decide_eq_false (fun z => c70 (by rw [z]))]) l0 l1 l2 l3 l4 rfl l6 l7 rfl
          · refine r_iconst (v := 1) hX d_Tr_takeOut_73 (by decide) ?_
            refine r_goto hX 78 d_Tr_takeOut_74 (by decide) ?_
            refine r_istore hX d_Tr_takeOut_78 (by decide) ?_
            exact tail true _ (by rw [tk_b, if_neg (by rw [i_lt, nI_toInt (by omega), nI_toInt (by omega)] at c46; omega), tr_wb, if_pos c61, decide_eq_true (Option.some.inj c70)]) l0 l1 l2 l3 l4 rfl l6 l7 rfl
      · refine r_iconst (v := 0) hX d_Tr_takeOut_49 (by decide) ?_
        refine r_istore hX d_Tr_takeOut_50 (by decide) ?_
        refine r_goto hX 80 d_Tr_takeOut_52 (by decide) ?_
        exact tail false _ (by rw [tk_b, if_pos (by rw [i_lt, nI_toInt (by omega), nI_toInt (by omega)] at c46; omega)]) l0 l1 l2 l3 l4 rfl l6 l7 rfl
  refine r_iconst (v := 0) hX d_Tr_takeOut_0 (by decide) ?_
  refine q_istore hX 3 d_Tr_takeOut_1 rfl (by decide) ?_
  refine q_aload hX 1 d_Tr_takeOut_2 rfl (by first | rfl | assumption) ?_
  refine r_getf hX d_Tr_takeOut_3 fl_Tr_31 k3 rfl ?_
  refine r_iconst (v := 1) hX d_Tr_takeOut_6 (by decide) ?_
  refine r_iadd hX d_Tr_takeOut_7 ?_
  rw [(hok k hk).1, nI_1]
  refine r_istore hX d_Tr_takeOut_8 (by decide) ?_
  refine r_iconst (v := 0) hX d_Tr_takeOut_10 (by decide) ?_
  refine r_istore hX d_Tr_takeOut_11 (by decide) ?_
  refine q_aload hX 0 d_Tr_takeOut_13 rfl (by first | rfl | assumption) ?_
  refine q_aload hX 1 d_Tr_takeOut_14 rfl (by first | rfl | assumption) ?_
  refine r_callV (as := [_]) hX d_Tr_takeOut_15 lk_Tr_37 t1 rfl rfl (Nat.le_of_ble_eq_true rfl) (by decide) 0 0 (Nat.le_refl _) (Nat.le_refl _) (c_Tr_endOf (G := G) htr0 hn hsd hes hm hk (hok k hk).1) (fun v w1 hq => ?_)
  obtain ⟨rfl, hw0⟩ := hq
  rw [hw0]
  refine r_istore hX d_Tr_takeOut_18 (by decide) ?_
  refine r_iload hX d_Tr_takeOut_20 (by first | rfl | assumption) ?_
  refine r_istore hX d_Tr_takeOut_22 (by decide) ?_
  rw [← hee]
  refine lp1 (n - (k + 1)) (k + 1) false _ w L As (List.range (k + 1)) [] (by omega) ⟨htr0, fun t ht => ?_, fun _ _ => rfl, fun t ht => absurd ht (Nat.not_lt_zero t), fun t ht => ?_, fun t ht => absurd ht (Nat.not_lt_zero t), fun x _ hx => (hes.1 x hx).2.2.1, fun _ _ _ _ => rfl, rfl, by simp, fun t ht => ?_, fun t ht => absurd ht (Nat.not_lt_zero t)⟩ (by rw [hKe, tk_K, ← hee]) (by rw [hGe, tk_G, ← hee]; rfl) rfl rfl rfl rfl (by rw [List.length_range]; rfl) rfl rfl rfl
  · simp at ht; rw [gd_range ht]
  · simp at ht
    rw [gd_range ht, (hes.1 t (by omega)).2.2.1]
    congr 2
    have h9 := (hok t (by omega)).1
    unfold el_n
    revert h9
    generalize E t = Et
    intro h9
    obtain ⟨x1, x2, x3, x4⟩ := Et
    congr 3
    funext y
    unfold upd
    by_cases z : y = 2
    · rw [if_pos z, z]; exact h9
    · rw [if_neg z]
  · simp at ht; rw [gd_range ht]; exact ht
