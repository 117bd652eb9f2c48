/-! ===== Reader: a block's head, a CHECK, a text ===== -/
theorem fl_sh : ∀ b, b < 256 → (nI b >>> ((1 : Int32) &&& 31)) &&& 3 = nI (b / 2 % 4) := by decide +kernel
theorem fl_127 : ∀ b, b < 256 → nI b &&& 127 = nI (b % 128) := by decide +kernel
def bh_t (g : Nat → Nat) (q : Nat) : Int32 := (nI (nb g q 2)).toInt16.toInt32
abbrev Ev_B : Type := Nat × Int32 × Bool × Nat × Nat × Nat
/-- track, time, key, lacing, frames, place -/
def bh_R (g : Nat → Nat) (e t q : Nat) : Ev_B := (t, bh_t g q, decide (128 ≤ g (q + 2)), g (q + 2) / 2 % 4, (if g (q + 2) / 2 % 4 = 0 then 1 else if q + 3 < e then g (q + 3) + 1 else 0), (if g (q + 2) / 2 % 4 = 0 then q + 3 else if q + 3 < e then q + 4 else q + 3))
abbrev bh_ok (g : Nat → Nat) (p e : Nat) (r : Nat × Nat) : Prop := 1 ≤ r.1 ∧ r.1 ≤ 126 ∧ p + r.2 + 3 ≤ e ∧ g (p + r.2 + 2) % 128 = 2 * (g (p + r.2 + 2) / 2 % 4)
def bh (g : Nat → Nat) (p e : Nat) : Option Ev_B := match vi g p e with
  | none => none
  | some r => if bh_ok g p e r then some (bh_R g e r.1 (p + r.2)) else none
def bh_post (w w' : Ev_W) (o : Option Ev_B) (a : Nat) (E : Ev_E) (e : Nat) (fp : Int32) (ms : Option Nat) (tg : Int32) (v : Option Value) : Prop := match o with
  | none => v = some (.int 0) ∧ re_no w w' fp ms e tg [112]
  | some R => v = some (.int (nI R.2.2.2.2.1)) ∧ (∃ vf' vL', is_Re w' fp ms (nI R.2.2.2.2.2) (nI e) tg vf' vL') ∧ w'.2 a = some (el_C a (el_d E (nI R.1) R.2.1 (b_i R.2.2.1) (nI R.2.2.2.1))) ∧ ev_sm w w' [112, a]
theorem c_Re_readBlockHead {G : Ev_G} {w : Ev_W} {c : Nat} {f : Nat → Int32} (hin : is_Ro w 101 102 640 c f) {g : Nat → Nat} (hg : rd_g c f g) {fp tg vf vL : Int32} {ms : Option Nat} {p e : Nat} (hre : is_Re w fp ms (nI p) (nI e) tg vf vL) (hec : e ≤ c) (hpe : p ≤ e) {a : Nat} {E : Ev_E} (hE : w.2 a = some (el_C a E)) (ha : 139 ≤ a) : ev_Met G M_Re_readBlockHead 3 0 0 [.ref 112, .ref a] w (fun v w' => bh_post w w' (bh g p e) a E e fp ms tg v) := by
  have hc := hg.1
  refine ev_Met.of md_Re_readBlockHead (Nat.le_of_ble_eq_true rfl) (fun X hX hR => ?_)
  refine q_aload hX 0 d_Re_readBlockHead_0 rfl (by first | rfl | assumption) ?_
  refine r_callV (as := []) hX d_Re_readBlockHead_1 lk_Re_97 hre rfl rfl (Nat.le_of_ble_eq_true rfl) (by decide) 0 0 (Nat.le_refl _) (Nat.le_refl _) (c_Re_nextVint (G := G) hin hg hre hec (by omega)) (fun v w1 hq => ?_)
  have hq : vi_post _ _ _ _ _ _ _ _ _ _ _ := hq
  cases hvi : vi g p e with
  | none =>
    rw [vi_post, hvi] at hq
    obtain ⟨rfl, ⟨vf9, vL9, hr1⟩, hs1⟩ := hq
    refine q_lstore hX 2 d_Re_readBlockHead_4 rfl (by decide) ?_
    refine q_lload hX 2 d_Re_readBlockHead_5 rfl (by first | rfl | assumption) ?_
    refine r_lconst (v := 1) hX d_Re_readBlockHead_6 (by decide) ?_
    refine r_lcmp hX d_Re_readBlockHead_7 ?_
    refine r_if_lt hX 32 d_Re_readBlockHead_8 (by decide) (fun _ => ?_) (fun c8 => absurd (by decide) c8)
    refine r_iconst (v := 0) hX d_Re_readBlockHead_32 (by decide) ?_
    refine r_iret hX hR d_Re_readBlockHead_33 rfl (by first | rfl | assumption) ?_
    show bh_post _ _ _ _ _ _ _ _ _ _
    rw [bh, hvi]
    exact ⟨rfl, ⟨p, _, _, hpe, hr1⟩, hs1⟩
  | some r =>
    have hv := vi_of hvi
    rw [vi_post, hvi] at hq
    obtain ⟨rfl, hr1, hs1⟩ := hq
    have hin1 := hin.sm hs1 (by decide) (by decide)
    refine q_lstore hX 2 d_Re_readBlockHead_4 rfl (by decide) ?_
    refine q_lload hX 2 d_Re_readBlockHead_5 rfl (by first | rfl | assumption) ?_
    refine r_lconst (v := 1) hX d_Re_readBlockHead_6 (by decide) ?_
    refine r_lcmp hX d_Re_readBlockHead_7 ?_
    refine r_if_lt hX 32 d_Re_readBlockHead_8 (by decide) (fun c8 => ?_) (fun c8 => ?_)
    · refine r_iconst (v := 0) hX d_Re_readBlockHead_32 (by decide) ?_
      refine r_iret hX hR d_Re_readBlockHead_33 rfl (by first | rfl | assumption) ?_
      show bh_post _ _ _ _ _ _ _ _ _ _
      rw [bh, hvi]; dsimp only; rw [if_neg (fun z => by have := z.1; rw [l_lt0, pk_lT (by omega), show (1 : Int64).toInt = 1 from rfl] at c8; omega)]
      exact ⟨rfl, ⟨p + r.2, _, _, by omega, hr1⟩, hs1⟩
    · refine q_lload hX 2 d_Re_readBlockHead_11 rfl (by first | rfl | assumption) ?_
      refine r_ldc2 hX d_Re_readBlockHead_12 m_331 ?_
      refine r_lcmp hX d_Re_readBlockHead_15 ?_
      refine r_if_gt hX 32 d_Re_readBlockHead_16 (by decide) (fun c16 => ?_) (fun c16 => ?_)
      · refine r_iconst (v := 0) hX d_Re_readBlockHead_32 (by decide) ?_
        refine r_iret hX hR d_Re_readBlockHead_33 rfl (by first | rfl | assumption) ?_
        show bh_post _ _ _ _ _ _ _ _ _ _
        rw [bh, hvi]; dsimp only; rw [if_neg (fun z => by have := z.2.1; rw [l_gt0, pk_lT (by omega), show (126 : Int64).toInt = 126 from rfl] at c16; omega)]
        exact ⟨rfl, ⟨p + r.2, _, _, by omega, hr1⟩, hs1⟩
      · refine q_aload hX 0 d_Re_readBlockHead_19 rfl (by first | rfl | assumption) ?_
        refine r_getf hX d_Re_readBlockHead_20 fl_Re_57 hr1 rfl ?_
        refine q_aload hX 0 d_Re_readBlockHead_23 rfl (by first | rfl | assumption) ?_
        refine r_getf hX d_Re_readBlockHead_24 fl_Re_32 hr1 rfl ?_
        refine r_isub hX d_Re_readBlockHead_27 ?_
        rw [nI_sb (by omega)]
        refine r_iconst (v := 3) hX d_Re_readBlockHead_28 (by decide) ?_
        refine r_icmp_ge hX 34 d_Re_readBlockHead_29 (by decide) (fun c29 => ?_) (fun c29 => ?_)
        · have hk1 : 1 ≤ r.1 := by rw [l_lt0, pk_lT (by omega), show (1 : Int64).toInt = 1 from rfl] at c8; omega
          have hk2 : r.1 ≤ 126 := by rw [l_gt0, pk_lT (by omega), show (126 : Int64).toInt = 126 from rfl] at c16; omega
          have hk3 : p + r.2 + 3 ≤ e := by have := (nI_leI (a := 3) (b := e - (p + r.2)) (by decide) (by omega)).mp c29; omega
          refine q_aload hX 0 d_Re_readBlockHead_34 rfl (by first | rfl | assumption) ?_
          refine r_iconst (v := 2) hX d_Re_readBlockHead_35 (by decide) ?_
          refine r_callV (as := [_]) hX d_Re_readBlockHead_36 lk_Re_65 hr1 rfl rfl (Nat.le_of_ble_eq_true rfl) (by decide) 0 0 (Nat.le_refl _) (Nat.le_refl _) (c_Re_nextNumber (G := G) hin1 hg hr1 2 (by omega)) (fun v w2 hq => ?_)
          obtain ⟨rfl, hr2, hs2⟩ := hq
          have hin2 := hin1.sm hs2 (by decide) (by decide)
          refine r_l2i hX d_Re_readBlockHead_39 ?_
          rw [lN_i]
          refine r_i2s hX d_Re_readBlockHead_40 ?_
          refine r_istore hX d_Re_readBlockHead_41 (by decide) ?_
          refine q_aload hX 0 d_Re_readBlockHead_43 rfl (by first | rfl | assumption) ?_
          refine r_callV (as := []) hX d_Re_readBlockHead_44 lk_Re_160 hr2 rfl rfl (Nat.le_of_ble_eq_true rfl) (by decide) 0 0 (Nat.le_refl _) (Nat.le_refl _) (c_Re_nextByte (G := G) hin2 hg hr2 hec (by omega)) (fun v w3 hq => ?_)
          rw [if_pos (by omega)] at hq
          obtain ⟨rfl, hr3, hs3⟩ := hq
          have hin3 := hin2.sm hs3 (by decide) (by decide)
          have hE3 := ((hs1.tr (hs2.tr hs3)).2 a (by simp; omega)).trans hE
          have hfl := (hg.2 (p + r.2 + 2) (by omega)).2
          refine r_istore hX d_Re_readBlockHead_47 (by decide) ?_
          refine r_iload hX d_Re_readBlockHead_49 (by first | rfl | assumption) ?_
          refine r_iconst (v := 1) hX d_Re_readBlockHead_51 (by decide) ?_
          refine r_ishr hX d_Re_readBlockHead_52 ?_
          refine r_iconst (v := 3) hX d_Re_readBlockHead_53 (by decide) ?_
          refine r_iand hX d_Re_readBlockHead_54 ?_
          rw [fl_sh _ hfl]
          refine r_istore hX d_Re_readBlockHead_55 (by decide) ?_
          refine r_iload hX d_Re_readBlockHead_57 (by first | rfl | assumption) ?_
          refine r_bipush (v := 127) hX d_Re_readBlockHead_59 (by decide) ?_
          refine r_iand hX d_Re_readBlockHead_61 ?_
          rw [fl_127 _ hfl]
          refine r_iconst (v := 2) hX d_Re_readBlockHead_62 (by decide) ?_
          refine r_iload hX d_Re_readBlockHead_63 (by first | rfl | assumption) ?_
          refine r_imul hX d_Re_readBlockHead_65 ?_
          rw [show (2 : Int32) * nI (g (p + r.2 + 2) / 2 % 4) = nI (2 * (g (p + r.2 + 2) / 2 % 4)) from nI_ml 2 _]
          refine r_icmp_eq hX 71 d_Re_readBlockHead_66 (by decide) (fun c66 => ?_) (fun c66 => ?_)
          · have hok : bh_ok g p e r := ⟨hk1, hk2, hk3, (nI_eq (by omega) (by omega)).mp c66⟩
            have tl : ∀ (ke : Bool) (ls : Ev_L), ke = decide (128 ≤ g (p + r.2 + 2)) → ls.1 0 = some (.ref 112) → ls.1 1 = some (.ref a) → ls.1 6 = some (.int (nI (g (p + r.2 + 2) / 2 % 4))) → ev_W G M_Re_readBlockHead X 0 0 89 ls [.int (b_i ke), .int (bh_t g (p + r.2)), .int (nI r.1), .ref a] w3 := by
              intro ke ls hke l0 l1 l6
              refine r_iload hX d_Re_readBlockHead_89 (by first | rfl | assumption) ?_
              refine r_callV (as := [_, _, _, _]) hX d_Re_readBlockHead_91 lk_Re_163 hE3 rfl rfl (Nat.le_of_ble_eq_true rfl) (by decide) 0 0 (Nat.le_refl _) (Nat.le_refl _) (c_El_setDetails (G := G) hE3 (by omega) _ _ _ _ (by cases ke <;> simp [b_i])) (fun v w4 hq => ?_)
              obtain ⟨rfl, qE, qs⟩ := hq
              have hr4 := (qs.2 112 (by simp; omega)).trans hr3
              have hin4 := hin3.sm qs (by simp; omega) (by simp; omega)
              have hs4 : ev_sm w w4 [112, a] := ((hs1.tr (hs2.tr hs3)).up (by simp)).tr (qs.up (by simp))
              refine r_iload hX d_Re_readBlockHead_94 (by first | rfl | assumption) ?_
              refine r_if_ne hX 103 d_Re_readBlockHead_96 (by decide) (fun c96 => ?_) (fun c96 => ?_)
              · refine q_aload hX 0 d_Re_readBlockHead_103 rfl (by first | rfl | assumption) ?_
                refine r_callV (as := []) hX d_Re_readBlockHead_104 lk_Re_160 hr4 rfl rfl (Nat.le_of_ble_eq_true rfl) (by decide) 0 0 (Nat.le_refl _) (Nat.le_refl _) (c_Re_nextByte (G := G) hin4 hg hr4 hec (by omega)) (fun v w5 hq => ?_)
                have h0 : ¬ g (p + r.2 + 2) / 2 % 4 = 0 := fun z => c96 (by rw [z]; rfl)
                by_cases h3 : p + r.2 + 2 + 1 < e
                · rw [if_pos h3] at hq
                  obtain ⟨rfl, hr5, hs5⟩ := hq
                  refine r_iconst (v := 1) hX d_Re_readBlockHead_107 (by decide) ?_
                  refine r_iadd hX d_Re_readBlockHead_108 ?_
                  rw [nI_1]
                  refine r_iret hX hR d_Re_readBlockHead_109 rfl (by first | rfl | assumption) ?_
                  show bh_post _ _ _ _ _ _ _ _ _ _
                  rw [bh, hvi]; dsimp only; rw [if_pos hok]
                  refine ⟨?_, ⟨b_i (vi_full r), nI r.2, ?_⟩, ?_, hs4.tr (hs5.up (by simp))⟩
                  · show _ = some (Value.int (nI (if g (p + r.2 + 2) / 2 % 4 = 0 then 1 else if p + r.2 + 3 < e then g (p + r.2 + 3) + 1 else 0))); rw [if_neg h0, if_pos h3]
                  · show is_Re w5 fp ms (nI (if g (p + r.2 + 2) / 2 % 4 = 0 then p + r.2 + 3 else if p + r.2 + 3 < e then p + r.2 + 4 else p + r.2 + 3)) _ _ _ _; rw [if_neg h0, if_pos h3]; exact hr5
                  · rw [hs5.2 a (by simp; omega), qE, hke]; rfl
                · rw [if_neg h3] at hq
                  obtain ⟨rfl, hw5⟩ := hq
                  rw [hw5]
                  refine r_iconst (v := 1) hX d_Re_readBlockHead_107 (by decide) ?_
                  refine r_iadd hX d_Re_readBlockHead_108 ?_
                  refine r_iret hX hR d_Re_readBlockHead_109 rfl (by first | rfl | assumption) ?_
                  show bh_post _ _ _ _ _ _ _ _ _ _
                  rw [bh, hvi]; dsimp only; rw [if_pos hok]
                  refine ⟨?_, ⟨b_i (vi_full r), nI r.2, ?_⟩, ?_, hs4⟩
                  · show _ = some (Value.int (nI (if g (p + r.2 + 2) / 2 % 4 = 0 then 1 else if p + r.2 + 3 < e then g (p + r.2 + 3) + 1 else 0))); rw [if_neg h0, if_neg h3]; rfl
                  · show is_Re w4 fp ms (nI (if g (p + r.2 + 2) / 2 % 4 = 0 then p + r.2 + 3 else if p + r.2 + 3 < e then p + r.2 + 4 else p + r.2 + 3)) _ _ _ _; rw [if_neg h0, if_neg h3]; exact hr4
                  · rw [qE, hke]; rfl
              · refine r_iconst (v := 1) hX d_Re_readBlockHead_99 (by decide) ?_
                refine r_goto hX 109 d_Re_readBlockHead_100 (by decide) ?_
                refine r_iret hX hR d_Re_readBlockHead_109 rfl (by first | rfl | assumption) ?_
                have h0 : g (p + r.2 + 2) / 2 % 4 = 0 := (nI_eq (by omega) (by decide)).mp (c96.trans nI_0.symm)
                show bh_post _ _ _ _ _ _ _ _ _ _
                rw [bh, hvi]; dsimp only; rw [if_pos hok]
                refine ⟨?_, ⟨b_i (vi_full r), nI r.2, ?_⟩, ?_, hs4⟩
                · show _ = some (Value.int (nI (if g (p + r.2 + 2) / 2 % 4 = 0 then 1 else _))); rw [if_pos h0]; rfl
                · show is_Re w4 fp ms (nI (if g (p + r.2 + 2) / 2 % 4 = 0 then p + r.2 + 3 else _)) _ _ _ _; rw [if_pos h0]; exact hr4
                · rw [qE, hke]; rfl
            refine q_aload hX 1 d_Re_readBlockHead_71 rfl (by first | rfl | assumption) ?_
            refine q_lload hX 2 d_Re_readBlockHead_72 rfl (by first | rfl | assumption) ?_
            refine r_l2i hX d_Re_readBlockHead_73 ?_
            rw [lN_i]
            refine r_iload hX d_Re_readBlockHead_74 (by first | rfl | assumption) ?_
            refine r_iload hX d_Re_readBlockHead_76 (by first | rfl | assumption) ?_
            refine r_sipush (v := 128) hX d_Re_readBlockHead_78 (by decide) ?_
            refine r_icmp_lt hX 88 d_Re_readBlockHead_81 (by decide) (fun c81 => ?_) (fun c81 => ?_)
            · refine r_iconst (v := 0) hX d_Re_readBlockHead_88 (by decide) ?_
              show ev_W G M_Re_readBlockHead X 0 0 89 _ [.int (b_i false), .int (bh_t g (p + r.2)), .int (nI r.1), .ref a] w3
              exact tl false _ (decide_eq_false (fun z => nI_nlt (a := g (p + r.2 + 2)) (b := 128) z (by omega) c81)).symm rfl rfl rfl
            · refine r_iconst (v := 1) hX d_Re_readBlockHead_84 (by decide) ?_
              refine r_goto hX 89 d_Re_readBlockHead_85 (by decide) ?_
              show ev_W G M_Re_readBlockHead X 0 0 89 _ [.int (b_i true), .int (bh_t g (p + r.2)), .int (nI r.1), .ref a] w3
              exact tl true _ (decide_eq_true (Nat.le_of_not_lt (fun z => c81 (nI_lt (a := g (p + r.2 + 2)) (b := 128) z (by decide))))).symm rfl rfl rfl
          · refine r_iconst (v := 0) hX d_Re_readBlockHead_69 (by decide) ?_
            refine r_iret hX hR d_Re_readBlockHead_70 rfl (by first | rfl | assumption) ?_
            show bh_post _ _ _ _ _ _ _ _ _ _
            rw [bh, hvi]; dsimp only; rw [if_neg (fun z => c66 (by rw [z.2.2.2]))]
            exact ⟨rfl, ⟨p + r.2 + 2 + 1, _, _, by omega, hr3⟩, hs1.tr (hs2.tr hs3)⟩
        · refine r_iconst (v := 0) hX d_Re_readBlockHead_32 (by decide) ?_
          refine r_iret hX hR d_Re_readBlockHead_33 rfl (by first | rfl | assumption) ?_
          show bh_post _ _ _ _ _ _ _ _ _ _
          rw [bh, hvi]; dsimp only; rw [if_neg (fun z => c29 (nI_le (a := 3) (b := e - (p + r.2)) (by have := z.2.2.1; omega) (by omega)))]
          exact ⟨rfl, ⟨p + r.2, _, _, by omega, hr1⟩, hs1⟩
