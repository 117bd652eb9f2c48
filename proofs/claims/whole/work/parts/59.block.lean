/-! ===== the reference: block ===== -/
/-- the frames at hand in both: how many, how many bytes, their sizes -/
def hd_ok (c f : Nat) (hs hb : Nat → Int32) (A : Ev_A) (sz : Nat → Nat) : Prop := c ≤ 8 ∧ f ≤ 400 ∧ f = sm_N sz c ∧ ∀ i, i < c → hs i = nI (sz i) ∧ A.1 130 i = nI (sz i) ∧ sz i ≤ 300 ∧ ∀ b, b < sz i → hb (sm_N sz i + b) = (A.1 131 i + nI b) &&& 255
theorem fr_ev_cg {f g : Nat → Int32} {c : Nat} (h : ∀ i, i < c → f i = g i) (hc : 1 ≤ c) : ∀ t i, i + t = c → fr_ev f t i = fr_ev g t i
  | 0, i, _ => rfl
  | t + 1, i, e => by rw [fr_ev, fr_ev, h i (by omega), h 0 (by omega), fr_ev_cg h hc t (i + 1) (by omega)]
/-- the rows while frames are laid down: i of them whole, x bytes -/
def bq (A2 A1 : Ev_A) (p sd i x : Nat) (sz : Nat → Nat) (hb : Nat → Int32) : Prop := (∀ q, q ∉ [127, 128, 129] → A1.1 q = A2.1 q) ∧ A1.2 = A2.2 ∧ (∀ y, y < 8 * p ∨ 8 * p + 8 ≤ y → A1.1 127 y = A2.1 127 y ∧ A1.1 128 y = A2.1 128 y) ∧ (∀ y, y < i → A1.1 127 (8 * p + y) = nI (sz y) ∧ A1.1 128 (8 * p + y) = nI (sd + sm_N sz y)) ∧ (∀ y, y < sd → A1.1 129 y = A2.1 129 y) ∧ ∀ y, y < x → A1.1 129 (sd + y) = hb y
theorem bq.hp {A2 A1 : Ev_A} {p sd i x : Nat} {sz : Nat → Nat} {hb : Nat → Int32} (h : bq A2 A1 p sd i x sz hb) {z : Int32} (hz : z = hb x) : bq A2 (aset A1 129 (sd + x) z) p sd i (x + 1) sz hb := by
  obtain ⟨h1, h2, h3, h4, h5, h6⟩ := h
  refine ⟨fun q hq => ?_, h2, fun y hy => ?_, fun y hy => ?_, fun y hy => ?_, fun y hy => ?_⟩
  · rw [aset_ne _ _ _ (fun e => hq (by rw [e]; decide))]; exact h1 q hq
  · rw [aset_ne _ _ _ (by decide), aset_ne _ _ _ (by decide)]; exact h3 y hy
  · rw [aset_ne _ _ _ (by decide), aset_ne _ _ _ (by decide)]; exact h4 y hy
  · rw [aset_off _ _ _ _ _ _ (Or.inr (by omega))]; exact h5 y hy
  · by_cases e : y = x
    · rw [e, aset_self]; exact hz
    · rw [aset_off _ _ _ _ _ _ (Or.inr (by omega))]; exact h6 y (by omega)
theorem bq.sz {A2 A1 : Ev_A} {p sd i x : Nat} {sz : Nat → Nat} {hb : Nat → Int32} (h : bq A2 A1 p sd i x sz hb) (hi : i < 8) {a b : Int32} (ha : a = nI (sz i)) (hb2 : b = nI (sd + sm_N sz i)) : bq A2 (aset (aset A1 127 (8 * p + i) a) 128 (8 * p + i) b) p sd (i + 1) x sz hb := by
  obtain ⟨h1, h2, h3, h4, h5, h6⟩ := h
  refine ⟨fun q hq => ?_, h2, fun y hy => ⟨?_, ?_⟩, fun y hy => ?_, fun y hy => ?_, fun y hy => ?_⟩
  · rw [aset_ne _ _ _ (fun e => hq (by rw [e]; decide)), aset_ne _ _ _ (fun e => hq (by rw [e]; decide))]; exact h1 q hq
  · rw [aset_ne _ _ _ (by decide), aset_off _ _ _ _ _ _ (Or.inr (by omega))]; exact (h3 y hy).1
  · rw [aset_off _ _ _ _ _ _ (Or.inr (by omega)), aset_ne _ _ _ (by decide)]; exact (h3 y hy).2
  · by_cases e : y = i
    · subst e
      exact ⟨by rw [aset_ne _ _ _ (by decide), aset_self]; exact ha, by rw [aset_self]; exact hb2⟩
    · have := h4 y (by omega)
      exact ⟨by rw [aset_ne _ _ _ (by decide), aset_off _ _ _ _ _ _ (Or.inr (by omega))]; exact this.1, by rw [aset_off _ _ _ _ _ _ (Or.inr (by omega)), aset_ne _ _ _ (by decide)]; exact this.2⟩
  · rw [aset_ne _ _ _ (by decide), aset_ne _ _ _ (by decide)]; exact h5 y hy
  · rw [aset_ne _ _ _ (by decide), aset_ne _ _ _ (by decide)]; exact h6 y hy
def mb_I (I : Nat → Int32) (n u : Nat) : Nat → Int32 := upd (upd I 0 (nI n)) 1 (nI u)
def mb_A (A1 : Ev_A) (p : Nat) (tr ti ke la : Int32) (c : Nat) : Ev_A := aset (aset (aset (aset (aset A1 123 p tr) 124 p ti) 125 p ke) 126 p la) 121 p (nI c)
def mb_post (w : Ev_W) (I : Nat → Int32) (v0 : Int64) (A : Ev_A) (S : Ev_S) (sd c f : Nat) (hs hb : Nat → Int32) (sz : Nat → Nat) (j : Nat) (tr ti ke la : Int32) (v : Option Value) (w' : Ev_W) : Prop :=
  (¬ bk_ok c hs tr ti la ∧ v = some (.int (-7)) ∧ w' = w) ∨ (bk_ok c hs tr ti la ∧ (sn S = 60 ∨ ¬ sd + f ≤ 1200) ∧ v = some (.int (-6)) ∧ w' = w) ∨
  (bk_ok c hs tr ti la ∧ sn S < 60 ∧ sd + f ≤ 1200 ∧ v = some (.int (nI (tr_end (el_lev (sE S)) (sn S) j))) ∧ ∃ A1 A3, is_M w' (upd (upd (mb_I I (sn S + 1) (sd + f)) 2 0) 3 0) v0 A3 ∧ mo_sm w w' ∧ in_ok A A1 (sn S) (tr_end (el_lev (sE S)) (sn S) j) (some j) (si S) 163 0 ∧ bq (mb_A A1 (tr_end (el_lev (sE S)) (sn S) j) tr ti ke la c) A3 (tr_end (el_lev (sE S)) (sn S) j) sd c f sz hb)
set_option maxHeartbeats 1000000 in
theorem c_Mo_block {G : Ev_G} {w : Ev_W} {I : Nat → Int32} {v0 : Int64} {A : Ev_A} (hM : is_M w I v0 A) {S : Ev_S} {D : Nat → Ev_D} {sf : Nat → Int32} {sd : Nat} (hm : mdl I A S D sf sd) {c f : Nat} {qs hb : Nat → Int32} {sz : Nat → Nat} (hh : I 2 = nI c) (hf : I 3 = nI f) (hd : hd_ok c f qs hb A sz) {j : Nat} (hj : j < sn S) (h7 : (sE S j).1 = 7) (tr ti ke la : Int32) (hke : ke = 0 ∨ ke = 1) : ev_Met G M_Mo_block 3 0 0 [.ref 117, .int (nI j), .int tr, .int ti, .int ke, .int la] w (mb_post w I v0 A S sd c f qs hb sz j tr ti ke la) := by
  refine ev_Met.of md_Mo_block (Nat.le_of_ble_eq_true rfl) (fun X hX hR => ?_)
  obtain ⟨hc, hn, hu, hsd, hpo, hpl, hrow, hhp⟩ := id hm
  have hmas : ∀ x, x < sn S → A.1 119 x = o_i (si S x) := fun x hx => (hrow x hx).2.2
  obtain ⟨hd1, hd2, hd3, hd4⟩ := hd
  obtain ⟨w0, hw0⟩ : ∃ w0, w0 = w := ⟨_, rfl⟩
  have hpn : (tr_end (el_lev (sE S)) (sn S) j) ≤ sn S := (tr_end_spec hn hpo hj).2.1
  have hb1 : b_i (mo_is A (sn S) (nI j) 524531317) = 1 := by
    rw [mo_is, ix_nI hj (by omega)]; dsimp only; rw [decide_eq_true (show A.1 118 j = 524531317 from (hm.tg hj (s := 7) (by decide)).mpr h7)]; rfl
  have loop : ∀ (A1 : Ev_A), (∀ q, q ∉ mv_l → A1.1 q = A.1 q) → (tr_end (el_lev (sE S)) (sn S) j) ≤ sn S → sn S < 60 → sd + f ≤ 1200 → bk_ok c qs tr ti la → in_ok A A1 (sn S) (tr_end (el_lev (sE S)) (sn S) j) (some j) (si S) 163 0 → ∀ (t i : Nat) (A3 : Ev_A) (w1 : Ev_W) (ls : Ev_L), i + t = c → is_M w1 (mb_I I (sn S + 1) (sd + sm_N sz i)) v0 A3 → mo_sm w0 w1 → bq (mb_A A1 (tr_end (el_lev (sE S)) (sn S) j) tr ti ke la c) A3 (tr_end (el_lev (sE S)) (sn S) j) sd i (sm_N sz i) sz hb → ls.1 0 = some (.ref 117) → ls.1 6 = some (.int (nI (tr_end (el_lev (sE S)) (sn S) j))) → ls.1 7 = some (.int (nI i)) → ev_W G M_Mo_block X 0 0 170 ls [] w1 := by
    intro A1 hA1 hpn hn60 hroom hbk hin t
    induction t with
    | zero =>
      intro i A3 w ls e1 hM hs g l0 l6 l7
      have e1 : i = c := e1
      subst e1
      refine r_iload hX d_Mo_block_170 (by first | rfl | assumption) ?_
      refine q_aload hX 0 d_Mo_block_172 rfl (by first | rfl | assumption) ?_
      refine r_getm (J := 2) (x := nI i) hX d_Mo_block_173 fl_Mo_202 hM hh rfl ?_
      refine r_icmp_ge hX 276 d_Mo_block_176 (by decide) (fun _ => ?_) (fun c176 => absurd (nI_le (Nat.le_refl _) (by omega)) c176)
      refine q_aload hX 0 d_Mo_block_276 rfl (by first | rfl | assumption) ?_
      refine r_iconst (v := 0) hX d_Mo_block_277 (by decide) ?_
      refine r_putm (J := 2) hX d_Mo_block_278 fp_Mo_202 hM hs rfl rfl (Nat.le_of_ble_eq_true rfl) rfl (fun w hM hs => ?_)
      refine q_aload hX 0 d_Mo_block_281 rfl (by first | rfl | assumption) ?_
      refine r_iconst (v := 0) hX d_Mo_block_282 (by decide) ?_
      refine r_putm (J := 3) hX d_Mo_block_283 fp_Mo_205 hM hs rfl rfl (Nat.le_of_ble_eq_true rfl) rfl (fun w hM hs => ?_)
      refine r_iload hX d_Mo_block_286 (by first | rfl | assumption) ?_
      refine r_iret hX hR d_Mo_block_288 rfl (by first | rfl | assumption) ?_
      exact Or.inr (Or.inr ⟨hbk, hn60, hroom, rfl, A1, A3, by rw [hd3]; exact hM, hw0 ▸ hs, hin, by rw [hd3]; exact g⟩)
    | succ t ih =>
      intro i A3 w ls e1 hM hs g l0 l6 l7
      have hi : i < c := by omega
      have h30i : (mb_A A1 (tr_end (el_lev (sE S)) (sn S) j) tr ti ke la c).1 130 i = nI (sz i) := by rw [show (mb_A A1 (tr_end (el_lev (sE S)) (sn S) j) tr ti ke la c).1 130 = A1.1 130 from rfl, hA1 130 (by decide)]; exact (hd4 i hi).2.1
      have h31i : (mb_A A1 (tr_end (el_lev (sE S)) (sn S) j) tr ti ke la c).1 131 i = A.1 131 i := by rw [show (mb_A A1 (tr_end (el_lev (sE S)) (sn S) j) tr ti ke la c).1 131 = A1.1 131 from rfl, hA1 131 (by decide)]
      have h30 : A3.1 130 i = nI (sz i) := by rw [g.1 130 (by decide)]; exact h30i
      have hsz := (hd4 i hi).2.2.1
      have loopb : ∀ (t y : Nat) (A3 : Ev_A) (w1 : Ev_W) (ls : Ev_L), y + t = sz i → is_M w1 (mb_I I (sn S + 1) (sd + (sm_N sz i + y))) v0 A3 → mo_sm w0 w1 → bq (mb_A A1 (tr_end (el_lev (sE S)) (sn S) j) tr ti ke la c) A3 (tr_end (el_lev (sE S)) (sn S) j) sd (i + 1) (sm_N sz i + y) sz hb → ls.1 0 = some (.ref 117) → ls.1 6 = some (.int (nI (tr_end (el_lev (sE S)) (sn S) j))) → ls.1 7 = some (.int (nI i)) → ls.1 8 = some (.int (nI y)) → ev_W G M_Mo_block X 0 0 219 ls [] w1 := by
        intro t
        induction t with
        | zero =>
          intro y A3 w ls e1 hM hs g l0 l6 l7 l8
          have e1 : y = sz i := e1
          subst e1
          have h30 : A3.1 130 i = nI (sz i) := by rw [g.1 130 (by decide)]; exact h30i
          refine r_iload hX d_Mo_block_219 (by first | rfl | assumption) ?_
          refine q_aload hX 0 d_Mo_block_221 rfl (by first | rfl | assumption) ?_
          refine r_getf hX d_Mo_block_222 fl_Mo_48 hM.1 rfl ?_
          refine r_iload hX d_Mo_block_225 (by first | rfl | assumption) ?_
          refine r_ialdm (c := 130) (x := nI (sz i)) hX d_Mo_block_227 hM rfl rfl (by omega) h30 ?_
          refine r_icmp_ge hX 270 d_Mo_block_228 (by decide) (fun _ => ?_) (fun c228 => absurd (nI_le (Nat.le_refl _) (by omega)) c228)
          refine r_iinc hX d_Mo_block_270 (by first | rfl | assumption) ?_
          refine r_goto hX 170 d_Mo_block_273 (by decide) ?_
          exact ih (i + 1) A3 w _ (by omega) (by rw [sm_N]; exact hM) hs (by rw [sm_N]; exact g) l0 l6 (by show some (Value.int (nI i + Int32.ofInt 1)) = _; rw [show Int32.ofInt 1 = 1 from rfl, nI_1])
        | succ t ihb =>
          intro y A3 w ls e1 hM hs g l0 l6 l7 l8
          have h30 : A3.1 130 i = nI (sz i) := by rw [g.1 130 (by decide)]; exact h30i
          have h31 : A3.1 131 i = A.1 131 i := by rw [g.1 131 (by decide)]; exact h31i
          have hly := sm_N_le (sz := sz) (show i + 1 ≤ c by omega)
          rw [sm_N] at hly
          refine r_iload hX d_Mo_block_219 (by first | rfl | assumption) ?_
          refine q_aload hX 0 d_Mo_block_221 rfl (by first | rfl | assumption) ?_
          refine r_getf hX d_Mo_block_222 fl_Mo_48 hM.1 rfl ?_
          refine r_iload hX d_Mo_block_225 (by first | rfl | assumption) ?_
          refine r_ialdm (c := 130) (x := nI (sz i)) hX d_Mo_block_227 hM rfl rfl (by omega) h30 ?_
          refine r_icmp_ge hX 270 d_Mo_block_228 (by decide) (fun c228 => absurd c228 (nI_ge (by omega) (by omega))) (fun _ => ?_)
          refine q_aload hX 0 d_Mo_block_231 rfl (by first | rfl | assumption) ?_
          refine r_getf hX d_Mo_block_232 fl_Mo_45 hM.1 rfl ?_
          refine q_aload hX 0 d_Mo_block_235 rfl (by first | rfl | assumption) ?_
          refine r_getm (J := 1) (x := nI (sd + (sm_N sz i + y))) hX d_Mo_block_236 fl_Mo_104 hM rfl rfl ?_
          refine q_aload hX 0 d_Mo_block_239 rfl (by first | rfl | assumption) ?_
          refine r_getf hX d_Mo_block_240 fl_Mo_51 hM.1 rfl ?_
          refine r_iload hX d_Mo_block_243 (by first | rfl | assumption) ?_
          refine r_ialdm (c := 131) (x := A.1 131 i) hX d_Mo_block_245 hM rfl rfl (by omega) h31 ?_
          refine r_iload hX d_Mo_block_246 (by first | rfl | assumption) ?_
          refine r_iadd hX d_Mo_block_248 ?_
          refine r_sipush (v := 255) hX d_Mo_block_249 (by decide) ?_
          refine r_iand hX d_Mo_block_252 ?_
          refine r_iastm (c := 129) hX d_Mo_block_253 hM hs rfl (j := sd + (sm_N sz i + y)) rfl (by omega) (fun w hM hs => ?_)
          refine q_aload hX 0 d_Mo_block_254 rfl (by first | rfl | assumption) ?_
          refine r_dup hX d_Mo_block_255 rfl ?_
          refine r_getm (J := 1) (x := nI (sd + (sm_N sz i + y))) hX d_Mo_block_256 fl_Mo_104 hM rfl rfl ?_
          refine r_iconst (v := 1) hX d_Mo_block_259 (by decide) ?_
          refine r_iadd hX d_Mo_block_260 ?_
          refine r_putm (J := 1) hX d_Mo_block_261 fp_Mo_104 hM hs rfl rfl (Nat.le_of_ble_eq_true rfl) rfl (fun w hM hs => ?_)
          rw [mb_I, upd2, nI_1] at hM
          refine r_iinc hX d_Mo_block_264 (by first | rfl | assumption) ?_
          refine r_goto hX 219 d_Mo_block_267 (by decide) ?_
          exact ihb (y + 1) _ w _ (by omega) hM hs (g.hp ((hd4 i (by omega)).2.2.2 y (by omega)).symm) l0 l6 l7 (by show some (Value.int (nI y + Int32.ofInt 1)) = _; rw [show Int32.ofInt 1 = 1 from rfl, nI_1])
      refine r_iload hX d_Mo_block_170 (by first | rfl | assumption) ?_
      refine q_aload hX 0 d_Mo_block_172 rfl (by first | rfl | assumption) ?_
      refine r_getm (J := 2) (x := nI c) hX d_Mo_block_173 fl_Mo_202 hM hh rfl ?_
      refine r_icmp_ge hX 276 d_Mo_block_176 (by decide) (fun c176 => absurd c176 (nI_ge hi (by omega))) (fun _ => ?_)
      refine q_aload hX 0 d_Mo_block_179 rfl (by first | rfl | assumption) ?_
      refine r_getf hX d_Mo_block_180 fl_Mo_39 hM.1 rfl ?_
      refine r_bipush (v := 8) hX d_Mo_block_183 (by decide) ?_
      refine r_iload hX d_Mo_block_185 (by first | rfl | assumption) ?_
      refine r_imul hX d_Mo_block_187 ?_
      refine r_iload hX d_Mo_block_188 (by first | rfl | assumption) ?_
      refine r_iadd hX d_Mo_block_190 ?_
      refine q_aload hX 0 d_Mo_block_191 rfl (by first | rfl | assumption) ?_
      refine r_getf hX d_Mo_block_192 fl_Mo_48 hM.1 rfl ?_
      refine r_iload hX d_Mo_block_195 (by first | rfl | assumption) ?_
      refine r_ialdm (c := 130) (x := nI (sz i)) hX d_Mo_block_197 hM rfl rfl (by omega) h30 ?_
      refine r_iastm (c := 127) hX d_Mo_block_198 hM hs rfl (j := 8 * (tr_end (el_lev (sE S)) (sn S) j) + i) (by rw [show (8 : Int32) = nI 8 from rfl, nI_ml, nI_add]) (by omega) (fun w hM hs => ?_)
      refine q_aload hX 0 d_Mo_block_199 rfl (by first | rfl | assumption) ?_
      refine r_getf hX d_Mo_block_200 fl_Mo_42 hM.1 rfl ?_
      refine r_bipush (v := 8) hX d_Mo_block_203 (by decide) ?_
      refine r_iload hX d_Mo_block_205 (by first | rfl | assumption) ?_
      refine r_imul hX d_Mo_block_207 ?_
      refine r_iload hX d_Mo_block_208 (by first | rfl | assumption) ?_
      refine r_iadd hX d_Mo_block_210 ?_
      refine q_aload hX 0 d_Mo_block_211 rfl (by first | rfl | assumption) ?_
      refine r_getm (J := 1) (x := nI (sd + sm_N sz i)) hX d_Mo_block_212 fl_Mo_104 hM rfl rfl ?_
      refine r_iastm (c := 128) hX d_Mo_block_215 hM hs rfl (j := 8 * (tr_end (el_lev (sE S)) (sn S) j) + i) (by rw [show (8 : Int32) = nI 8 from rfl, nI_ml, nI_add]) (by omega) (fun w hM hs => ?_)
      refine r_iconst (v := 0) hX d_Mo_block_216 (by decide) ?_
      refine r_istore hX d_Mo_block_217 (by decide) ?_
      exact loopb (sz i) 0 _ w _ (by omega) hM hs (g.sz (by omega) rfl rfl) l0 l6 l7 rfl
  have go : bk_ok c qs tr ti la → ∀ (ls : Ev_L), ls.1 0 = some (.ref 117) → ls.1 1 = some (.int (nI j)) → ls.1 2 = some (.int tr) → ls.1 3 = some (.int ti) → ls.1 4 = some (.int ke) → ls.1 5 = some (.int la) → ev_W G M_Mo_block X 0 0 84 ls [] w := by
    intro hbk ls l0 l1 l2 l3 l4 l5
    have hs : mo_sm w0 w := by rw [hw0]; exact mo_sm.rf
    refine q_aload hX 0 d_Mo_block_84 rfl (by first | rfl | assumption) ?_
    refine r_getm (J := 0) (x := nI (sn S)) hX d_Mo_block_85 fl_Mo_86 hM hc rfl ?_
    refine r_bipush (v := 60) hX d_Mo_block_88 (by decide) ?_
    refine r_icmp_eq hX 108 d_Mo_block_90 (by decide) (fun c90 => ?_) (fun c90 => ?_)
    · refine r_bipush (v := -6) hX d_Mo_block_108 (by decide) ?_
      refine r_iret hX hR d_Mo_block_110 rfl (by first | rfl | assumption) ?_
      exact Or.inr (Or.inl ⟨hbk, Or.inl ((nI_eq (b := 60) (by omega) (by decide)).mp c90), rfl, rfl⟩)
    · refine q_aload hX 0 d_Mo_block_93 rfl (by first | rfl | assumption) ?_
      refine r_getm (J := 1) (x := nI sd) hX d_Mo_block_94 fl_Mo_104 hM hu rfl ?_
      refine q_aload hX 0 d_Mo_block_97 rfl (by first | rfl | assumption) ?_
      refine r_getm (J := 3) (x := nI f) hX d_Mo_block_98 fl_Mo_205 hM hf rfl ?_
      refine r_iadd hX d_Mo_block_101 ?_
      rw [nI_add]
      refine r_sipush (v := 1200) hX d_Mo_block_102 (by decide) ?_
      refine r_icmp_le hX 111 d_Mo_block_105 (by decide) (fun c105 => ?_) (fun c105 => ?_)
      · have hn60 : sn S < 60 := by
          have : sn S ≠ 60 := fun z => c90 (by rw [z]; rfl)
          omega
        have hroom : sd + f ≤ 1200 := (nI_leI (b := 1200) (by omega) (by decide)).mp c105
        refine q_aload hX 0 d_Mo_block_111 rfl (by first | rfl | assumption) ?_
        refine q_iload hX 1 d_Mo_block_112 rfl (by first | rfl | assumption) ?_
        refine r_sipush (v := 163) hX d_Mo_block_113 (by decide) ?_
        refine r_lconst (v := 0) hX d_Mo_block_116 (by decide) ?_
        refine r_callV (as := [_, _, _]) hX d_Mo_block_117 lk_Mo_195 hM.1 rfl rfl (Nat.le_of_ble_eq_true rfl) (by decide) 0 0 (Nat.le_refl _) (Nat.le_refl _) (c_Mo_insert (G := G) hM hc hn60 hmas hpo (mo := some j) (fun q hq => by cases hq; exact hj) 163 0) (fun v w hq => ?_)
        obtain ⟨rfl, A1, hM, hs2, hin⟩ := hq
        have hs := hs.tr hs2
        rw [show mk_p (sE S) (sn S) (some j) = (tr_end (el_lev (sE S)) (sn S) j) from rfl] at hin ⊢
        refine r_istore hX d_Mo_block_120 (by decide) ?_
        refine q_aload hX 0 d_Mo_block_122 rfl (by first | rfl | assumption) ?_
        refine r_getf hX d_Mo_block_123 fl_Mo_26 hM.1 rfl ?_
        refine r_iload hX d_Mo_block_126 (by first | rfl | assumption) ?_
        refine q_iload hX 2 d_Mo_block_128 rfl (by first | rfl | assumption) ?_
        refine r_iastm (c := 123) hX d_Mo_block_129 hM hs rfl (j := (tr_end (el_lev (sE S)) (sn S) j)) rfl (by omega) (fun w hM hs => ?_)
        refine q_aload hX 0 d_Mo_block_130 rfl (by first | rfl | assumption) ?_
        refine r_getf hX d_Mo_block_131 fl_Mo_29 hM.1 rfl ?_
        refine r_iload hX d_Mo_block_134 (by first | rfl | assumption) ?_
        refine q_iload hX 3 d_Mo_block_136 rfl (by first | rfl | assumption) ?_
        refine r_iastm (c := 124) hX d_Mo_block_137 hM hs rfl (j := (tr_end (el_lev (sE S)) (sn S) j)) rfl (by omega) (fun w hM hs => ?_)
        refine q_aload hX 0 d_Mo_block_138 rfl (by first | rfl | assumption) ?_
        refine r_getf hX d_Mo_block_139 fl_Mo_32 hM.1 rfl ?_
        refine r_iload hX d_Mo_block_142 (by first | rfl | assumption) ?_
        refine r_iload hX d_Mo_block_144 (by first | rfl | assumption) ?_
        refine r_zastm (c := 125) hX d_Mo_block_146 hM hs rfl (j := (tr_end (el_lev (sE S)) (sn S) j)) rfl (by omega) hke (fun w hM hs => ?_)
        refine q_aload hX 0 d_Mo_block_147 rfl (by first | rfl | assumption) ?_
        refine r_getf hX d_Mo_block_148 fl_Mo_36 hM.1 rfl ?_
        refine r_iload hX d_Mo_block_151 (by first | rfl | assumption) ?_
        refine r_iload hX d_Mo_block_153 (by first | rfl | assumption) ?_
        refine r_iastm (c := 126) hX d_Mo_block_155 hM hs rfl (j := (tr_end (el_lev (sE S)) (sn S) j)) rfl (by omega) (fun w hM hs => ?_)
        refine q_aload hX 0 d_Mo_block_156 rfl (by first | rfl | assumption) ?_
        refine r_getf hX d_Mo_block_157 fl_Mo_20 hM.1 rfl ?_
        refine r_iload hX d_Mo_block_160 (by first | rfl | assumption) ?_
        refine q_aload hX 0 d_Mo_block_162 rfl (by first | rfl | assumption) ?_
        refine r_getm (J := 2) (x := nI c) hX d_Mo_block_163 fl_Mo_202 hM hh rfl ?_
        refine r_iastm (c := 121) hX d_Mo_block_166 hM hs rfl (j := (tr_end (el_lev (sE S)) (sn S) j)) rfl (by omega) (fun w hM hs => ?_)
        refine r_iconst (v := 0) hX d_Mo_block_167 (by decide) ?_
        refine r_istore hX d_Mo_block_168 (by decide) ?_
        exact loop A1 hin.2.2.2.2.2.2 hpn hn60 hroom hbk hin c 0 _ w _ (by omega) (by rw [show sd + sm_N sz 0 = sd from rfl, mb_I, upd_id (f := upd I 0 (nI (sn S + 1))) (k := 1) (x := nI sd) hu]; exact hM) hs ⟨fun _ _ => rfl, rfl, fun _ _ => ⟨rfl, rfl⟩, fun y hy => by omega, fun _ _ => rfl, fun y hy => by have hy : y < 0 := hy; omega⟩ l0 rfl rfl
      · refine r_bipush (v := -6) hX d_Mo_block_108 (by decide) ?_
        refine r_iret hX hR d_Mo_block_110 rfl (by first | rfl | assumption) ?_
        exact Or.inr (Or.inl ⟨hbk, Or.inr (fun z => c105 (nI_le (b := 1200) z (by decide))), rfl, rfl⟩)
  refine q_aload hX 0 d_Mo_block_0 rfl (by first | rfl | assumption) ?_
  refine q_iload hX 1 d_Mo_block_1 rfl (by first | rfl | assumption) ?_
  refine r_ldc hX d_Mo_block_2 m_683 ?_
  refine r_callV (as := [_, _]) hX d_Mo_block_4 lk_Mo_208 hM.1 rfl rfl (Nat.le_of_ble_eq_true rfl) (by decide) 0 0 (Nat.le_refl _) (Nat.le_refl _) (c_Mo_is (G := G) hM hc hn _ _) (fun v w1 hq => ?_)
  obtain ⟨rfl, hw⟩ := hq
  rw [hw, hb1]
  refine r_if_ne hX 12 d_Mo_block_7 (by decide) (fun _ => ?_) (fun c7 => absurd c7 (by decide))
  refine q_iload hX 2 d_Mo_block_12 rfl (by first | rfl | assumption) ?_
  refine r_iconst (v := 1) hX d_Mo_block_13 (by decide) ?_
  refine r_icmp_lt hX 81 d_Mo_block_14 (by decide) (fun c14 => ?_) (fun c14 => ?_)
  · refine r_bipush (v := -7) hX d_Mo_block_81 (by decide) ?_
    refine r_iret hX hR d_Mo_block_83 rfl (by first | rfl | assumption) ?_
    exact Or.inl ⟨fun z => by have := z.1; rw [i_lt, show (1 : Int32).toInt = 1 from rfl] at c14; omega, rfl, rfl⟩
  · refine q_iload hX 2 d_Mo_block_17 rfl (by first | rfl | assumption) ?_
    refine r_bipush (v := 126) hX d_Mo_block_18 (by decide) ?_
    refine r_icmp_gt hX 81 d_Mo_block_20 (by decide) (fun c20 => ?_) (fun c20 => ?_)
    · refine r_bipush (v := -7) hX d_Mo_block_81 (by decide) ?_
      refine r_iret hX hR d_Mo_block_83 rfl (by first | rfl | assumption) ?_
      exact Or.inl ⟨fun z => by have := z.2.1; rw [i_lt, show (126 : Int32).toInt = 126 from rfl] at c20; omega, rfl, rfl⟩
    · refine q_iload hX 3 d_Mo_block_23 rfl (by first | rfl | assumption) ?_
      refine r_sipush (v := -32768) hX d_Mo_block_24 (by decide) ?_
      refine r_icmp_lt hX 81 d_Mo_block_27 (by decide) (fun c27 => ?_) (fun c27 => ?_)
      · refine r_bipush (v := -7) hX d_Mo_block_81 (by decide) ?_
        refine r_iret hX hR d_Mo_block_83 rfl (by first | rfl | assumption) ?_
        exact Or.inl ⟨fun z => by have := z.2.2.1; rw [i_lt, show (-32768 : Int32).toInt = -32768 from rfl] at c27; omega, rfl, rfl⟩
      · refine q_iload hX 3 d_Mo_block_30 rfl (by first | rfl | assumption) ?_
        refine r_sipush (v := 32767) hX d_Mo_block_31 (by decide) ?_
        refine r_icmp_gt hX 81 d_Mo_block_34 (by decide) (fun c34 => ?_) (fun c34 => ?_)
        · refine r_bipush (v := -7) hX d_Mo_block_81 (by decide) ?_
          refine r_iret hX hR d_Mo_block_83 rfl (by first | rfl | assumption) ?_
          exact Or.inl ⟨fun z => by have := z.2.2.2.1; rw [i_lt, show (32767 : Int32).toInt = 32767 from rfl] at c34; omega, rfl, rfl⟩
        · refine r_iload hX d_Mo_block_37 (by first | rfl | assumption) ?_
          refine r_if_lt hX 81 d_Mo_block_39 (by decide) (fun c39 => ?_) (fun c39 => ?_)
          · refine r_bipush (v := -7) hX d_Mo_block_81 (by decide) ?_
            refine r_iret hX hR d_Mo_block_83 rfl (by first | rfl | assumption) ?_
            exact Or.inl ⟨fun z => by have hz := z.2.2.2.2; rw [fr_suit, Bool.and_eq_true, decide_eq_true_eq] at hz; rw [i_lt, i_0] at c39; omega, rfl, rfl⟩
          · refine r_iload hX d_Mo_block_42 (by first | rfl | assumption) ?_
            refine r_iconst (v := 3) hX d_Mo_block_44 (by decide) ?_
            refine r_icmp_gt hX 81 d_Mo_block_45 (by decide) (fun c45 => ?_) (fun c45 => ?_)
            · refine r_bipush (v := -7) hX d_Mo_block_81 (by decide) ?_
              refine r_iret hX hR d_Mo_block_83 rfl (by first | rfl | assumption) ?_
              exact Or.inl ⟨fun z => by have hz := z.2.2.2.2; rw [fr_suit, Bool.and_eq_true, decide_eq_true_eq] at hz; rw [i_lt, show (3 : Int32).toInt = 3 from rfl] at c45; omega, rfl, rfl⟩
            · refine q_aload hX 0 d_Mo_block_48 rfl (by first | rfl | assumption) ?_
              refine r_getm (J := 2) (x := nI c) hX d_Mo_block_49 fl_Mo_202 hM hh rfl ?_
              refine r_if_eq hX 81 d_Mo_block_52 (by decide) (fun c52 => ?_) (fun c52 => ?_)
              · refine r_bipush (v := -7) hX d_Mo_block_81 (by decide) ?_
                refine r_iret hX hR d_Mo_block_83 rfl (by first | rfl | assumption) ?_
                exact Or.inl ⟨fun z => by have hz := z.2.2.2.2; rw [fr_suit, Bool.and_eq_true, decide_eq_true_eq] at hz; exact hz.1.2.2 ((nI_eq (b := 0) (by omega) (by decide)).mp c52), rfl, rfl⟩
              · refine q_aload hX 0 d_Mo_block_55 rfl (by first | rfl | assumption) ?_
                refine r_getm (J := 2) (x := nI c) hX d_Mo_block_56 fl_Mo_202 hM hh rfl ?_
                refine r_iconst (v := 1) hX d_Mo_block_59 (by decide) ?_
                refine r_icmp_le hX 68 d_Mo_block_60 (by decide) (fun c60 => ?_) (fun c60 => ?_)
                · refine r_iload hX d_Mo_block_68 (by first | rfl | assumption) ?_
                  refine r_iconst (v := 2) hX d_Mo_block_70 (by decide) ?_
                  refine r_icmp_ne hX 84 d_Mo_block_71 (by decide) (fun c71 => ?_) (fun c71 => ?_)
                  · have hbk : bk_ok c qs tr ti la := ⟨by rw [i_lt, show (1 : Int32).toInt = 1 from rfl] at c14; omega, by rw [i_lt, show (126 : Int32).toInt = 126 from rfl] at c20; omega, by rw [i_lt, show (-32768 : Int32).toInt = -32768 from rfl] at c27; omega, by rw [i_lt, show (32767 : Int32).toInt = 32767 from rfl] at c34; omega, by
                      have h0 : 0 ≤ la.toInt := by rw [i_lt, i_0] at c39; omega
                      have h3 : la.toInt ≤ 3 := by rw [i_lt, show (3 : Int32).toInt = 3 from rfl] at c45; omega
                      have hc0 : c ≠ 0 := fun z => c52 (by rw [z]; rfl)
                      rw [fr_suit, Bool.and_eq_true, decide_eq_true_eq]
                      exact ⟨⟨h0, h3, hc0⟩, by
                        by_cases hl : la = 0
                        · rw [if_pos hl]; have := (nI_leI (b := 1) (by omega) (by decide)).mp c60; exact decide_eq_true (by omega)
                        · rw [if_neg hl, decide_eq_true c71]; rfl⟩⟩
                    exact go hbk _ rfl rfl rfl rfl rfl rfl
                  · refine q_aload hX 0 d_Mo_block_74 rfl (by first | rfl | assumption) ?_
                    have hc1 : 1 ≤ c := Nat.pos_of_ne_zero (fun z => c52 (by rw [z]; rfl))
                    refine r_callV (as := []) hX d_Mo_block_75 lk_Mo_211 hM.1 rfl rfl (Nat.le_of_ble_eq_true rfl) (by decide) 0 0 (Nat.le_refl _) (Nat.le_refl _) (c_Mo_evenHands (G := G) hM hh (by omega) hc1) (fun v w1 hq => ?_)
                    obtain ⟨rfl, hw⟩ := hq
                    rw [hw, fr_ev_cg (f := A.1 130) (g := qs) (fun i hi => by rw [(hd4 i hi).2.1, (hd4 i hi).1]) hc1 (c - 1) 1 (by omega)]
                    refine r_if_ne hX 84 d_Mo_block_78 (by decide) (fun c78 => ?_) (fun c78 => ?_)
                    · have hbk : bk_ok c qs tr ti la := ⟨by rw [i_lt, show (1 : Int32).toInt = 1 from rfl] at c14; omega, by rw [i_lt, show (126 : Int32).toInt = 126 from rfl] at c20; omega, by rw [i_lt, show (-32768 : Int32).toInt = -32768 from rfl] at c27; omega, by rw [i_lt, show (32767 : Int32).toInt = 32767 from rfl] at c34; omega, by
                        have h0 : 0 ≤ la.toInt := by rw [i_lt, i_0] at c39; omega
                        have h3 : la.toInt ≤ 3 := by rw [i_lt, show (3 : Int32).toInt = 3 from rfl] at c45; omega
                        have hc0 : c ≠ 0 := fun z => c52 (by rw [z]; rfl)
                        rw [fr_suit, Bool.and_eq_true, decide_eq_true_eq]
                        exact ⟨⟨h0, h3, hc0⟩, by
                          by_cases hl : la = 0
                          · rw [if_pos hl]; have := (nI_leI (b := 1) (by omega) (by decide)).mp c60; exact decide_eq_true (by omega)
                          · rw [if_neg hl, show fr_ev qs (c - 1) 1 = true from by cases hz : fr_ev qs (c - 1) 1 with | true => rfl | false => rw [hz] at c78; exact absurd rfl c78]; simp⟩⟩
                      exact go hbk _ rfl rfl rfl rfl rfl rfl
                    · refine r_bipush (v := -7) hX d_Mo_block_81 (by decide) ?_
                      refine r_iret hX hR d_Mo_block_83 rfl (by first | rfl | assumption) ?_
                      exact Or.inl ⟨fun z => by have hz := z.2.2.2.2; rw [fr_suit, Bool.and_eq_true, decide_eq_true_eq] at hz; rw [if_neg (by rw [c71]; decide), decide_eq_false (fun y => y c71), Bool.false_or] at hz; rw [hz.2] at c78; exact absurd c78 (by decide), rfl, rfl⟩
                · refine r_iload hX d_Mo_block_63 (by first | rfl | assumption) ?_
                  refine r_if_eq hX 81 d_Mo_block_65 (by decide) (fun c65 => ?_) (fun c65 => ?_)
                  · refine r_bipush (v := -7) hX d_Mo_block_81 (by decide) ?_
                    refine r_iret hX hR d_Mo_block_83 rfl (by first | rfl | assumption) ?_
                    exact Or.inl ⟨fun z => by have hz := z.2.2.2.2; rw [fr_suit, Bool.and_eq_true, decide_eq_true_eq] at hz; rw [if_pos c65, decide_eq_true_eq] at hz; have h1 : ¬ c ≤ 1 := fun y => c60 (nI_le (b := 1) y (by decide)); omega, rfl, rfl⟩
                  · refine r_iload hX d_Mo_block_68 (by first | rfl | assumption) ?_
                    refine r_iconst (v := 2) hX d_Mo_block_70 (by decide) ?_
                    refine r_icmp_ne hX 84 d_Mo_block_71 (by decide) (fun c71 => ?_) (fun c71 => ?_)
                    · have hbk : bk_ok c qs tr ti la := ⟨by rw [i_lt, show (1 : Int32).toInt = 1 from rfl] at c14; omega, by rw [i_lt, show (126 : Int32).toInt = 126 from rfl] at c20; omega, by rw [i_lt, show (-32768 : Int32).toInt = -32768 from rfl] at c27; omega, by rw [i_lt, show (32767 : Int32).toInt = 32767 from rfl] at c34; omega, by
                        have h0 : 0 ≤ la.toInt := by rw [i_lt, i_0] at c39; omega
                        have h3 : la.toInt ≤ 3 := by rw [i_lt, show (3 : Int32).toInt = 3 from rfl] at c45; omega
                        have hc0 : c ≠ 0 := fun z => c52 (by rw [z]; rfl)
                        rw [fr_suit, Bool.and_eq_true, decide_eq_true_eq]
                        exact ⟨⟨h0, h3, hc0⟩, by rw [if_neg c65, decide_eq_true c71]; rfl⟩⟩
                      exact go hbk _ rfl rfl rfl rfl rfl rfl
                    · refine q_aload hX 0 d_Mo_block_74 rfl (by first | rfl | assumption) ?_
                      have hc1 : 1 ≤ c := Nat.pos_of_ne_zero (fun z => c52 (by rw [z]; rfl))
                      refine r_callV (as := []) hX d_Mo_block_75 lk_Mo_211 hM.1 rfl rfl (Nat.le_of_ble_eq_true rfl) (by decide) 0 0 (Nat.le_refl _) (Nat.le_refl _) (c_Mo_evenHands (G := G) hM hh (by omega) hc1) (fun v w1 hq => ?_)
                      obtain ⟨rfl, hw⟩ := hq
                      rw [hw, fr_ev_cg (f := A.1 130) (g := qs) (fun i hi => by rw [(hd4 i hi).2.1, (hd4 i hi).1]) hc1 (c - 1) 1 (by omega)]
                      refine r_if_ne hX 84 d_Mo_block_78 (by decide) (fun c78 => ?_) (fun c78 => ?_)
                      · have hbk : bk_ok c qs tr ti la := ⟨by rw [i_lt, show (1 : Int32).toInt = 1 from rfl] at c14; omega, by rw [i_lt, show (126 : Int32).toInt = 126 from rfl] at c20; omega, by rw [i_lt, show (-32768 : Int32).toInt = -32768 from rfl] at c27; omega, by rw [i_lt, show (32767 : Int32).toInt = 32767 from rfl] at c34; omega, by
                          have h0 : 0 ≤ la.toInt := by rw [i_lt, i_0] at c39; omega
                          have h3 : la.toInt ≤ 3 := by rw [i_lt, show (3 : Int32).toInt = 3 from rfl] at c45; omega
                          have hc0 : c ≠ 0 := fun z => c52 (by rw [z]; rfl)
                          rw [fr_suit, Bool.and_eq_true, decide_eq_true_eq]
                          exact ⟨⟨h0, h3, hc0⟩, by rw [if_neg c65, show fr_ev qs (c - 1) 1 = true from by cases hz : fr_ev qs (c - 1) 1 with | true => rfl | false => rw [hz] at c78; exact absurd rfl c78]; simp⟩⟩
                        exact go hbk _ rfl rfl rfl rfl rfl rfl
                      · refine r_bipush (v := -7) hX d_Mo_block_81 (by decide) ?_
                        refine r_iret hX hR d_Mo_block_83 rfl (by first | rfl | assumption) ?_
                        exact Or.inl ⟨fun z => by have hz := z.2.2.2.2; rw [fr_suit, Bool.and_eq_true, decide_eq_true_eq] at hz; rw [if_neg (by rw [c71]; decide), decide_eq_false (fun y => y c71), Bool.false_or] at hz; rw [hz.2] at c78; exact absurd c78 (by decide), rfl, rfl⟩
theorem c_Mo_blockX {G : Ev_G} {w : Ev_W} {I : Nat → Int32} {v0 : Int64} {A : Ev_A} (hM : is_M w I v0 A) {S : Ev_S} {D : Nat → Ev_D} {sf : Nat → Int32} {sd : Nat} (hm : mdl I A S D sf sd) (k : Int32) (hk : ∀ j, ix (sn S) k = some j → (sE S j).1 ≠ 7) (tr ti ke la : Int32) : ev_Met G M_Mo_block 3 0 0 [.ref 117, .int k, .int tr, .int ti, .int ke, .int la] w (fun v w' => v = some (.int (-1)) ∧ w' = w) := by
  refine ev_Met.of md_Mo_block (Nat.le_of_ble_eq_true rfl) (fun X hX hR => ?_)
  obtain ⟨hc, hn, hu, hsd, hpo, hpl, hrow, hhp⟩ := id hm
  have hmas : ∀ x, x < sn S → A.1 119 x = o_i (si S x) := fun x hx => (hrow x hx).2.2
  have hb1 : b_i (mo_is A (sn S) k 524531317) = 0 := by
    rcases ix_cases (n := sn S) (by omega) k with ⟨j, hj, rfl, hix⟩ | ⟨hix, hno⟩
    · rw [mo_is, hix]; dsimp only; rw [decide_eq_false (show ¬ A.1 118 j = 524531317 from fun z => hk j hix ((hm.tg hj (s := 7) (by decide)).mp z))]; rfl
    · rw [mo_is, hix]; rfl
  refine q_aload hX 0 d_Mo_block_0 rfl (by first | rfl | assumption) ?_
  refine q_iload hX 1 d_Mo_block_1 rfl (by first | rfl | assumption) ?_
  refine r_ldc hX d_Mo_block_2 m_683 ?_
  refine r_callV (as := [_, _]) hX d_Mo_block_4 lk_Mo_208 hM.1 rfl rfl (Nat.le_of_ble_eq_true rfl) (by decide) 0 0 (Nat.le_refl _) (Nat.le_refl _) (c_Mo_is (G := G) hM hc hn _ _) (fun v w1 hq => ?_)
  obtain ⟨rfl, hw⟩ := hq
  rw [hw, hb1]
  refine r_if_ne hX 12 d_Mo_block_7 (by decide) (fun c7 => absurd rfl c7) (fun _ => ?_)
  refine r_iconst (v := -1) hX d_Mo_block_10 (by decide) ?_
  refine r_iret hX hR d_Mo_block_11 rfl (by first | rfl | assumption) ?_
  exact ⟨rfl, rfl⟩
