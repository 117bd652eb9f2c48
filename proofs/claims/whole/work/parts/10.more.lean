/-! ===== loads and stores with the local's number as a literal; Math ===== -/
section EvQ
variable {G : Ev_G} {M : Ev_M} {d : Nat} {X : Ev_X} {bc bs pc : Nat} {ls : Ev_L} {st : List Value} {w : Ev_W}
theorem q_iload (hX : ev_C G M d X) {n : Fin 4} (i : Nat) {x : Int32} (hd : decode M.2.2.1 pc = .ok (.iload_n n, 1)) (hi : (n : Nat) = i) (hv : ls.1 i = some (.int x)) (k : ev_W G M X bc bs (pc + 1) ls ((.int x) :: st) w) : ev_W G M X bc bs pc ls st w := by subst hi; exact r_iload_n hX hd hv k
theorem q_aload (hX : ev_C G M d X) {n : Fin 4} (i : Nat) {x : Nat} (hd : decode M.2.2.1 pc = .ok (.aload_n n, 1)) (hi : (n : Nat) = i) (hv : ls.1 i = some (.ref x)) (k : ev_W G M X bc bs (pc + 1) ls ((.ref x) :: st) w) : ev_W G M X bc bs pc ls st w := by subst hi; exact r_aload_n hX hd hv k
theorem q_aloadN (hX : ev_C G M d X) {n : Fin 4} (i : Nat)  (hd : decode M.2.2.1 pc = .ok (.aload_n n, 1)) (hi : (n : Nat) = i) (hv : ls.1 i = some .null) (k : ev_W G M X bc bs (pc + 1) ls (.null :: st) w) : ev_W G M X bc bs pc ls st w := by subst hi; exact r_aload_nN hX hd hv k
theorem q_aloadq (hX : ev_C G M d X) {n : Fin 4} (i : Nat) {o : Option Nat} (hd : decode M.2.2.1 pc = .ok (.aload_n n, 1)) (hi : (n : Nat) = i) (hv : ls.1 i = some (va_rf o)) (k : ev_W G M X bc bs (pc + 1) ls ((va_rf o) :: st) w) : ev_W G M X bc bs pc ls st w := by subst hi; exact r_aload_nq hX hd hv k
theorem q_lload (hX : ev_C G M d X) {n : Fin 4} (i : Nat) {x : Int64} (hd : decode M.2.2.1 pc = .ok (.lload_n n, 1)) (hi : (n : Nat) = i) (hv : ls.2 i = some x) (k : ev_W G M X bc bs (pc + 1) ls (.long x :: st) w) : ev_W G M X bc bs pc ls st w := by subst hi; exact r_lload_n hX hd hv k
theorem q_istore (hX : ev_C G M d X) {n : Fin 4} (i : Nat) {x : Int32} (hd : decode M.2.2.1 pc = .ok (.istore_n n, 1)) (hi : (n : Nat) = i) (hn : i < M.2.2.2.1) (k : ev_W G M X bc bs (pc + 1) (ev_st ls i (.int x)) st w) : ev_W G M X bc bs pc ls ((.int x) :: st) w := by subst hi; exact r_istore_n hX hd hn k
theorem q_astore (hX : ev_C G M d X) {n : Fin 4} (i : Nat) {x : Nat} (hd : decode M.2.2.1 pc = .ok (.astore_n n, 1)) (hi : (n : Nat) = i) (hn : i < M.2.2.2.1) (k : ev_W G M X bc bs (pc + 1) (ev_st ls i (.ref x)) st w) : ev_W G M X bc bs pc ls ((.ref x) :: st) w := by subst hi; exact r_astore_n hX hd hn k
theorem q_astoreN (hX : ev_C G M d X) {n : Fin 4} (i : Nat)  (hd : decode M.2.2.1 pc = .ok (.astore_n n, 1)) (hi : (n : Nat) = i) (hn : i < M.2.2.2.1) (k : ev_W G M X bc bs (pc + 1) (ev_st ls i .null) st w) : ev_W G M X bc bs pc ls (.null :: st) w := by subst hi; exact r_astore_nN hX hd hn k
theorem q_astoreq (hX : ev_C G M d X) {n : Fin 4} (i : Nat) {o : Option Nat} (hd : decode M.2.2.1 pc = .ok (.astore_n n, 1)) (hi : (n : Nat) = i) (hn : i < M.2.2.2.1) (k : ev_W G M X bc bs (pc + 1) (ev_st ls i (va_rf o)) st w) : ev_W G M X bc bs pc ls ((va_rf o) :: st) w := by subst hi; exact r_astore_nq hX hd hn k
theorem q_lstore (hX : ev_C G M d X) {n : Fin 4} (i : Nat) {x : Int64} (hd : decode M.2.2.1 pc = .ok (.lstore_n n, 1)) (hi : (n : Nat) = i) (hn : i + 1 < M.2.2.2.1) (k : ev_W G M X bc bs (pc + 1) (ev_sl ls i x) st w) : ev_W G M X bc bs pc ls (.long x :: st) w := by subst hi; exact r_lstore_n hX hd hn k
theorem r_iincW (hX : ev_C G M d X) {i : Nat} {n : Int} {x : Int32} (hd : decode M.2.2.1 pc = .ok (.iinc i n, 6)) (hv : ls.1 i = some (.int x)) (k : ev_W G M X bc bs (pc + 6) (ev_st ls i (.int (x + Int32.ofInt n))) st w) : ev_W G M X bc bs pc ls st w := by
  obtain ⟨hx, hb, hm, ho, ht, hT, hi, hz, hzs, hdf, hdl, hlk⟩ := hX
  intro H locs a cells slots hH hl hL hc hs
  have hlt := ev_lt hL (hL.2.2.1 _ _ hv).2
  obtain ⟨q, hq⟩ := List.getElem?_of_mem (ev_tab1 (G := G) hlt hv)
  exact lv_iincW hx hb hd hL.has hq rfl hlt rfl (fun a' h' => k H locs a' cells slots hH hl (hL.st rfl h') hc hs)
theorem r_mmin (hX : ev_C G M d X) {index : Nat} {x y : Int32} (hd : decode M.2.2.1 pc = .ok (.invokestatic index, 3)) (hl0 : Cond.methodLink M.1 index Lib.Math.min.name ∈ ev_tbl) (h1 : Cond.static Lib.Math.min.name ∈ ev_tbl) (h2 : Cond.initialized "java/lang/Math" ∈ ev_tbl) (h3 : Cond.code Lib.Math.min.name Lib.Math.min.code 2 (some .int) ∈ ev_tbl) (hdd : 0 < d) (hro : (st.map fun v => v.category).sum ≤ 8) (k : ev_W G M X bc bs (pc + 3) ls (.int (if y < x then y else x) :: st) w) : ev_W G M X bc bs pc ls (.int y :: .int x :: st) w := by
  obtain ⟨hx, hb, hm, ho, ht, hT, hi, hz, hzs, hdf, hdl, hlk⟩ := hX
  intro H locs a cells slots hH hl hL hc hs
  exact va_mmin hx hb (hm.trans hL.1.symm) ho (ht _ hl0) (ht _ h1) (ht _ h2) (ht _ h3) (by omega) (by
    have h9 : ((st.map (ev_mv G)).map fun v => v.category).sum ≤ 8 := by rw [List.map_map]; simpa [Function.comp_def, ev_mv_cat] using hro
    have h7 : 38 ≤ d * 38 := by omega
    omega) (by omega) (by omega) hd (k H locs a cells slots hH hl hL hc hs)
theorem r_mabs (hX : ev_C G M d X) {index : Nat} {x : Int32} (hd : decode M.2.2.1 pc = .ok (.invokestatic index, 3)) (hl0 : Cond.methodLink M.1 index Lib.Math.abs.name ∈ ev_tbl) (h1 : Cond.static Lib.Math.abs.name ∈ ev_tbl) (h2 : Cond.initialized "java/lang/Math" ∈ ev_tbl) (h3 : Cond.code Lib.Math.abs.name Lib.Math.abs.code 1 (some .int) ∈ ev_tbl) (hdd : 0 < d) (hro : (st.map fun v => v.category).sum ≤ 8) (k : ev_W G M X bc bs (pc + 3) ls (.int (if 0 ≤ x then x else 0 - x) :: st) w) : ev_W G M X bc bs pc ls (.int x :: st) w := by
  obtain ⟨hx, hb, hm, ho, ht, hT, hi, hz, hzs, hdf, hdl, hlk⟩ := hX
  intro H locs a cells slots hH hl hL hc hs
  exact va_mabs hx hb (hm.trans hL.1.symm) ho (ht _ hl0) (ht _ h1) (ht _ h2) (ht _ h3) (by omega) (by
    have h9 : ((st.map (ev_mv G)).map fun v => v.category).sum ≤ 8 := by rw [List.map_map]; simpa [Function.comp_def, ev_mv_cat] using hro
    have h7 : 38 ≤ d * 38 := by omega
    omega) (by omega) (by omega) hd (k H locs a cells slots hH hl hL hc hs)
end EvQ
theorem r_objI {G : Ev_G} {M : Ev_M} {d : Nat} {X : Ev_X} {bc bs pc : Nat} {ls : Ev_L} {st : List Value} {w : Ev_W} (hX : ev_C G M d X) {index r : Nat} (hd : decode M.2.2.1 pc = .ok (.invokespecial index, 3)) (h1 : Cond.methodLink M.1 index Lib.objectInit ∈ ev_tbl) (hdd : 0 < d) (hro : (st.map fun v => v.category).sum ≤ 8) (kk : ev_W G M X bc bs (pc + 3) ls st w) : ev_W G M X bc bs pc ls (.ref r :: st) w := r_objInit hX hd h1 m_81 m_82 hdd hro kk
