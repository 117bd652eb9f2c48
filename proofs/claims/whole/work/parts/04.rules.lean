/-! ===== A ROW AN INSTRUCTION, over pure worlds (written by wip/whole/genrules.py) ===== -/
section EvR
variable {G : Ev_G} {M : Ev_M} {d : Nat} {X : Ev_X} {bc bs pc : Nat} {ls : Ev_L} {st : List Value} {w : Ev_W}
theorem r_iconst (hX : ev_C G M d X) {n : Int} {v : Int32} (hd : decode M.2.2.1 pc = .ok (.iconst n, 1)) (hv : Int32.ofInt n = v) (k : ev_W G M X bc bs (pc + 1) ls (.int v :: st) w) : ev_W G M X bc bs pc ls (st) w := by
  obtain ⟨hx, hb, hm, ho, ht, hT, hi, hz, hzs, hdf, hdl, hlk⟩ := hX
  intro H locs a cells slots hH hl hL hc hs
  exact lv_iconst hx hb hd hv (k H locs a cells slots hH hl hL hc hs)
theorem r_bipush (hX : ev_C G M d X) {n : Int} {v : Int32} (hd : decode M.2.2.1 pc = .ok (.bipush n, 2)) (hv : (Int8.ofInt n).toInt32 = v) (k : ev_W G M X bc bs (pc + 2) ls (.int v :: st) w) : ev_W G M X bc bs pc ls (st) w := by
  obtain ⟨hx, hb, hm, ho, ht, hT, hi, hz, hzs, hdf, hdl, hlk⟩ := hX
  intro H locs a cells slots hH hl hL hc hs
  exact lv_bipush hx hb hd hv (k H locs a cells slots hH hl hL hc hs)
theorem r_sipush (hX : ev_C G M d X) {n : Int} {v : Int32} (hd : decode M.2.2.1 pc = .ok (.sipush n, 3)) (hv : (Int16.ofInt n).toInt32 = v) (k : ev_W G M X bc bs (pc + 3) ls (.int v :: st) w) : ev_W G M X bc bs pc ls (st) w := by
  obtain ⟨hx, hb, hm, ho, ht, hT, hi, hz, hzs, hdf, hdl, hlk⟩ := hX
  intro H locs a cells slots hH hl hL hc hs
  exact lv_sipush hx hb hd hv (k H locs a cells slots hH hl hL hc hs)
theorem r_lconst (hX : ev_C G M d X) {n : Fin 2} {v : Int64} (hd : decode M.2.2.1 pc = .ok (.lconst n, 1)) (hv : Int64.ofNat (n : Nat) = v) (k : ev_W G M X bc bs (pc + 1) ls (.long v :: st) w) : ev_W G M X bc bs pc ls (st) w := by
  obtain ⟨hx, hb, hm, ho, ht, hT, hi, hz, hzs, hdf, hdl, hlk⟩ := hX
  intro H locs a cells slots hH hl hL hc hs
  exact lv_lconst hx hb hd hv (k H locs a cells slots hH hl hL hc hs)
theorem r_null (hX : ev_C G M d X)  (hd : decode M.2.2.1 pc = .ok (.aconst_null, 1))  (k : ev_W G M X bc bs (pc + 1) ls (.null :: st) w) : ev_W G M X bc bs pc ls (st) w := by
  obtain ⟨hx, hb, hm, ho, ht, hT, hi, hz, hzs, hdf, hdl, hlk⟩ := hX
  intro H locs a cells slots hH hl hL hc hs
  exact lv_null hx hb hd  (k H locs a cells slots hH hl hL hc hs)
theorem r_ldc (hX : ev_C G M d X) {index : Nat} {v : Int32} (hd : decode M.2.2.1 pc = .ok (.ldc index, 2)) (hv : Cond.constant M.1 index v ∈ ev_tbl) (k : ev_W G M X bc bs (pc + 2) ls (.int v :: st) w) : ev_W G M X bc bs pc ls st w := by
  obtain ⟨hx, hb, hm, ho, ht, hT, hi, hz, hzs, hdf, hdl, hlk⟩ := hX
  intro H locs a cells slots hH hl hL hc hs
  exact lv_ldc hx hb ho (ht _ hv) hd (k H locs a cells slots hH hl hL hc hs)
theorem r_ldc2 (hX : ev_C G M d X) {index : Nat} {v : Int64} (hd : decode M.2.2.1 pc = .ok (.ldc2_w index, 3)) (hv : Cond.constantLong M.1 index v ∈ ev_tbl) (k : ev_W G M X bc bs (pc + 3) ls (.long v :: st) w) : ev_W G M X bc bs pc ls st w := by
  obtain ⟨hx, hb, hm, ho, ht, hT, hi, hz, hzs, hdf, hdl, hlk⟩ := hX
  intro H locs a cells slots hH hl hL hc hs
  exact lv_ldc2 hx hb ho (ht _ hv) hd (k H locs a cells slots hH hl hL hc hs)
theorem r_iload_n (hX : ev_C G M d X) {n : Fin 4} {x : Int32} (hd : decode M.2.2.1 pc = .ok (.iload_n n, 1)) (hv : ls.1 (n : Nat) = some (.int x)) (k : ev_W G M X bc bs (pc + 1) ls (.int x :: st) w) : ev_W G M X bc bs pc ls st w := by
  obtain ⟨hx, hb, hm, ho, ht, hT, hi, hz, hzs, hdf, hdl, hlk⟩ := hX
  intro H locs a cells slots hH hl hL hc hs
  exact lv_iload_n hx hb hd rfl (hL.2.2.1 _ _ hv).2 (k H locs a cells slots hH hl hL hc hs)
theorem r_iload (hX : ev_C G M d X) {n : Nat} {x : Int32} (hd : decode M.2.2.1 pc = .ok (.iload n, 2)) (hv : ls.1 n = some (.int x)) (k : ev_W G M X bc bs (pc + 2) ls (.int x :: st) w) : ev_W G M X bc bs pc ls st w := by
  obtain ⟨hx, hb, hm, ho, ht, hT, hi, hz, hzs, hdf, hdl, hlk⟩ := hX
  intro H locs a cells slots hH hl hL hc hs
  exact lv_iload hx hb hd (hL.2.2.1 _ _ hv).2 (k H locs a cells slots hH hl hL hc hs)
theorem r_lload_n (hX : ev_C G M d X) {n : Fin 4} {x : Int64} (hd : decode M.2.2.1 pc = .ok (.lload_n n, 1)) (hv : ls.2 (n : Nat) = some x) (k : ev_W G M X bc bs (pc + 1) ls (.long x :: st) w) : ev_W G M X bc bs pc ls st w := by
  obtain ⟨hx, hb, hm, ho, ht, hT, hi, hz, hzs, hdf, hdl, hlk⟩ := hX
  intro H locs a cells slots hH hl hL hc hs
  exact lv_lload_n hx hb hd rfl (hL.2.2.2 _ _ hv) (k H locs a cells slots hH hl hL hc hs)
theorem r_lload (hX : ev_C G M d X) {n : Nat} {x : Int64} (hd : decode M.2.2.1 pc = .ok (.lload n, 2)) (hv : ls.2 n = some x) (k : ev_W G M X bc bs (pc + 2) ls (.long x :: st) w) : ev_W G M X bc bs pc ls st w := by
  obtain ⟨hx, hb, hm, ho, ht, hT, hi, hz, hzs, hdf, hdl, hlk⟩ := hX
  intro H locs a cells slots hH hl hL hc hs
  exact lv_lload hx hb hd (hL.2.2.2 _ _ hv) (k H locs a cells slots hH hl hL hc hs)
theorem r_aload_n (hX : ev_C G M d X) {n : Fin 4} {x : Nat} (hd : decode M.2.2.1 pc = .ok (.aload_n n, 1)) (hv : ls.1 (n : Nat) = some (.ref x)) (k : ev_W G M X bc bs (pc + 1) ls ((.ref x) :: st) w) : ev_W G M X bc bs pc ls st w := by
  obtain ⟨hx, hb, hm, ho, ht, hT, hi, hz, hzs, hdf, hdl, hlk⟩ := hX
  intro H locs a cells slots hH hl hL hc hs
  exact lv_aload_n hx hb hd rfl (hL.2.2.1 _ _ hv).2 (k H locs a cells slots hH hl hL hc hs)
theorem r_aload (hX : ev_C G M d X) {n : Nat} {x : Nat} (hd : decode M.2.2.1 pc = .ok (.aload n, 2)) (hv : ls.1 n = some (.ref x)) (k : ev_W G M X bc bs (pc + 2) ls ((.ref x) :: st) w) : ev_W G M X bc bs pc ls st w := by
  obtain ⟨hx, hb, hm, ho, ht, hT, hi, hz, hzs, hdf, hdl, hlk⟩ := hX
  intro H locs a cells slots hH hl hL hc hs
  exact lv_aload hx hb hd (hL.2.2.1 _ _ hv).2 (k H locs a cells slots hH hl hL hc hs)
theorem r_aload_nN (hX : ev_C G M d X) {n : Fin 4} (hd : decode M.2.2.1 pc = .ok (.aload_n n, 1)) (hv : ls.1 (n : Nat) = some .null) (k : ev_W G M X bc bs (pc + 1) ls (.null :: st) w) : ev_W G M X bc bs pc ls st w := by
  obtain ⟨hx, hb, hm, ho, ht, hT, hi, hz, hzs, hdf, hdl, hlk⟩ := hX
  intro H locs a cells slots hH hl hL hc hs
  exact lv_aload_nN hx hb hd rfl (hL.2.2.1 _ _ hv).2 (k H locs a cells slots hH hl hL hc hs)
theorem r_aloadN (hX : ev_C G M d X) {n : Nat} (hd : decode M.2.2.1 pc = .ok (.aload n, 2)) (hv : ls.1 n = some .null) (k : ev_W G M X bc bs (pc + 2) ls (.null :: st) w) : ev_W G M X bc bs pc ls st w := by
  obtain ⟨hx, hb, hm, ho, ht, hT, hi, hz, hzs, hdf, hdl, hlk⟩ := hX
  intro H locs a cells slots hH hl hL hc hs
  exact lv_aloadN hx hb hd (hL.2.2.1 _ _ hv).2 (k H locs a cells slots hH hl hL hc hs)
theorem r_aload_nq (hX : ev_C G M d X) {n : Fin 4} {o : Option Nat} (hd : decode M.2.2.1 pc = .ok (.aload_n n, 1)) (hv : ls.1 (n : Nat) = some (va_rf o)) (k : ev_W G M X bc bs (pc + 1) ls (va_rf o :: st) w) : ev_W G M X bc bs pc ls st w := by
  cases o with
  | none => exact r_aload_nN hX hd hv k
  | some x => exact r_aload_n hX hd hv k
theorem r_aloadq (hX : ev_C G M d X) {n : Nat} {o : Option Nat} (hd : decode M.2.2.1 pc = .ok (.aload n, 2)) (hv : ls.1 n = some (va_rf o)) (k : ev_W G M X bc bs (pc + 2) ls (va_rf o :: st) w) : ev_W G M X bc bs pc ls st w := by
  cases o with
  | none => exact r_aloadN hX hd hv k
  | some x => exact r_aload hX hd hv k
theorem r_istore_n (hX : ev_C G M d X) {n : Fin 4} {x : Int32} (hd : decode M.2.2.1 pc = .ok (.istore_n n, 1)) (hn : (n : Nat) < M.2.2.2.1) (k : ev_W G M X bc bs (pc + 1) (ev_st ls (n : Nat) (.int x)) st w) : ev_W G M X bc bs pc ls ((.int x) :: st) w := by
  obtain ⟨hx, hb, hm, ho, ht, hT, hi, hz, hzs, hdf, hdl, hlk⟩ := hX
  intro H locs a cells slots hH hl hL hc hs
  exact lv_istore_n hx hb hd rfl hL.has hn rfl (fun a' h' => k H locs a' cells slots hH hl (hL.st rfl h') hc hs)
theorem r_istore (hX : ev_C G M d X) {n : Nat} {x : Int32} (hd : decode M.2.2.1 pc = .ok (.istore n, 2)) (hn : n < M.2.2.2.1) (k : ev_W G M X bc bs (pc + 2) (ev_st ls n (.int x)) st w) : ev_W G M X bc bs pc ls ((.int x) :: st) w := by
  obtain ⟨hx, hb, hm, ho, ht, hT, hi, hz, hzs, hdf, hdl, hlk⟩ := hX
  intro H locs a cells slots hH hl hL hc hs
  exact lv_istore hx hb hd hL.has hn rfl (fun a' h' => k H locs a' cells slots hH hl (hL.st rfl h') hc hs)
theorem r_astore_n (hX : ev_C G M d X) {n : Fin 4} {x : Nat} (hd : decode M.2.2.1 pc = .ok (.astore_n n, 1)) (hn : (n : Nat) < M.2.2.2.1) (k : ev_W G M X bc bs (pc + 1) (ev_st ls (n : Nat) (.ref x)) st w) : ev_W G M X bc bs pc ls ((.ref x) :: st) w := by
  obtain ⟨hx, hb, hm, ho, ht, hT, hi, hz, hzs, hdf, hdl, hlk⟩ := hX
  intro H locs a cells slots hH hl hL hc hs
  exact lv_astore_n hx hb hd rfl hL.has hn rfl (fun a' h' => k H locs a' cells slots hH hl (hL.st rfl h') hc hs)
theorem r_astore (hX : ev_C G M d X) {n : Nat} {x : Nat} (hd : decode M.2.2.1 pc = .ok (.astore n, 2)) (hn : n < M.2.2.2.1) (k : ev_W G M X bc bs (pc + 2) (ev_st ls n (.ref x)) st w) : ev_W G M X bc bs pc ls ((.ref x) :: st) w := by
  obtain ⟨hx, hb, hm, ho, ht, hT, hi, hz, hzs, hdf, hdl, hlk⟩ := hX
  intro H locs a cells slots hH hl hL hc hs
  exact lv_astore hx hb hd hL.has hn rfl (fun a' h' => k H locs a' cells slots hH hl (hL.st rfl h') hc hs)
theorem r_astore_nN (hX : ev_C G M d X) {n : Fin 4}  (hd : decode M.2.2.1 pc = .ok (.astore_n n, 1)) (hn : (n : Nat) < M.2.2.2.1) (k : ev_W G M X bc bs (pc + 1) (ev_st ls (n : Nat) .null) st w) : ev_W G M X bc bs pc ls (.null :: st) w := by
  obtain ⟨hx, hb, hm, ho, ht, hT, hi, hz, hzs, hdf, hdl, hlk⟩ := hX
  intro H locs a cells slots hH hl hL hc hs
  exact lv_astore_nN hx hb hd rfl hL.has hn rfl (fun a' h' => k H locs a' cells slots hH hl (hL.st rfl h') hc hs)
theorem r_astoreN (hX : ev_C G M d X) {n : Nat}  (hd : decode M.2.2.1 pc = .ok (.astore n, 2)) (hn : n < M.2.2.2.1) (k : ev_W G M X bc bs (pc + 2) (ev_st ls n .null) st w) : ev_W G M X bc bs pc ls (.null :: st) w := by
  obtain ⟨hx, hb, hm, ho, ht, hT, hi, hz, hzs, hdf, hdl, hlk⟩ := hX
  intro H locs a cells slots hH hl hL hc hs
  exact lv_astoreN hx hb hd hL.has hn rfl (fun a' h' => k H locs a' cells slots hH hl (hL.st rfl h') hc hs)
theorem r_astore_nq (hX : ev_C G M d X) {n : Fin 4} {o : Option Nat} (hd : decode M.2.2.1 pc = .ok (.astore_n n, 1)) (hn : (n : Nat) < M.2.2.2.1) (k : ev_W G M X bc bs (pc + 1) (ev_st ls (n : Nat) (va_rf o)) st w) : ev_W G M X bc bs pc ls (va_rf o :: st) w := by
  cases o with
  | none => exact r_astore_nN hX hd hn k
  | some x => exact r_astore_n hX hd hn k
theorem r_astoreq (hX : ev_C G M d X) {n : Nat} {o : Option Nat} (hd : decode M.2.2.1 pc = .ok (.astore n, 2)) (hn : n < M.2.2.2.1) (k : ev_W G M X bc bs (pc + 2) (ev_st ls n (va_rf o)) st w) : ev_W G M X bc bs pc ls (va_rf o :: st) w := by
  cases o with
  | none => exact r_astoreN hX hd hn k
  | some x => exact r_astore hX hd hn k
theorem r_lstore_n (hX : ev_C G M d X) {n : Fin 4} {x : Int64} (hd : decode M.2.2.1 pc = .ok (.lstore_n n, 1)) (hn : (n : Nat) + 1 < M.2.2.2.1) (k : ev_W G M X bc bs (pc + 1) (ev_sl ls (n : Nat) x) st w) : ev_W G M X bc bs pc ls (.long x :: st) w := by
  obtain ⟨hx, hb, hm, ho, ht, hT, hi, hz, hzs, hdf, hdl, hlk⟩ := hX
  intro H locs a cells slots hH hl hL hc hs
  exact lv_lstore_n hx hb hd rfl hL.has hn rfl (fun a' h' => k H locs a' cells slots hH hl (hL.sl h') hc hs)
theorem r_lstore (hX : ev_C G M d X) {n : Nat} {x : Int64} (hd : decode M.2.2.1 pc = .ok (.lstore n, 2)) (hn : n + 1 < M.2.2.2.1) (k : ev_W G M X bc bs (pc + 2) (ev_sl ls n x) st w) : ev_W G M X bc bs pc ls (.long x :: st) w := by
  obtain ⟨hx, hb, hm, ho, ht, hT, hi, hz, hzs, hdf, hdl, hlk⟩ := hX
  intro H locs a cells slots hH hl hL hc hs
  exact lv_lstore hx hb hd hL.has hn rfl (fun a' h' => k H locs a' cells slots hH hl (hL.sl h') hc hs)
theorem r_iinc (hX : ev_C G M d X) {i : Nat} {n : Int} {x : Int32} (hd : decode M.2.2.1 pc = .ok (.iinc i n, 3)) (hv : ls.1 i = some (.int x)) (k : ev_W G M X bc bs (pc + 3) (ev_st ls i (.int (x + Int32.ofInt n))) st w) : ev_W G M X bc bs pc ls st w := by
  obtain ⟨hx, hb, hm, ho, ht, hT, hi, hz, hzs, hdf, hdl, hlk⟩ := hX
  intro H locs a cells slots hH hl hL hc hs
  have hlt := ev_lt hL (hL.2.2.1 _ _ hv).2
  obtain ⟨q, hq⟩ := List.getElem?_of_mem (ev_tab1 (G := G) hlt hv)
  exact lv_iinc hx hb hd hL.has hq rfl hlt rfl (fun a' h' => k H locs a' cells slots hH hl (hL.st rfl h') hc hs)
theorem r_iadd (hX : ev_C G M d X) {x y : Int32} (hd : decode M.2.2.1 pc = .ok (.iadd, 1))  (k : ev_W G M X bc bs (pc + 1) ls (.int (x + y) :: st) w) : ev_W G M X bc bs pc ls (.int y :: .int x :: st) w := by
  obtain ⟨hx, hb, hm, ho, ht, hT, hi, hz, hzs, hdf, hdl, hlk⟩ := hX
  intro H locs a cells slots hH hl hL hc hs
  exact lv_iadd hx hb hd  (k H locs a cells slots hH hl hL hc hs)
theorem r_isub (hX : ev_C G M d X) {x y : Int32} (hd : decode M.2.2.1 pc = .ok (.isub, 1))  (k : ev_W G M X bc bs (pc + 1) ls (.int (x - y) :: st) w) : ev_W G M X bc bs pc ls (.int y :: .int x :: st) w := by
  obtain ⟨hx, hb, hm, ho, ht, hT, hi, hz, hzs, hdf, hdl, hlk⟩ := hX
  intro H locs a cells slots hH hl hL hc hs
  exact lv_isub hx hb hd  (k H locs a cells slots hH hl hL hc hs)
theorem r_imul (hX : ev_C G M d X) {x y : Int32} (hd : decode M.2.2.1 pc = .ok (.imul, 1))  (k : ev_W G M X bc bs (pc + 1) ls (.int (x * y) :: st) w) : ev_W G M X bc bs pc ls (.int y :: .int x :: st) w := by
  obtain ⟨hx, hb, hm, ho, ht, hT, hi, hz, hzs, hdf, hdl, hlk⟩ := hX
  intro H locs a cells slots hH hl hL hc hs
  exact lv_imul hx hb hd  (k H locs a cells slots hH hl hL hc hs)
theorem r_iand (hX : ev_C G M d X) {x y : Int32} (hd : decode M.2.2.1 pc = .ok (.iand, 1))  (k : ev_W G M X bc bs (pc + 1) ls (.int (x &&& y) :: st) w) : ev_W G M X bc bs pc ls (.int y :: .int x :: st) w := by
  obtain ⟨hx, hb, hm, ho, ht, hT, hi, hz, hzs, hdf, hdl, hlk⟩ := hX
  intro H locs a cells slots hH hl hL hc hs
  exact lv_iand hx hb hd  (k H locs a cells slots hH hl hL hc hs)
theorem r_ior (hX : ev_C G M d X) {x y : Int32} (hd : decode M.2.2.1 pc = .ok (.ior, 1))  (k : ev_W G M X bc bs (pc + 1) ls (.int (x ||| y) :: st) w) : ev_W G M X bc bs pc ls (.int y :: .int x :: st) w := by
  obtain ⟨hx, hb, hm, ho, ht, hT, hi, hz, hzs, hdf, hdl, hlk⟩ := hX
  intro H locs a cells slots hH hl hL hc hs
  exact lv_ior hx hb hd  (k H locs a cells slots hH hl hL hc hs)
theorem r_ixor (hX : ev_C G M d X) {x y : Int32} (hd : decode M.2.2.1 pc = .ok (.ixor, 1))  (k : ev_W G M X bc bs (pc + 1) ls (.int (x ^^^ y) :: st) w) : ev_W G M X bc bs pc ls (.int y :: .int x :: st) w := by
  obtain ⟨hx, hb, hm, ho, ht, hT, hi, hz, hzs, hdf, hdl, hlk⟩ := hX
  intro H locs a cells slots hH hl hL hc hs
  exact lv_ixor hx hb hd  (k H locs a cells slots hH hl hL hc hs)
theorem r_ishl (hX : ev_C G M d X) {x y : Int32} (hd : decode M.2.2.1 pc = .ok (.ishl, 1))  (k : ev_W G M X bc bs (pc + 1) ls (.int (x <<< (y &&& 31)) :: st) w) : ev_W G M X bc bs pc ls (.int y :: .int x :: st) w := by
  obtain ⟨hx, hb, hm, ho, ht, hT, hi, hz, hzs, hdf, hdl, hlk⟩ := hX
  intro H locs a cells slots hH hl hL hc hs
  exact lv_ishl hx hb hd  (k H locs a cells slots hH hl hL hc hs)
theorem r_ishr (hX : ev_C G M d X) {x y : Int32} (hd : decode M.2.2.1 pc = .ok (.ishr, 1))  (k : ev_W G M X bc bs (pc + 1) ls (.int (x >>> (y &&& 31)) :: st) w) : ev_W G M X bc bs pc ls (.int y :: .int x :: st) w := by
  obtain ⟨hx, hb, hm, ho, ht, hT, hi, hz, hzs, hdf, hdl, hlk⟩ := hX
  intro H locs a cells slots hH hl hL hc hs
  exact lv_ishr hx hb hd  (k H locs a cells slots hH hl hL hc hs)
theorem r_iushr (hX : ev_C G M d X) {x y : Int32} (hd : decode M.2.2.1 pc = .ok (.iushr, 1))  (k : ev_W G M X bc bs (pc + 1) ls (.int ((x.toUInt32 >>> (y.toUInt32 &&& Int32.toUInt32 31)).toInt32) :: st) w) : ev_W G M X bc bs pc ls (.int y :: .int x :: st) w := by
  obtain ⟨hx, hb, hm, ho, ht, hT, hi, hz, hzs, hdf, hdl, hlk⟩ := hX
  intro H locs a cells slots hH hl hL hc hs
  exact lv_iushr hx hb hd rfl (k H locs a cells slots hH hl hL hc hs)
theorem r_idiv (hX : ev_C G M d X) {x y : Int32} (hd : decode M.2.2.1 pc = .ok (.idiv, 1)) (hne : ¬ y = 0) (k : ev_W G M X bc bs (pc + 1) ls (.int (x / y) :: st) w) : ev_W G M X bc bs pc ls (.int y :: .int x :: st) w := by
  obtain ⟨hx, hb, hm, ho, ht, hT, hi, hz, hzs, hdf, hdl, hlk⟩ := hX
  intro H locs a cells slots hH hl hL hc hs
  exact lv_idiv hx hb hd hne (k H locs a cells slots hH hl hL hc hs)
theorem r_irem (hX : ev_C G M d X) {x y : Int32} (hd : decode M.2.2.1 pc = .ok (.irem, 1)) (hne : ¬ y = 0) (k : ev_W G M X bc bs (pc + 1) ls (.int (x - x / y * y) :: st) w) : ev_W G M X bc bs pc ls (.int y :: .int x :: st) w := by
  obtain ⟨hx, hb, hm, ho, ht, hT, hi, hz, hzs, hdf, hdl, hlk⟩ := hX
  intro H locs a cells slots hH hl hL hc hs
  exact lv_irem hx hb hd hne (k H locs a cells slots hH hl hL hc hs)
theorem r_ineg (hX : ev_C G M d X) {x : Int32} (hd : decode M.2.2.1 pc = .ok (.ineg, 1))  (k : ev_W G M X bc bs (pc + 1) ls (.int (-x) :: st) w) : ev_W G M X bc bs pc ls (.int x :: st) w := by
  obtain ⟨hx, hb, hm, ho, ht, hT, hi, hz, hzs, hdf, hdl, hlk⟩ := hX
  intro H locs a cells slots hH hl hL hc hs
  exact lv_ineg hx hb hd  (k H locs a cells slots hH hl hL hc hs)
theorem r_ladd (hX : ev_C G M d X) {x y : Int64} (hd : decode M.2.2.1 pc = .ok (.ladd, 1))  (k : ev_W G M X bc bs (pc + 1) ls (.long (x + y) :: st) w) : ev_W G M X bc bs pc ls (.long y :: .long x :: st) w := by
  obtain ⟨hx, hb, hm, ho, ht, hT, hi, hz, hzs, hdf, hdl, hlk⟩ := hX
  intro H locs a cells slots hH hl hL hc hs
  exact lv_ladd hx hb hd  (k H locs a cells slots hH hl hL hc hs)
theorem r_lsub (hX : ev_C G M d X) {x y : Int64} (hd : decode M.2.2.1 pc = .ok (.lsub, 1))  (k : ev_W G M X bc bs (pc + 1) ls (.long (x - y) :: st) w) : ev_W G M X bc bs pc ls (.long y :: .long x :: st) w := by
  obtain ⟨hx, hb, hm, ho, ht, hT, hi, hz, hzs, hdf, hdl, hlk⟩ := hX
  intro H locs a cells slots hH hl hL hc hs
  exact lv_lsub hx hb hd  (k H locs a cells slots hH hl hL hc hs)
theorem r_lmul (hX : ev_C G M d X) {x y : Int64} (hd : decode M.2.2.1 pc = .ok (.lmul, 1))  (k : ev_W G M X bc bs (pc + 1) ls (.long (x * y) :: st) w) : ev_W G M X bc bs pc ls (.long y :: .long x :: st) w := by
  obtain ⟨hx, hb, hm, ho, ht, hT, hi, hz, hzs, hdf, hdl, hlk⟩ := hX
  intro H locs a cells slots hH hl hL hc hs
  exact lv_lmul hx hb hd  (k H locs a cells slots hH hl hL hc hs)
theorem r_land (hX : ev_C G M d X) {x y : Int64} (hd : decode M.2.2.1 pc = .ok (.land, 1))  (k : ev_W G M X bc bs (pc + 1) ls (.long (x &&& y) :: st) w) : ev_W G M X bc bs pc ls (.long y :: .long x :: st) w := by
  obtain ⟨hx, hb, hm, ho, ht, hT, hi, hz, hzs, hdf, hdl, hlk⟩ := hX
  intro H locs a cells slots hH hl hL hc hs
  exact lv_land hx hb hd  (k H locs a cells slots hH hl hL hc hs)
theorem r_lor (hX : ev_C G M d X) {x y : Int64} (hd : decode M.2.2.1 pc = .ok (.lor, 1))  (k : ev_W G M X bc bs (pc + 1) ls (.long (x ||| y) :: st) w) : ev_W G M X bc bs pc ls (.long y :: .long x :: st) w := by
  obtain ⟨hx, hb, hm, ho, ht, hT, hi, hz, hzs, hdf, hdl, hlk⟩ := hX
  intro H locs a cells slots hH hl hL hc hs
  exact lv_lor hx hb hd  (k H locs a cells slots hH hl hL hc hs)
theorem r_lxor (hX : ev_C G M d X) {x y : Int64} (hd : decode M.2.2.1 pc = .ok (.lxor, 1))  (k : ev_W G M X bc bs (pc + 1) ls (.long (x ^^^ y) :: st) w) : ev_W G M X bc bs pc ls (.long y :: .long x :: st) w := by
  obtain ⟨hx, hb, hm, ho, ht, hT, hi, hz, hzs, hdf, hdl, hlk⟩ := hX
  intro H locs a cells slots hH hl hL hc hs
  exact lv_lxor hx hb hd  (k H locs a cells slots hH hl hL hc hs)
theorem r_lneg (hX : ev_C G M d X) {x : Int64} (hd : decode M.2.2.1 pc = .ok (.lneg, 1))  (k : ev_W G M X bc bs (pc + 1) ls (.long (-x) :: st) w) : ev_W G M X bc bs pc ls (.long x :: st) w := by
  obtain ⟨hx, hb, hm, ho, ht, hT, hi, hz, hzs, hdf, hdl, hlk⟩ := hX
  intro H locs a cells slots hH hl hL hc hs
  exact lv_lneg hx hb hd  (k H locs a cells slots hH hl hL hc hs)
theorem r_lshl (hX : ev_C G M d X) {x : Int64} {y : Int32} (hd : decode M.2.2.1 pc = .ok (.lshl, 1))  (k : ev_W G M X bc bs (pc + 1) ls (.long (x <<< (y.toInt64 &&& 63)) :: st) w) : ev_W G M X bc bs pc ls (.int y :: .long x :: st) w := by
  obtain ⟨hx, hb, hm, ho, ht, hT, hi, hz, hzs, hdf, hdl, hlk⟩ := hX
  intro H locs a cells slots hH hl hL hc hs
  exact lv_lshl hx hb hd rfl (k H locs a cells slots hH hl hL hc hs)
theorem r_lshr (hX : ev_C G M d X) {x : Int64} {y : Int32} (hd : decode M.2.2.1 pc = .ok (.lshr, 1))  (k : ev_W G M X bc bs (pc + 1) ls (.long (x >>> (y.toInt64 &&& 63)) :: st) w) : ev_W G M X bc bs pc ls (.int y :: .long x :: st) w := by
  obtain ⟨hx, hb, hm, ho, ht, hT, hi, hz, hzs, hdf, hdl, hlk⟩ := hX
  intro H locs a cells slots hH hl hL hc hs
  exact lv_lshr hx hb hd rfl (k H locs a cells slots hH hl hL hc hs)
theorem r_lushr (hX : ev_C G M d X) {x : Int64} {y : Int32} (hd : decode M.2.2.1 pc = .ok (.lushr, 1))  (k : ev_W G M X bc bs (pc + 1) ls (.long ((x.toUInt64 >>> (y.toInt64.toUInt64 &&& Int64.toUInt64 63)).toInt64) :: st) w) : ev_W G M X bc bs pc ls (.int y :: .long x :: st) w := by
  obtain ⟨hx, hb, hm, ho, ht, hT, hi, hz, hzs, hdf, hdl, hlk⟩ := hX
  intro H locs a cells slots hH hl hL hc hs
  exact lv_lushr hx hb hd rfl (k H locs a cells slots hH hl hL hc hs)
theorem r_i2l (hX : ev_C G M d X) {x : Int32} (hd : decode M.2.2.1 pc = .ok (.i2l, 1))  (k : ev_W G M X bc bs (pc + 1) ls (.long x.toInt64 :: st) w) : ev_W G M X bc bs pc ls (.int x :: st) w := by
  obtain ⟨hx, hb, hm, ho, ht, hT, hi, hz, hzs, hdf, hdl, hlk⟩ := hX
  intro H locs a cells slots hH hl hL hc hs
  exact lv_i2l hx hb hd rfl (k H locs a cells slots hH hl hL hc hs)
theorem r_l2i (hX : ev_C G M d X) {x : Int64} (hd : decode M.2.2.1 pc = .ok (.l2i, 1))  (k : ev_W G M X bc bs (pc + 1) ls (.int x.toInt32 :: st) w) : ev_W G M X bc bs pc ls (.long x :: st) w := by
  obtain ⟨hx, hb, hm, ho, ht, hT, hi, hz, hzs, hdf, hdl, hlk⟩ := hX
  intro H locs a cells slots hH hl hL hc hs
  exact lv_l2i hx hb hd rfl (k H locs a cells slots hH hl hL hc hs)
theorem r_i2b (hX : ev_C G M d X) {x : Int32} (hd : decode M.2.2.1 pc = .ok (.i2b, 1))  (k : ev_W G M X bc bs (pc + 1) ls (.int x.toInt8.toInt32 :: st) w) : ev_W G M X bc bs pc ls (.int x :: st) w := by
  obtain ⟨hx, hb, hm, ho, ht, hT, hi, hz, hzs, hdf, hdl, hlk⟩ := hX
  intro H locs a cells slots hH hl hL hc hs
  exact lv_i2b hx hb hd rfl (k H locs a cells slots hH hl hL hc hs)
theorem r_i2s (hX : ev_C G M d X) {x : Int32} (hd : decode M.2.2.1 pc = .ok (.i2s, 1))  (k : ev_W G M X bc bs (pc + 1) ls (.int x.toInt16.toInt32 :: st) w) : ev_W G M X bc bs pc ls (.int x :: st) w := by
  obtain ⟨hx, hb, hm, ho, ht, hT, hi, hz, hzs, hdf, hdl, hlk⟩ := hX
  intro H locs a cells slots hH hl hL hc hs
  exact lv_i2s hx hb hd rfl (k H locs a cells slots hH hl hL hc hs)
theorem r_i2c (hX : ev_C G M d X) {x : Int32} (hd : decode M.2.2.1 pc = .ok (.i2c, 1))  (k : ev_W G M X bc bs (pc + 1) ls (.int (x.toUInt32 % 65536).toInt32 :: st) w) : ev_W G M X bc bs pc ls (.int x :: st) w := by
  obtain ⟨hx, hb, hm, ho, ht, hT, hi, hz, hzs, hdf, hdl, hlk⟩ := hX
  intro H locs a cells slots hH hl hL hc hs
  exact lv_i2c hx hb hd rfl (k H locs a cells slots hH hl hL hc hs)
theorem r_lcmp (hX : ev_C G M d X) {x y : Int64} (hd : decode M.2.2.1 pc = .ok (.lcmp, 1))  (k : ev_W G M X bc bs (pc + 1) ls (.int (lg_cmp x y) :: st) w) : ev_W G M X bc bs pc ls (.long y :: .long x :: st) w := by
  obtain ⟨hx, hb, hm, ho, ht, hT, hi, hz, hzs, hdf, hdl, hlk⟩ := hX
  intro H locs a cells slots hH hl hL hc hs
  exact W.lcmp hx hb hd  (k H locs a cells slots hH hl hL hc hs)
theorem r_dup (hX : ev_C G M d X) {v : Value} (hd : decode M.2.2.1 pc = .ok (.dup, 1)) (h1 : v.category = 1) (k : ev_W G M X bc bs (pc + 1) ls (v :: v :: st) w) : ev_W G M X bc bs pc ls (v :: st) w := by
  obtain ⟨hx, hb, hm, ho, ht, hT, hi, hz, hzs, hdf, hdl, hlk⟩ := hX
  intro H locs a cells slots hH hl hL hc hs
  exact lv_dup hx hb hd (by rw [ev_mv_cat]; exact h1) (k H locs a cells slots hH hl hL hc hs)
theorem r_pop (hX : ev_C G M d X) {v : Value} (hd : decode M.2.2.1 pc = .ok (.pop, 1)) (h1 : v.category = 1) (k : ev_W G M X bc bs (pc + 1) ls (st) w) : ev_W G M X bc bs pc ls (v :: st) w := by
  obtain ⟨hx, hb, hm, ho, ht, hT, hi, hz, hzs, hdf, hdl, hlk⟩ := hX
  intro H locs a cells slots hH hl hL hc hs
  exact lv_pop hx hb hd (by rw [ev_mv_cat]; exact h1) (k H locs a cells slots hH hl hL hc hs)
theorem r_dup_x1 (hX : ev_C G M d X) {v u : Value} (hd : decode M.2.2.1 pc = .ok (.dup_x1, 1)) (h1 : v.category = 1) (h2 : u.category = 1) (k : ev_W G M X bc bs (pc + 1) ls (v :: u :: v :: st) w) : ev_W G M X bc bs pc ls (v :: u :: st) w := by
  obtain ⟨hx, hb, hm, ho, ht, hT, hi, hz, hzs, hdf, hdl, hlk⟩ := hX
  intro H locs a cells slots hH hl hL hc hs
  exact lv_dup_x1 hx hb hd (by rw [ev_mv_cat]; exact h1) (by rw [ev_mv_cat]; exact h2) (k H locs a cells slots hH hl hL hc hs)
theorem r_dup_x2 (hX : ev_C G M d X) {v u z : Value} (hd : decode M.2.2.1 pc = .ok (.dup_x2, 1)) (h1 : v.category = 1) (h2 : u.category = 1) (h3 : z.category = 1) (k : ev_W G M X bc bs (pc + 1) ls (v :: u :: z :: v :: st) w) : ev_W G M X bc bs pc ls (v :: u :: z :: st) w := by
  obtain ⟨hx, hb, hm, ho, ht, hT, hi, hz, hzs, hdf, hdl, hlk⟩ := hX
  intro H locs a cells slots hH hl hL hc hs
  exact lv_dup_x2 hx hb hd (by rw [ev_mv_cat]; exact h1) (by rw [ev_mv_cat]; exact h2) (by rw [ev_mv_cat]; exact h3) (k H locs a cells slots hH hl hL hc hs)
theorem r_dup2 (hX : ev_C G M d X) {v u : Value} (hd : decode M.2.2.1 pc = .ok (.dup2, 1)) (h1 : v.category = 1) (h2 : u.category = 1) (k : ev_W G M X bc bs (pc + 1) ls (v :: u :: v :: u :: st) w) : ev_W G M X bc bs pc ls (v :: u :: st) w := by
  obtain ⟨hx, hb, hm, ho, ht, hT, hi, hz, hzs, hdf, hdl, hlk⟩ := hX
  intro H locs a cells slots hH hl hL hc hs
  exact lv_dup2_11 hx hb hd (by rw [ev_mv_cat]; exact h1) (by rw [ev_mv_cat]; exact h2) (k H locs a cells slots hH hl hL hc hs)
theorem r_dup2L (hX : ev_C G M d X) {v : Value} (hd : decode M.2.2.1 pc = .ok (.dup2, 1)) (h1 : v.category = 2) (k : ev_W G M X bc bs (pc + 1) ls (v :: v :: st) w) : ev_W G M X bc bs pc ls (v :: st) w := by
  obtain ⟨hx, hb, hm, ho, ht, hT, hi, hz, hzs, hdf, hdl, hlk⟩ := hX
  intro H locs a cells slots hH hl hL hc hs
  exact lv_dup2_2 hx hb hd (by rw [ev_mv_cat]; exact h1) (k H locs a cells slots hH hl hL hc hs)
theorem r_dup2_x1L (hX : ev_C G M d X) {v u : Value} (hd : decode M.2.2.1 pc = .ok (.dup2_x1, 1)) (h1 : v.category = 2) (h2 : u.category = 1) (k : ev_W G M X bc bs (pc + 1) ls (v :: u :: v :: st) w) : ev_W G M X bc bs pc ls (v :: u :: st) w := by
  obtain ⟨hx, hb, hm, ho, ht, hT, hi, hz, hzs, hdf, hdl, hlk⟩ := hX
  intro H locs a cells slots hH hl hL hc hs
  exact lv_dup2_x1_2 hx hb hd (by rw [ev_mv_cat]; exact h1) (by rw [ev_mv_cat]; exact h2) (k H locs a cells slots hH hl hL hc hs)
theorem r_dup2_x2L (hX : ev_C G M d X) {v u z : Value} (hd : decode M.2.2.1 pc = .ok (.dup2_x2, 1)) (h1 : v.category = 2) (h2 : u.category = 1) (h3 : z.category = 1) (k : ev_W G M X bc bs (pc + 1) ls (v :: u :: z :: v :: st) w) : ev_W G M X bc bs pc ls (v :: u :: z :: st) w := by
  obtain ⟨hx, hb, hm, ho, ht, hT, hi, hz, hzs, hdf, hdl, hlk⟩ := hX
  intro H locs a cells slots hH hl hL hc hs
  exact lv_dup2_x2_2 hx hb hd (by rw [ev_mv_cat]; exact h1) (by rw [ev_mv_cat]; exact h2) (by rw [ev_mv_cat]; exact h3) (k H locs a cells slots hH hl hL hc hs)
theorem r_pop2L (hX : ev_C G M d X) {v : Value} (hd : decode M.2.2.1 pc = .ok (.pop2, 1)) (h1 : v.category = 2) (k : ev_W G M X bc bs (pc + 1) ls (st) w) : ev_W G M X bc bs pc ls (v :: st) w := by
  obtain ⟨hx, hb, hm, ho, ht, hT, hi, hz, hzs, hdf, hdl, hlk⟩ := hX
  intro H locs a cells slots hH hl hL hc hs
  exact lv_pop2_2 hx hb hd (by rw [ev_mv_cat]; exact h1) (k H locs a cells slots hH hl hL hc hs)
theorem r_if_eq (hX : ev_C G M d X) {x : Int32} {off : Int} (tgt : Nat) (hd : decode M.2.2.1 pc = .ok (.ifCond .eq off, 3)) (hg : (pc : Int) + off = (tgt : Int)) (kt : x = 0 → ev_W G M X bc bs tgt ls st w) (kf : ¬ x = 0 → ev_W G M X bc bs (pc + 3) ls st w) : ev_W G M X bc bs pc ls (.int x :: st) w := by
  obtain ⟨hx, hb, hm, ho, ht, hT, hi, hz, hzs, hdf, hdl, hlk⟩ := hX
  intro H locs a cells slots hH hl hL hc hs
  exact lv_if_eq hx hb hd hg (fun q => kt q H locs a cells slots hH hl hL hc hs) (fun q => kf q H locs a cells slots hH hl hL hc hs)
theorem r_if_ne (hX : ev_C G M d X) {x : Int32} {off : Int} (tgt : Nat) (hd : decode M.2.2.1 pc = .ok (.ifCond .ne off, 3)) (hg : (pc : Int) + off = (tgt : Int)) (kt : ¬ x = 0 → ev_W G M X bc bs tgt ls st w) (kf : x = 0 → ev_W G M X bc bs (pc + 3) ls st w) : ev_W G M X bc bs pc ls (.int x :: st) w := by
  obtain ⟨hx, hb, hm, ho, ht, hT, hi, hz, hzs, hdf, hdl, hlk⟩ := hX
  intro H locs a cells slots hH hl hL hc hs
  exact lv_if_ne hx hb hd hg (fun q => kt q H locs a cells slots hH hl hL hc hs) (fun q => kf q H locs a cells slots hH hl hL hc hs)
theorem r_if_lt (hX : ev_C G M d X) {x : Int32} {off : Int} (tgt : Nat) (hd : decode M.2.2.1 pc = .ok (.ifCond .lt off, 3)) (hg : (pc : Int) + off = (tgt : Int)) (kt : x < 0 → ev_W G M X bc bs tgt ls st w) (kf : ¬ x < 0 → ev_W G M X bc bs (pc + 3) ls st w) : ev_W G M X bc bs pc ls (.int x :: st) w := by
  obtain ⟨hx, hb, hm, ho, ht, hT, hi, hz, hzs, hdf, hdl, hlk⟩ := hX
  intro H locs a cells slots hH hl hL hc hs
  exact lv_if_lt hx hb hd hg (fun q => kt q H locs a cells slots hH hl hL hc hs) (fun q => kf q H locs a cells slots hH hl hL hc hs)
theorem r_if_ge (hX : ev_C G M d X) {x : Int32} {off : Int} (tgt : Nat) (hd : decode M.2.2.1 pc = .ok (.ifCond .ge off, 3)) (hg : (pc : Int) + off = (tgt : Int)) (kt : 0 ≤ x → ev_W G M X bc bs tgt ls st w) (kf : ¬ 0 ≤ x → ev_W G M X bc bs (pc + 3) ls st w) : ev_W G M X bc bs pc ls (.int x :: st) w := by
  obtain ⟨hx, hb, hm, ho, ht, hT, hi, hz, hzs, hdf, hdl, hlk⟩ := hX
  intro H locs a cells slots hH hl hL hc hs
  exact lv_if_ge hx hb hd hg (fun q => kt q H locs a cells slots hH hl hL hc hs) (fun q => kf q H locs a cells slots hH hl hL hc hs)
theorem r_if_gt (hX : ev_C G M d X) {x : Int32} {off : Int} (tgt : Nat) (hd : decode M.2.2.1 pc = .ok (.ifCond .gt off, 3)) (hg : (pc : Int) + off = (tgt : Int)) (kt : 0 < x → ev_W G M X bc bs tgt ls st w) (kf : ¬ 0 < x → ev_W G M X bc bs (pc + 3) ls st w) : ev_W G M X bc bs pc ls (.int x :: st) w := by
  obtain ⟨hx, hb, hm, ho, ht, hT, hi, hz, hzs, hdf, hdl, hlk⟩ := hX
  intro H locs a cells slots hH hl hL hc hs
  exact lv_if_gt hx hb hd hg (fun q => kt q H locs a cells slots hH hl hL hc hs) (fun q => kf q H locs a cells slots hH hl hL hc hs)
theorem r_if_le (hX : ev_C G M d X) {x : Int32} {off : Int} (tgt : Nat) (hd : decode M.2.2.1 pc = .ok (.ifCond .le off, 3)) (hg : (pc : Int) + off = (tgt : Int)) (kt : x ≤ 0 → ev_W G M X bc bs tgt ls st w) (kf : ¬ x ≤ 0 → ev_W G M X bc bs (pc + 3) ls st w) : ev_W G M X bc bs pc ls (.int x :: st) w := by
  obtain ⟨hx, hb, hm, ho, ht, hT, hi, hz, hzs, hdf, hdl, hlk⟩ := hX
  intro H locs a cells slots hH hl hL hc hs
  exact lv_if_le hx hb hd hg (fun q => kt q H locs a cells slots hH hl hL hc hs) (fun q => kf q H locs a cells slots hH hl hL hc hs)
theorem r_icmp_eq (hX : ev_C G M d X) {x y : Int32} {off : Int} (tgt : Nat) (hd : decode M.2.2.1 pc = .ok (.if_icmp .eq off, 3)) (hg : (pc : Int) + off = (tgt : Int)) (kt : x = y → ev_W G M X bc bs tgt ls st w) (kf : ¬ x = y → ev_W G M X bc bs (pc + 3) ls st w) : ev_W G M X bc bs pc ls (.int y :: .int x :: st) w := by
  obtain ⟨hx, hb, hm, ho, ht, hT, hi, hz, hzs, hdf, hdl, hlk⟩ := hX
  intro H locs a cells slots hH hl hL hc hs
  exact lv_icmp_eq hx hb hd hg (fun q => kt q H locs a cells slots hH hl hL hc hs) (fun q => kf q H locs a cells slots hH hl hL hc hs)
theorem r_icmp_ne (hX : ev_C G M d X) {x y : Int32} {off : Int} (tgt : Nat) (hd : decode M.2.2.1 pc = .ok (.if_icmp .ne off, 3)) (hg : (pc : Int) + off = (tgt : Int)) (kt : ¬ x = y → ev_W G M X bc bs tgt ls st w) (kf : x = y → ev_W G M X bc bs (pc + 3) ls st w) : ev_W G M X bc bs pc ls (.int y :: .int x :: st) w := by
  obtain ⟨hx, hb, hm, ho, ht, hT, hi, hz, hzs, hdf, hdl, hlk⟩ := hX
  intro H locs a cells slots hH hl hL hc hs
  exact lv_icmp_ne hx hb hd hg (fun q => kt q H locs a cells slots hH hl hL hc hs) (fun q => kf q H locs a cells slots hH hl hL hc hs)
theorem r_icmp_lt (hX : ev_C G M d X) {x y : Int32} {off : Int} (tgt : Nat) (hd : decode M.2.2.1 pc = .ok (.if_icmp .lt off, 3)) (hg : (pc : Int) + off = (tgt : Int)) (kt : x < y → ev_W G M X bc bs tgt ls st w) (kf : ¬ x < y → ev_W G M X bc bs (pc + 3) ls st w) : ev_W G M X bc bs pc ls (.int y :: .int x :: st) w := by
  obtain ⟨hx, hb, hm, ho, ht, hT, hi, hz, hzs, hdf, hdl, hlk⟩ := hX
  intro H locs a cells slots hH hl hL hc hs
  exact lv_icmp_lt hx hb hd hg (fun q => kt q H locs a cells slots hH hl hL hc hs) (fun q => kf q H locs a cells slots hH hl hL hc hs)
theorem r_icmp_ge (hX : ev_C G M d X) {x y : Int32} {off : Int} (tgt : Nat) (hd : decode M.2.2.1 pc = .ok (.if_icmp .ge off, 3)) (hg : (pc : Int) + off = (tgt : Int)) (kt : y ≤ x → ev_W G M X bc bs tgt ls st w) (kf : ¬ y ≤ x → ev_W G M X bc bs (pc + 3) ls st w) : ev_W G M X bc bs pc ls (.int y :: .int x :: st) w := by
  obtain ⟨hx, hb, hm, ho, ht, hT, hi, hz, hzs, hdf, hdl, hlk⟩ := hX
  intro H locs a cells slots hH hl hL hc hs
  exact lv_icmp_ge hx hb hd hg (fun q => kt q H locs a cells slots hH hl hL hc hs) (fun q => kf q H locs a cells slots hH hl hL hc hs)
theorem r_icmp_gt (hX : ev_C G M d X) {x y : Int32} {off : Int} (tgt : Nat) (hd : decode M.2.2.1 pc = .ok (.if_icmp .gt off, 3)) (hg : (pc : Int) + off = (tgt : Int)) (kt : y < x → ev_W G M X bc bs tgt ls st w) (kf : ¬ y < x → ev_W G M X bc bs (pc + 3) ls st w) : ev_W G M X bc bs pc ls (.int y :: .int x :: st) w := by
  obtain ⟨hx, hb, hm, ho, ht, hT, hi, hz, hzs, hdf, hdl, hlk⟩ := hX
  intro H locs a cells slots hH hl hL hc hs
  exact lv_icmp_gt hx hb hd hg (fun q => kt q H locs a cells slots hH hl hL hc hs) (fun q => kf q H locs a cells slots hH hl hL hc hs)
theorem r_icmp_le (hX : ev_C G M d X) {x y : Int32} {off : Int} (tgt : Nat) (hd : decode M.2.2.1 pc = .ok (.if_icmp .le off, 3)) (hg : (pc : Int) + off = (tgt : Int)) (kt : x ≤ y → ev_W G M X bc bs tgt ls st w) (kf : ¬ x ≤ y → ev_W G M X bc bs (pc + 3) ls st w) : ev_W G M X bc bs pc ls (.int y :: .int x :: st) w := by
  obtain ⟨hx, hb, hm, ho, ht, hT, hi, hz, hzs, hdf, hdl, hlk⟩ := hX
  intro H locs a cells slots hH hl hL hc hs
  exact lv_icmp_le hx hb hd hg (fun q => kt q H locs a cells slots hH hl hL hc hs) (fun q => kf q H locs a cells slots hH hl hL hc hs)
theorem r_goto (hX : ev_C G M d X) {off : Int} (tgt : Nat) (hd : decode M.2.2.1 pc = .ok (.goto off, 3)) (hg : (pc : Int) + off = (tgt : Int)) (k : ev_W G M X bc bs tgt ls st w) : ev_W G M X bc bs pc ls st w := by
  obtain ⟨hx, hb, hm, ho, ht, hT, hi, hz, hzs, hdf, hdl, hlk⟩ := hX
  intro H locs a cells slots hH hl hL hc hs
  exact lv_goto hx hb hd hg (k H locs a cells slots hH hl hL hc hs)
theorem r_ifnull (hX : ev_C G M d X) {x : Nat} {off : Int} (hd : decode M.2.2.1 pc = .ok (.ifnull off, 3)) (k : ev_W G M X bc bs (pc + 3) ls st w) : ev_W G M X bc bs pc ls (.ref x :: st) w := by
  obtain ⟨hx, hb, hm, ho, ht, hT, hi, hz, hzs, hdf, hdl, hlk⟩ := hX
  intro H locs a cells slots hH hl hL hc hs
  exact lv_ifnull hx hb hd (k H locs a cells slots hH hl hL hc hs)
theorem r_ifnullN (hX : ev_C G M d X) {off : Int} (tgt : Nat) (hd : decode M.2.2.1 pc = .ok (.ifnull off, 3)) (hg : (pc : Int) + off = (tgt : Int)) (k : ev_W G M X bc bs tgt ls st w) : ev_W G M X bc bs pc ls (.null :: st) w := by
  obtain ⟨hx, hb, hm, ho, ht, hT, hi, hz, hzs, hdf, hdl, hlk⟩ := hX
  intro H locs a cells slots hH hl hL hc hs
  exact lv_ifnullN hx hb hd hg (k H locs a cells slots hH hl hL hc hs)
theorem r_ifnonnull (hX : ev_C G M d X) {x : Nat} {off : Int} (tgt : Nat) (hd : decode M.2.2.1 pc = .ok (.ifnonnull off, 3)) (hg : (pc : Int) + off = (tgt : Int)) (k : ev_W G M X bc bs tgt ls st w) : ev_W G M X bc bs pc ls (.ref x :: st) w := by
  obtain ⟨hx, hb, hm, ho, ht, hT, hi, hz, hzs, hdf, hdl, hlk⟩ := hX
  intro H locs a cells slots hH hl hL hc hs
  exact lv_ifnonnull hx hb hd hg (k H locs a cells slots hH hl hL hc hs)
theorem r_ifnonnullN (hX : ev_C G M d X) {off : Int} (hd : decode M.2.2.1 pc = .ok (.ifnonnull off, 3)) (k : ev_W G M X bc bs (pc + 3) ls st w) : ev_W G M X bc bs pc ls (.null :: st) w := by
  obtain ⟨hx, hb, hm, ho, ht, hT, hi, hz, hzs, hdf, hdl, hlk⟩ := hX
  intro H locs a cells slots hH hl hL hc hs
  exact lv_ifnonnullN hx hb hd (k H locs a cells slots hH hl hL hc hs)
theorem r_ifnullq (hX : ev_C G M d X) {o : Option Nat} {off : Int} (tgt : Nat) (hd : decode M.2.2.1 pc = .ok (.ifnull off, 3)) (hg : (pc : Int) + off = (tgt : Int)) (kt : o = none → ev_W G M X bc bs tgt ls st w) (kf : ∀ x, o = some x → ev_W G M X bc bs (pc + 3) ls st w) : ev_W G M X bc bs pc ls (va_rf o :: st) w := by
  cases o with
  | none => exact r_ifnullN hX tgt hd hg (kt rfl)
  | some x => exact r_ifnull hX hd (kf x rfl)
theorem r_ifnonnullq (hX : ev_C G M d X) {o : Option Nat} {off : Int} (tgt : Nat) (hd : decode M.2.2.1 pc = .ok (.ifnonnull off, 3)) (hg : (pc : Int) + off = (tgt : Int)) (kt : ∀ x, o = some x → ev_W G M X bc bs tgt ls st w) (kf : o = none → ev_W G M X bc bs (pc + 3) ls st w) : ev_W G M X bc bs pc ls (va_rf o :: st) w := by
  cases o with
  | none => exact r_ifnonnullN hX hd (kf rfl)
  | some x => exact r_ifnonnull hX tgt hd hg (kt x rfl)
theorem r_acmp_eq (hX : ev_C G M d X) {o u : Option Nat} {off : Int} (tgt : Nat) (ko : ev_ok o) (ku : ev_ok u) (hd : decode M.2.2.1 pc = .ok (.if_acmp .eq off, 3)) (hg : (pc : Int) + off = (tgt : Int)) (kt : o = u → ev_W G M X bc bs tgt ls st w) (kf : ¬ o = u → ev_W G M X bc bs (pc + 3) ls st w) : ev_W G M X bc bs pc ls (va_rf u :: va_rf o :: st) w := by
  obtain ⟨hx, hb, hm, ho, ht, hT, hi, hz, hzs, hdf, hdl, hlk⟩ := hX
  intro H locs a cells slots hH hl hL hc hs
  have ei : ∀ (o u : Option Nat), ev_ok o → ev_ok u → o.map (ev_rho G) = u.map (ev_rho G) → o = u := fun o u k1 k2 h => by
    cases o <;> cases u <;> simp at h ⊢
    exact ev_rho_inj hi (k1 _ rfl) (k2 _ rfl) h
  show W _ _ _ _ _ _ _ _ _ _ _ _ _ _ _ (F0 _ _ _ (ev_mv G (va_rf u) :: ev_mv G (va_rf o) :: st.map (ev_mv G)))
  rw [ev_mv_rf, ev_mv_rf]
  exact lv_acmp_eq hx hb hd hg (fun q => kt (ei _ _ ko ku q) H locs a cells slots hH hl hL hc hs) (fun q => kf (fun z => q (by rw [z])) H locs a cells slots hH hl hL hc hs)
theorem r_acmp_ne (hX : ev_C G M d X) {o u : Option Nat} {off : Int} (tgt : Nat) (ko : ev_ok o) (ku : ev_ok u) (hd : decode M.2.2.1 pc = .ok (.if_acmp .ne off, 3)) (hg : (pc : Int) + off = (tgt : Int)) (kt : ¬ o = u → ev_W G M X bc bs tgt ls st w) (kf : o = u → ev_W G M X bc bs (pc + 3) ls st w) : ev_W G M X bc bs pc ls (va_rf u :: va_rf o :: st) w := by
  obtain ⟨hx, hb, hm, ho, ht, hT, hi, hz, hzs, hdf, hdl, hlk⟩ := hX
  intro H locs a cells slots hH hl hL hc hs
  have ei : ∀ (o u : Option Nat), ev_ok o → ev_ok u → o.map (ev_rho G) = u.map (ev_rho G) → o = u := fun o u k1 k2 h => by
    cases o <;> cases u <;> simp at h ⊢
    exact ev_rho_inj hi (k1 _ rfl) (k2 _ rfl) h
  show W _ _ _ _ _ _ _ _ _ _ _ _ _ _ _ (F0 _ _ _ (ev_mv G (va_rf u) :: ev_mv G (va_rf o) :: st.map (ev_mv G)))
  rw [ev_mv_rf, ev_mv_rf]
  exact lv_acmp_ne hx hb hd hg (fun q => kt (fun z => q (by rw [z])) H locs a cells slots hH hl hL hc hs) (fun q => kf (ei _ _ ko ku q) H locs a cells slots hH hl hL hc hs)
theorem r_lookup (hX : ev_C G M d X) {dflt : Int} {ps : Array (Int × Int)} {len : Nat} {x : Int32} {off : Int} (tgt : Nat) (hd : decode M.2.2.1 pc = .ok (.lookupswitch dflt ps, len)) (hp : (ps.toList.zip (ps.toList.drop 1)).all (fun (a, next) => a.1 < next.1) = true) (hof : Op.lookupswitch.offset ps.toList dflt x.toInt = off) (hg : (pc : Int) + off = (tgt : Int)) (k : ev_W G M X bc bs tgt ls st w) : ev_W G M X bc bs pc ls (.int x :: st) w := by
  obtain ⟨hx, hb, hm, ho, ht, hT, hi, hz, hzs, hdf, hdl, hlk⟩ := hX
  intro H locs a cells slots hH hl hL hc hs
  exact lv_lookup hx hb hd hp hof hg (k H locs a cells slots hH hl hL hc hs)
theorem r_tableOut (hX : ev_C G M d X) {dflt lo hi : Int} {offs : Array Int} {len : Nat} {x : Int32} (tgt : Nat) (hd : decode M.2.2.1 pc = .ok (.tableswitch dflt lo hi offs, len)) (h : x.toInt < lo ∨ hi < x.toInt) (hg : (pc : Int) + dflt = (tgt : Int)) (k : ev_W G M X bc bs tgt ls st w) : ev_W G M X bc bs pc ls (.int x :: st) w := by
  obtain ⟨hx, hb, hm, ho, ht, hT, hi, hz, hzs, hdf, hdl, hlk⟩ := hX
  intro H locs a cells slots hH hl hL hc hs
  exact lv_tableOut hx hb hd h hg (k H locs a cells slots hH hl hL hc hs)
theorem r_tableIn (hX : ev_C G M d X) {dflt lo hi : Int} {offs : Array Int} {len : Nat} {x : Int32} {off : Int} (tgt : Nat) (hd : decode M.2.2.1 pc = .ok (.tableswitch dflt lo hi offs, len)) (h1 : ¬ x.toInt < lo) (h2 : ¬ hi < x.toInt) (hof : offs[(x.toInt - lo).toNat]? = some off) (hg : (pc : Int) + off = (tgt : Int)) (k : ev_W G M X bc bs tgt ls st w) : ev_W G M X bc bs pc ls (.int x :: st) w := by
  obtain ⟨hx, hb, hm, ho, ht, hT, hi, hz, hzs, hdf, hdl, hlk⟩ := hX
  intro H locs a cells slots hH hl hL hc hs
  exact lv_tableIn hx hb hd h1 h2 hof hg (k H locs a cells slots hH hl hL hc hs)
theorem r_less {bc' bs' : Nat} (hc1 : bc' ≤ bc) (hs1 : bs' ≤ bs) (k : ev_W G M X bc' bs' pc ls st w) : ev_W G M X bc bs pc ls st w := fun H locs a cells slots hH hl hL hc hs => k H locs a cells slots hH hl hL (by omega) (by omega)
end EvR
