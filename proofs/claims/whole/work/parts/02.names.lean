def R_EF : String := "ElementFiles"
def F_EF : u_T := fun k => match k with
  | 0 => ("ElementFiles", "fed", "LElementFiles$Row;", true)
  | 1 => ("ElementFiles", "written", "LElementFiles$Row;", true)
  | 2 => ("ElementFiles", "atHand", "LElementFiles$Frames;", true)
  | 3 => ("ElementFiles", "tree", "LElementFiles$Tree;", true)
  | 4 => ("ElementFiles", "reader", "LElementFiles$Reader;", true)
  | 5 => ("ElementFiles", "writer", "LElementFiles$Writer;", true)
  | _ => ("ElementFiles", "finder", "LElementFiles$Finder;", true)
def t_EF : Nat → FieldType := fun k => match k with
  | 0 => .object "ElementFiles$Row"
  | 1 => .object "ElementFiles$Row"
  | 2 => .object "ElementFiles$Frames"
  | 3 => .object "ElementFiles$Tree"
  | 4 => .object "ElementFiles$Reader"
  | 5 => .object "ElementFiles$Writer"
  | _ => .object "ElementFiles$Finder"
theorem n_EF : ∀ a, a < 7 → ∀ b, b < 7 → a ≠ b → (F_EF a).2.1 ≠ (F_EF b).2.1 := by decide +kernel
theorem t_EF_ok : ∀ k, k < 7 → parseFieldDescriptor (F_EF k).2.2.1 = some (t_EF k) := by decide +kernel
def R_Ro : String := "ElementFiles$Row"
def F_Ro : u_T := fun k => match k with
  | 0 => ("ElementFiles$Row", "bytes", "[I", true)
  | _ => ("ElementFiles$Row", "count", "I", false)
def t_Ro : Nat → FieldType := fun k => match k with
  | 0 => .array .int
  | _ => .int
theorem n_Ro : ∀ a, a < 2 → ∀ b, b < 2 → a ≠ b → (F_Ro a).2.1 ≠ (F_Ro b).2.1 := by decide +kernel
theorem t_Ro_ok : ∀ k, k < 2 → parseFieldDescriptor (F_Ro k).2.2.1 = some (t_Ro k) := by decide +kernel
def R_Fr : String := "ElementFiles$Frames"
def F_Fr : u_T := fun k => match k with
  | 0 => ("ElementFiles$Frames", "sizes", "[I", true)
  | 1 => ("ElementFiles$Frames", "bytes", "[I", true)
  | 2 => ("ElementFiles$Frames", "count", "I", false)
  | _ => ("ElementFiles$Frames", "filled", "I", false)
def t_Fr : Nat → FieldType := fun k => match k with
  | 0 => .array .int
  | 1 => .array .int
  | 2 => .int
  | _ => .int
theorem n_Fr : ∀ a, a < 4 → ∀ b, b < 4 → a ≠ b → (F_Fr a).2.1 ≠ (F_Fr b).2.1 := by decide +kernel
theorem t_Fr_ok : ∀ k, k < 4 → parseFieldDescriptor (F_Fr k).2.2.1 = some (t_Fr k) := by decide +kernel
def R_El : String := "ElementFiles$Element"
def F_El : u_T := fun k => match k with
  | 0 => ("ElementFiles$Element", "sort", "LElementFiles$Sort;", false)
  | 1 => ("ElementFiles$Element", "tag", "I", false)
  | 2 => ("ElementFiles$Element", "master", "LElementFiles$Element;", false)
  | 3 => ("ElementFiles$Element", "level", "I", false)
  | 4 => ("ElementFiles$Element", "number", "I", false)
  | 5 => ("ElementFiles$Element", "amount", "J", false)
  | 6 => ("ElementFiles$Element", "parts", "[I", true)
  | 7 => ("ElementFiles$Element", "storedFrom", "I", false)
  | 8 => ("ElementFiles$Element", "storedSize", "I", false)
  | 9 => ("ElementFiles$Element", "track", "I", false)
  | 10 => ("ElementFiles$Element", "time", "I", false)
  | 11 => ("ElementFiles$Element", "key", "Z", false)
  | 12 => ("ElementFiles$Element", "lacing", "I", false)
  | 13 => ("ElementFiles$Element", "end", "I", false)
  | 14 => ("ElementFiles$Element", "open", "Z", false)
  | 15 => ("ElementFiles$Element", "dataSize", "I", false)
  | _ => ("ElementFiles$Element", "dataPlace", "I", false)
def t_El : Nat → FieldType := fun k => match k with
  | 0 => .object "ElementFiles$Sort"
  | 1 => .int
  | 2 => .object "ElementFiles$Element"
  | 3 => .int
  | 4 => .int
  | 5 => .long
  | 6 => .array .int
  | 7 => .int
  | 8 => .int
  | 9 => .int
  | 10 => .int
  | 11 => .boolean
  | 12 => .int
  | 13 => .int
  | 14 => .boolean
  | 15 => .int
  | _ => .int
theorem n_El : ∀ a, a < 17 → ∀ b, b < 17 → a ≠ b → (F_El a).2.1 ≠ (F_El b).2.1 := by decide +kernel
theorem t_El_ok : ∀ k, k < 17 → parseFieldDescriptor (F_El k).2.2.1 = some (t_El k) := by decide +kernel
def R_Tr : String := "ElementFiles$Tree"
def F_Tr : u_T := fun k => match k with
  | 0 => ("ElementFiles$Tree", "line", "[LElementFiles$Element;", true)
  | 1 => ("ElementFiles$Tree", "aside", "[LElementFiles$Element;", true)
  | 2 => ("ElementFiles$Tree", "count", "I", false)
  | 3 => ("ElementFiles$Tree", "store", "[I", true)
  | _ => ("ElementFiles$Tree", "stored", "I", false)
def t_Tr : Nat → FieldType := fun k => match k with
  | 0 => .array (.object "ElementFiles$Element")
  | 1 => .array (.object "ElementFiles$Element")
  | 2 => .int
  | 3 => .array .int
  | _ => .int
theorem n_Tr : ∀ a, a < 5 → ∀ b, b < 5 → a ≠ b → (F_Tr a).2.1 ≠ (F_Tr b).2.1 := by decide +kernel
theorem t_Tr_ok : ∀ k, k < 5 → parseFieldDescriptor (F_Tr k).2.2.1 = some (t_Tr k) := by decide +kernel
def R_Re : String := "ElementFiles$Reader"
def F_Re : u_T := fun k => match k with
  | 0 => ("ElementFiles$Reader", "source", "LElementFiles$Row;", true)
  | 1 => ("ElementFiles$Reader", "tree", "LElementFiles$Tree;", true)
  | 2 => ("ElementFiles$Reader", "faultPlace", "I", false)
  | 3 => ("ElementFiles$Reader", "master", "LElementFiles$Element;", false)
  | 4 => ("ElementFiles$Reader", "place", "I", false)
  | 5 => ("ElementFiles$Reader", "end", "I", false)
  | 6 => ("ElementFiles$Reader", "tag", "I", false)
  | 7 => ("ElementFiles$Reader", "vintIsFull", "Z", false)
  | _ => ("ElementFiles$Reader", "vintLength", "I", false)
def t_Re : Nat → FieldType := fun k => match k with
  | 0 => .object "ElementFiles$Row"
  | 1 => .object "ElementFiles$Tree"
  | 2 => .int
  | 3 => .object "ElementFiles$Element"
  | 4 => .int
  | 5 => .int
  | 6 => .int
  | 7 => .boolean
  | _ => .int
theorem n_Re : ∀ a, a < 9 → ∀ b, b < 9 → a ≠ b → (F_Re a).2.1 ≠ (F_Re b).2.1 := by decide +kernel
theorem t_Re_ok : ∀ k, k < 9 → parseFieldDescriptor (F_Re k).2.2.1 = some (t_Re k) := by decide +kernel
def R_Wr : String := "ElementFiles$Writer"
def F_Wr : u_T := fun k => match k with
  | 0 => ("ElementFiles$Writer", "tree", "LElementFiles$Tree;", true)
  | 1 => ("ElementFiles$Writer", "target", "LElementFiles$Row;", true)
  | _ => ("ElementFiles$Writer", "counter", "LElementFiles$Row;", true)
def t_Wr : Nat → FieldType := fun k => match k with
  | 0 => .object "ElementFiles$Tree"
  | 1 => .object "ElementFiles$Row"
  | _ => .object "ElementFiles$Row"
theorem n_Wr : ∀ a, a < 3 → ∀ b, b < 3 → a ≠ b → (F_Wr a).2.1 ≠ (F_Wr b).2.1 := by decide +kernel
theorem t_Wr_ok : ∀ k, k < 3 → parseFieldDescriptor (F_Wr k).2.2.1 = some (t_Wr k) := by decide +kernel
def R_Fi : String := "ElementFiles$Finder"
def F_Fi : u_T := fun k => match k with
  | _ => ("ElementFiles$Finder", "tree", "LElementFiles$Tree;", true)
def t_Fi : Nat → FieldType := fun k => match k with
  | _ => .object "ElementFiles$Tree"
theorem n_Fi : ∀ a, a < 1 → ∀ b, b < 1 → a ≠ b → (F_Fi a).2.1 ≠ (F_Fi b).2.1 := by decide +kernel
theorem t_Fi_ok : ∀ k, k < 1 → parseFieldDescriptor (F_Fi k).2.2.1 = some (t_Fi k) := by decide +kernel
def R_Mo : String := "ElementFilesModel"
def F_Mo : u_T := fun k => match k with
  | 0 => ("ElementFilesModel", "count", "I", false)
  | 1 => ("ElementFilesModel", "ids", "[I", true)
  | 2 => ("ElementFilesModel", "masters", "[I", true)
  | 3 => ("ElementFilesModel", "values", "[J", true)
  | 4 => ("ElementFilesModel", "many", "[I", true)
  | 5 => ("ElementFilesModel", "letters", "[I", true)
  | 6 => ("ElementFilesModel", "tracks", "[I", true)
  | 7 => ("ElementFilesModel", "times", "[I", true)
  | 8 => ("ElementFilesModel", "keys", "[Z", true)
  | 9 => ("ElementFilesModel", "lacings", "[I", true)
  | 10 => ("ElementFilesModel", "sizes", "[I", true)
  | 11 => ("ElementFilesModel", "places", "[I", true)
  | 12 => ("ElementFilesModel", "heap", "[I", true)
  | 13 => ("ElementFilesModel", "used", "I", false)
  | 14 => ("ElementFilesModel", "hands", "I", false)
  | 15 => ("ElementFilesModel", "handSize", "[I", true)
  | 16 => ("ElementFilesModel", "handFirst", "[I", true)
  | 17 => ("ElementFilesModel", "handBytes", "I", false)
  | 18 => ("ElementFilesModel", "in", "[I", true)
  | 19 => ("ElementFilesModel", "ins", "I", false)
  | 20 => ("ElementFilesModel", "out", "[I", true)
  | 21 => ("ElementFilesModel", "outs", "I", false)
  | 22 => ("ElementFilesModel", "fault", "I", false)
  | 23 => ("ElementFilesModel", "at", "I", false)
  | 24 => ("ElementFilesModel", "width", "I", false)
  | 25 => ("ElementFilesModel", "vint", "J", false)
  | 26 => ("ElementFilesModel", "ones", "Z", false)
  | 27 => ("ElementFilesModel", "depth", "I", false)
  | 28 => ("ElementFilesModel", "openMaster", "[I", true)
  | 29 => ("ElementFilesModel", "openEnd", "[I", true)
  | 30 => ("ElementFilesModel", "unknown", "[Z", true)
  | 31 => ("ElementFilesModel", "data", "[I", true)
  | _ => ("ElementFilesModel", "begins", "[I", true)
def t_Mo : Nat → FieldType := fun k => match k with
  | 0 => .int
  | 1 => .array .int
  | 2 => .array .int
  | 3 => .array .long
  | 4 => .array .int
  | 5 => .array .int
  | 6 => .array .int
  | 7 => .array .int
  | 8 => .array .boolean
  | 9 => .array .int
  | 10 => .array .int
  | 11 => .array .int
  | 12 => .array .int
  | 13 => .int
  | 14 => .int
  | 15 => .array .int
  | 16 => .array .int
  | 17 => .int
  | 18 => .array .int
  | 19 => .int
  | 20 => .array .int
  | 21 => .int
  | 22 => .int
  | 23 => .int
  | 24 => .int
  | 25 => .long
  | 26 => .boolean
  | 27 => .int
  | 28 => .array .int
  | 29 => .array .int
  | 30 => .array .boolean
  | 31 => .array .int
  | _ => .array .int
theorem n_Mo : ∀ a, a < 33 → ∀ b, b < 33 → a ≠ b → (F_Mo a).2.1 ≠ (F_Mo b).2.1 := by decide +kernel
theorem t_Mo_ok : ∀ k, k < 33 → parseFieldDescriptor (F_Mo k).2.2.1 = some (t_Mo k) := by decide +kernel
abbrev vwCl : List vw_C := [(R_EF, F_EF, 7), (R_Ro, F_Ro, 2), (R_Fr, F_Fr, 4), (R_El, F_El, 17), (R_Tr, F_Tr, 5), (R_Re, F_Re, 9), (R_Wr, F_Wr, 3), (R_Fi, F_Fi, 1), (R_Mo, F_Mo, 33)]
def R_So : String := "ElementFiles$Sort"
def R_La : String := "ElementFilesLaw"
def R_Ma : String := "java/lang/Math"
abbrev ev_arrs : List FieldType := [.int, .long, .boolean, .object "ElementFiles$Element"]
abbrev ev_over : List String := ["ElementFiles$Element"]
abbrev ev_nm : List String := ["HEAD", "SEGMENT", "VERSION", "TYPE", "TRACK", "NUMBER", "NAME", "CLUSTER", "TIME", "BLOCK", "CUE", "WHEN", "WHOSE", "WHICH", "CHECK", "VOID", "FOREIGN"]
abbrev ev_fl : List (String × String × String × List Int32) := [("ElementFiles$Sort", "tag", "I", [440786851, 408125543, 17030, 17026, 174, 215, 21358, 524531317, 231, 163, 187, 179, 247, 241, 191, 236, 0]), ("ElementFiles$Sort", "form", "I", [0, 0, 1, 2, 0, 1, 2, 0, 1, 3, 0, 1, 1, 1, 4, 5, 6]), ("ElementFiles$Sort", "places", "I", [1, 1, 2, 2, 4, 8, 8, 4, 16, 16, 4, 32, 32, 32, 42, 63, 63]), ("ElementFiles$Sort", "inside", "I", [2, 4, 0, 0, 8, 0, 0, 16, 0, 0, 32, 0, 0, 0, 0, 0, 0])]
def ev_nest : List Cond := [.methodLinkNest "ElementFiles" 23 ⟨"ElementFiles$Frames", "<init>", "()V"⟩ "ElementFiles", .methodLinkNest "ElementFiles" 30 ⟨"ElementFiles$Tree", "<init>", "()V"⟩ "ElementFiles", .methodLinkNest "ElementFiles$Reader" 62 ⟨"ElementFiles", "vintLengthByFirst", "(I)I"⟩ "ElementFiles", .methodLinkNest "ElementFiles$Reader" 191 ⟨"ElementFiles", "allOnes", "(I)J"⟩ "ElementFiles", .methodLinkNest "ElementFiles$Tree" 61 ⟨"ElementFiles$Element", "<init>", "()V"⟩ "ElementFiles", .methodLinkNest "ElementFiles$Reader" 149 ⟨"ElementFiles", "isLetter", "(I)Z"⟩ "ElementFiles", .methodLinkNest "ElementFiles$Reader" 179 ⟨"ElementFiles", "surplus", "(I)J"⟩ "ElementFiles", .methodLinkNest "ElementFiles$Writer" 51 ⟨"ElementFiles", "shortestVintLength", "(J)I"⟩ "ElementFiles", .methodLinkNest "ElementFiles$Row" 23 ⟨"ElementFiles", "allOnes", "(I)J"⟩ "ElementFiles", .methodLinkNest "ElementFiles$Writer" 156 ⟨"ElementFiles", "surplus", "(I)J"⟩ "ElementFiles"]
theorem ev_nest_is : ∀ w ∈ ev_nest, ∃ (a : String) (i : Nat) (x : MethodName) (h : String), w = .methodLinkNest a i x h := by
  intro w hw
  simp only [ev_nest, List.mem_cons, List.not_mem_nil, or_false] at hw
  rcases hw with h | h | h | h | h | h | h | h | h | h <;> exact ⟨_, _, _, _, h⟩
theorem ev_nest_tab (w : Cond) (hw : w ∈ ev_nest) : w.onTables = true := by
  obtain ⟨a, i, x, h, e⟩ := ev_nest_is w hw
  rw [e]; rfl
theorem ev_nest_warm (w : Cond) (hw : w ∈ ev_nest) {s U : State} (h : s.WarmedH U.vm) (k : va_Nw w s) : va_Nw w U := by
  obtain ⟨a, i, x, hh, e⟩ := ev_nest_is w hw
  subst e
  exact va_Nw.warmM h k
theorem ev_nest_in : ∀ w ∈ ev_nest, w ∈ lw_tbl := by decide +kernel
