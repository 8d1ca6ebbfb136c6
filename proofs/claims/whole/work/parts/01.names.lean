/-! NAMES, by program (tools/mk_names.py) out of claim/Statement.lean -/
def zt : List Cond := lw_tbl.filter goodWord
theorem zt_in {w : Cond} {i : Nat} (h : tables_1[i]? = some w) (g : goodWord w = true) : w ∈ zt := List.mem_filter.mpr ⟨List.mem_append_right _ (List.mem_of_getElem? h), g⟩
theorem zt_in0 {w : Cond} {i : Nat} (h : tables_1[i]? = some w) : w ∈ lw_tbl := List.mem_append_right _ (List.mem_of_getElem? h)
theorem zt_sel {w : Cond} {i : Nat} (h : (k2_sels lw_privs)[i]? = some w) (g : goodWord w = true) : w ∈ zt := List.mem_filter.mpr ⟨List.mem_append_left _ (List.mem_of_getElem? h), g⟩

def R_BT : String := "BranchTrees"
def F_BT : u_T := fun k => match k with
  | 0 => ("BranchTrees", "problem", "LBranchTrees$Problem;", true)
  | 1 => ("BranchTrees", "best", "LBranchTrees$Best;", true)
  | 2 => ("BranchTrees", "prices", "LBranchTrees$Prices;", true)
  | 3 => ("BranchTrees", "tree", "LBranchTrees$Tree;", true)
  | 4 => ("BranchTrees", "search", "LBranchTrees$Search;", true)
  | 5 => ("BranchTrees", "proof", "LBranchTrees$Proof;", true)
  | 6 => ("BranchTrees", "rules", "[I", true)
  | _ => ("BranchTrees", "startValues", "[I", true)
def t_BT : Nat → FieldType := fun k => match k with
  | 0 => .object "BranchTrees$Problem"
  | 1 => .object "BranchTrees$Best"
  | 2 => .object "BranchTrees$Prices"
  | 3 => .object "BranchTrees$Tree"
  | 4 => .object "BranchTrees$Search"
  | 5 => .object "BranchTrees$Proof"
  | 6 => .array (.int)
  | _ => .array (.int)
theorem nm_BT : ∀ a, a < 8 → ∀ b, b < 8 → a ≠ b → (F_BT a).2.1 ≠ (F_BT b).2.1 := by decide +kernel
theorem ty_BT : ∀ k, k < 8 → parseFieldDescriptor (F_BT k).2.2.1 = some (t_BT k) := by decide +kernel
theorem iw_BT : ∀ w ∈ u_ws R_BT F_BT 8, w ∈ zt := by
  intro w hw
  obtain ⟨k, hk, rfl⟩ := List.mem_map.mp hw
  have hk := List.mem_range.mp hk
  match k, hk with
  | 0, _ => exact zt_in (i := 228) (by decide +kernel) rfl
  | 1, _ => exact zt_in (i := 230) (by decide +kernel) rfl
  | 2, _ => exact zt_in (i := 232) (by decide +kernel) rfl
  | 3, _ => exact zt_in (i := 234) (by decide +kernel) rfl
  | 4, _ => exact zt_in (i := 236) (by decide +kernel) rfl
  | 5, _ => exact zt_in (i := 238) (by decide +kernel) rfl
  | 6, _ => exact zt_in (i := 240) (by decide +kernel) rfl
  | 7, _ => exact zt_in (i := 242) (by decide +kernel) rfl
  | k + 8, hk => omega
theorem in_BT : Cond.instantiable R_BT 8 ∈ zt := zt_in (i := 14) (by decide +kernel) rfl
def R_Be : String := "BranchTrees$Best"
def F_Be : u_T := fun k => match k with
  | 0 => ("BranchTrees$Best", "values", "[I", true)
  | 1 => ("BranchTrees$Best", "found", "Z", false)
  | _ => ("BranchTrees$Best", "lowest", "I", false)
def t_Be : Nat → FieldType := fun k => match k with
  | 0 => .array (.int)
  | 1 => .boolean
  | _ => .int
theorem nm_Be : ∀ a, a < 3 → ∀ b, b < 3 → a ≠ b → (F_Be a).2.1 ≠ (F_Be b).2.1 := by decide +kernel
theorem ty_Be : ∀ k, k < 3 → parseFieldDescriptor (F_Be k).2.2.1 = some (t_Be k) := by decide +kernel
theorem iw_Be : ∀ w ∈ u_ws R_Be F_Be 3, w ∈ zt := by
  intro w hw
  obtain ⟨k, hk, rfl⟩ := List.mem_map.mp hw
  have hk := List.mem_range.mp hk
  match k, hk with
  | 0, _ => exact zt_in (i := 94) (by decide +kernel) rfl
  | 1, _ => exact zt_in (i := 96) (by decide +kernel) rfl
  | 2, _ => exact zt_in (i := 98) (by decide +kernel) rfl
  | k + 3, hk => omega
theorem in_Be : Cond.instantiable R_Be 3 ∈ zt := zt_in (i := 81) (by decide +kernel) rfl
def R_Bx : String := "BranchTrees$Box"
def F_Bx : u_T := fun k => match k with
  | 0 => ("BranchTrees$Box", "low", "[I", true)
  | _ => ("BranchTrees$Box", "high", "[I", true)
def t_Bx : Nat → FieldType := fun k => match k with
  | 0 => .array (.int)
  | _ => .array (.int)
theorem nm_Bx : ∀ a, a < 2 → ∀ b, b < 2 → a ≠ b → (F_Bx a).2.1 ≠ (F_Bx b).2.1 := by decide +kernel
theorem ty_Bx : ∀ k, k < 2 → parseFieldDescriptor (F_Bx k).2.2.1 = some (t_Bx k) := by decide +kernel
theorem iw_Bx : ∀ w ∈ u_ws R_Bx F_Bx 2, w ∈ zt := by
  intro w hw
  obtain ⟨k, hk, rfl⟩ := List.mem_map.mp hw
  have hk := List.mem_range.mp hk
  match k, hk with
  | 0, _ => exact zt_in (i := 202) (by decide +kernel) rfl
  | 1, _ => exact zt_in (i := 204) (by decide +kernel) rfl
  | k + 2, hk => omega
theorem in_Bx : Cond.instantiable R_Bx 2 ∈ zt := zt_in (i := 187) (by decide +kernel) rfl
def R_Nr : String := "BranchTrees$Narrower"
def F_Nr : u_T := fun k => match k with
  | 0 => ("BranchTrees$Narrower", "problem", "LBranchTrees$Problem;", true)
  | 1 => ("BranchTrees$Narrower", "best", "LBranchTrees$Best;", true)
  | _ => ("BranchTrees$Narrower", "changed", "Z", false)
def t_Nr : Nat → FieldType := fun k => match k with
  | 0 => .object "BranchTrees$Problem"
  | 1 => .object "BranchTrees$Best"
  | _ => .boolean
theorem nm_Nr : ∀ a, a < 3 → ∀ b, b < 3 → a ≠ b → (F_Nr a).2.1 ≠ (F_Nr b).2.1 := by decide +kernel
theorem ty_Nr : ∀ k, k < 3 → parseFieldDescriptor (F_Nr k).2.2.1 = some (t_Nr k) := by decide +kernel
theorem iw_Nr : ∀ w ∈ u_ws R_Nr F_Nr 3, w ∈ zt := by
  intro w hw
  obtain ⟨k, hk, rfl⟩ := List.mem_map.mp hw
  have hk := List.mem_range.mp hk
  match k, hk with
  | 0, _ => exact zt_in (i := 148) (by decide +kernel) rfl
  | 1, _ => exact zt_in (i := 150) (by decide +kernel) rfl
  | 2, _ => exact zt_in (i := 152) (by decide +kernel) rfl
  | k + 3, hk => omega
theorem in_Nr : Cond.instantiable R_Nr 3 ∈ zt := zt_in (i := 140) (by decide +kernel) rfl
def R_Nd : String := "BranchTrees$Node"
def F_Nd : u_T := fun k => match k with
  | 0 => ("BranchTrees$Node", "number", "I", true)
  | 1 => ("BranchTrees$Node", "box", "LBranchTrees$Box;", true)
  | 2 => ("BranchTrees$Node", "parent", "I", false)
  | 3 => ("BranchTrees$Node", "cutName", "I", false)
  | 4 => ("BranchTrees$Node", "cutSide", "I", false)
  | 5 => ("BranchTrees$Node", "cutValue", "I", false)
  | 6 => ("BranchTrees$Node", "depth", "I", false)
  | 7 => ("BranchTrees$Node", "state", "I", false)
  | 8 => ("BranchTrees$Node", "lower", "I", false)
  | 9 => ("BranchTrees$Node", "closedBy", "I", false)
  | 10 => ("BranchTrees$Node", "partedBy", "I", false)
  | _ => ("BranchTrees$Node", "children", "I", false)
def t_Nd : Nat → FieldType := fun k => match k with
  | 0 => .int
  | 1 => .object "BranchTrees$Box"
  | 2 => .int
  | 3 => .int
  | 4 => .int
  | 5 => .int
  | 6 => .int
  | 7 => .int
  | 8 => .int
  | 9 => .int
  | 10 => .int
  | _ => .int
theorem nm_Nd : ∀ a, a < 12 → ∀ b, b < 12 → a ≠ b → (F_Nd a).2.1 ≠ (F_Nd b).2.1 := by decide +kernel
theorem ty_Nd : ∀ k, k < 12 → parseFieldDescriptor (F_Nd k).2.2.1 = some (t_Nd k) := by decide +kernel
theorem iw_Nd : ∀ w ∈ u_ws R_Nd F_Nd 12, w ∈ zt := by
  intro w hw
  obtain ⟨k, hk, rfl⟩ := List.mem_map.mp hw
  have hk := List.mem_range.mp hk
  match k, hk with
  | 0, _ => exact zt_in (i := 411) (by decide +kernel) rfl
  | 1, _ => exact zt_in (i := 413) (by decide +kernel) rfl
  | 2, _ => exact zt_in (i := 415) (by decide +kernel) rfl
  | 3, _ => exact zt_in (i := 417) (by decide +kernel) rfl
  | 4, _ => exact zt_in (i := 419) (by decide +kernel) rfl
  | 5, _ => exact zt_in (i := 421) (by decide +kernel) rfl
  | 6, _ => exact zt_in (i := 423) (by decide +kernel) rfl
  | 7, _ => exact zt_in (i := 425) (by decide +kernel) rfl
  | 8, _ => exact zt_in (i := 427) (by decide +kernel) rfl
  | 9, _ => exact zt_in (i := 429) (by decide +kernel) rfl
  | 10, _ => exact zt_in (i := 431) (by decide +kernel) rfl
  | 11, _ => exact zt_in (i := 433) (by decide +kernel) rfl
  | k + 12, hk => omega
theorem in_Nd : Cond.instantiable R_Nd 12 ∈ zt := zt_in (i := 371) (by decide +kernel) rfl
def R_Pr : String := "BranchTrees$Prices"
def F_Pr : u_T := fun k => match k with
  | 0 => ("BranchTrees$Prices", "added", "[J", true)
  | _ => ("BranchTrees$Prices", "times", "[I", true)
def t_Pr : Nat → FieldType := fun k => match k with
  | 0 => .array (.long)
  | _ => .array (.int)
theorem nm_Pr : ∀ a, a < 2 → ∀ b, b < 2 → a ≠ b → (F_Pr a).2.1 ≠ (F_Pr b).2.1 := by decide +kernel
theorem ty_Pr : ∀ k, k < 2 → parseFieldDescriptor (F_Pr k).2.2.1 = some (t_Pr k) := by decide +kernel
theorem iw_Pr : ∀ w ∈ u_ws R_Pr F_Pr 2, w ∈ zt := by
  intro w hw
  obtain ⟨k, hk, rfl⟩ := List.mem_map.mp hw
  have hk := List.mem_range.mp hk
  match k, hk with
  | 0, _ => exact zt_in (i := 109) (by decide +kernel) rfl
  | 1, _ => exact zt_in (i := 111) (by decide +kernel) rfl
  | k + 2, hk => omega
theorem in_Pr : Cond.instantiable R_Pr 2 ∈ zt := zt_in (i := 102) (by decide +kernel) rfl
def R_Pb : String := "BranchTrees$Problem"
def F_Pb : u_T := fun k => match k with
  | 0 => ("BranchTrees$Problem", "lows", "[I", true)
  | 1 => ("BranchTrees$Problem", "highs", "[I", true)
  | 2 => ("BranchTrees$Problem", "costs", "[I", true)
  | 3 => ("BranchTrees$Problem", "senses", "[I", true)
  | 4 => ("BranchTrees$Problem", "rights", "[I", true)
  | 5 => ("BranchTrees$Problem", "isOrder", "[Z", true)
  | 6 => ("BranchTrees$Problem", "factors", "[[I", true)
  | 7 => ("BranchTrees$Problem", "nameCount", "I", false)
  | 8 => ("BranchTrees$Problem", "rowCount", "I", false)
  | _ => ("BranchTrees$Problem", "orderCount", "I", false)
def t_Pb : Nat → FieldType := fun k => match k with
  | 0 => .array (.int)
  | 1 => .array (.int)
  | 2 => .array (.int)
  | 3 => .array (.int)
  | 4 => .array (.int)
  | 5 => .array (.boolean)
  | 6 => .array (.array (.int))
  | 7 => .int
  | 8 => .int
  | _ => .int
theorem nm_Pb : ∀ a, a < 10 → ∀ b, b < 10 → a ≠ b → (F_Pb a).2.1 ≠ (F_Pb b).2.1 := by decide +kernel
theorem ty_Pb : ∀ k, k < 10 → parseFieldDescriptor (F_Pb k).2.2.1 = some (t_Pb k) := by decide +kernel
theorem iw_Pb : ∀ w ∈ u_ws R_Pb F_Pb 10, w ∈ zt := by
  intro w hw
  obtain ⟨k, hk, rfl⟩ := List.mem_map.mp hw
  have hk := List.mem_range.mp hk
  match k, hk with
  | 0, _ => exact zt_in (i := 57) (by decide +kernel) rfl
  | 1, _ => exact zt_in (i := 59) (by decide +kernel) rfl
  | 2, _ => exact zt_in (i := 61) (by decide +kernel) rfl
  | 3, _ => exact zt_in (i := 63) (by decide +kernel) rfl
  | 4, _ => exact zt_in (i := 65) (by decide +kernel) rfl
  | 5, _ => exact zt_in (i := 67) (by decide +kernel) rfl
  | 6, _ => exact zt_in (i := 69) (by decide +kernel) rfl
  | 7, _ => exact zt_in (i := 71) (by decide +kernel) rfl
  | 8, _ => exact zt_in (i := 73) (by decide +kernel) rfl
  | 9, _ => exact zt_in (i := 75) (by decide +kernel) rfl
  | k + 10, hk => omega
theorem in_Pb : Cond.instantiable R_Pb 10 ∈ zt := zt_in (i := 22) (by decide +kernel) rfl
def R_Pf : String := "BranchTrees$Proof"
def F_Pf : u_T := fun k => match k with
  | 0 => ("BranchTrees$Proof", "problem", "LBranchTrees$Problem;", true)
  | 1 => ("BranchTrees$Proof", "tree", "LBranchTrees$Tree;", true)
  | 2 => ("BranchTrees$Proof", "narrower", "LBranchTrees$Narrower;", true)
  | _ => ("BranchTrees$Proof", "box", "LBranchTrees$Box;", true)
def t_Pf : Nat → FieldType := fun k => match k with
  | 0 => .object "BranchTrees$Problem"
  | 1 => .object "BranchTrees$Tree"
  | 2 => .object "BranchTrees$Narrower"
  | _ => .object "BranchTrees$Box"
theorem nm_Pf : ∀ a, a < 4 → ∀ b, b < 4 → a ≠ b → (F_Pf a).2.1 ≠ (F_Pf b).2.1 := by decide +kernel
theorem ty_Pf : ∀ k, k < 4 → parseFieldDescriptor (F_Pf k).2.2.1 = some (t_Pf k) := by decide +kernel
theorem iw_Pf : ∀ w ∈ u_ws R_Pf F_Pf 4, w ∈ zt := by
  intro w hw
  obtain ⟨k, hk, rfl⟩ := List.mem_map.mp hw
  have hk := List.mem_range.mp hk
  match k, hk with
  | 0, _ => exact zt_in (i := 211) (by decide +kernel) rfl
  | 1, _ => exact zt_in (i := 213) (by decide +kernel) rfl
  | 2, _ => exact zt_in (i := 215) (by decide +kernel) rfl
  | 3, _ => exact zt_in (i := 217) (by decide +kernel) rfl
  | k + 4, hk => omega
theorem in_Pf : Cond.instantiable R_Pf 4 ∈ zt := zt_in (i := 181) (by decide +kernel) rfl
def R_Se : String := "BranchTrees$Search"
def F_Se : u_T := fun k => match k with
  | 0 => ("BranchTrees$Search", "problem", "LBranchTrees$Problem;", true)
  | 1 => ("BranchTrees$Search", "best", "LBranchTrees$Best;", true)
  | 2 => ("BranchTrees$Search", "prices", "LBranchTrees$Prices;", true)
  | 3 => ("BranchTrees$Search", "tree", "LBranchTrees$Tree;", true)
  | 4 => ("BranchTrees$Search", "narrower", "LBranchTrees$Narrower;", true)
  | _ => ("BranchTrees$Search", "rules", "[I", true)
def t_Se : Nat → FieldType := fun k => match k with
  | 0 => .object "BranchTrees$Problem"
  | 1 => .object "BranchTrees$Best"
  | 2 => .object "BranchTrees$Prices"
  | 3 => .object "BranchTrees$Tree"
  | 4 => .object "BranchTrees$Narrower"
  | _ => .array (.int)
theorem nm_Se : ∀ a, a < 6 → ∀ b, b < 6 → a ≠ b → (F_Se a).2.1 ≠ (F_Se b).2.1 := by decide +kernel
theorem ty_Se : ∀ k, k < 6 → parseFieldDescriptor (F_Se k).2.2.1 = some (t_Se k) := by decide +kernel
theorem iw_Se : ∀ w ∈ u_ws R_Se F_Se 6, w ∈ zt := by
  intro w hw
  obtain ⟨k, hk, rfl⟩ := List.mem_map.mp hw
  have hk := List.mem_range.mp hk
  match k, hk with
  | 0, _ => exact zt_in (i := 167) (by decide +kernel) rfl
  | 1, _ => exact zt_in (i := 169) (by decide +kernel) rfl
  | 2, _ => exact zt_in (i := 171) (by decide +kernel) rfl
  | 3, _ => exact zt_in (i := 173) (by decide +kernel) rfl
  | 4, _ => exact zt_in (i := 175) (by decide +kernel) rfl
  | 5, _ => exact zt_in (i := 177) (by decide +kernel) rfl
  | k + 6, hk => omega
theorem in_Se : Cond.instantiable R_Se 6 ∈ zt := zt_in (i := 156) (by decide +kernel) rfl
def R_Tr : String := "BranchTrees$Tree"
def F_Tr : u_T := fun k => match k with
  | 0 => ("BranchTrees$Tree", "nodes", "[LBranchTrees$Node;", true)
  | 1 => ("BranchTrees$Tree", "size", "I", false)
  | _ => ("BranchTrees$Tree", "worked", "I", false)
def t_Tr : Nat → FieldType := fun k => match k with
  | 0 => .array (.object "BranchTrees$Node")
  | 1 => .int
  | _ => .int
theorem nm_Tr : ∀ a, a < 3 → ∀ b, b < 3 → a ≠ b → (F_Tr a).2.1 ≠ (F_Tr b).2.1 := by decide +kernel
theorem ty_Tr : ∀ k, k < 3 → parseFieldDescriptor (F_Tr k).2.2.1 = some (t_Tr k) := by decide +kernel
theorem iw_Tr : ∀ w ∈ u_ws R_Tr F_Tr 3, w ∈ zt := by
  intro w hw
  obtain ⟨k, hk, rfl⟩ := List.mem_map.mp hw
  have hk := List.mem_range.mp hk
  match k, hk with
  | 0, _ => exact zt_in (i := 130) (by decide +kernel) rfl
  | 1, _ => exact zt_in (i := 132) (by decide +kernel) rfl
  | 2, _ => exact zt_in (i := 134) (by decide +kernel) rfl
  | k + 3, hk => omega
theorem in_Tr : Cond.instantiable R_Tr 3 ∈ zt := zt_in (i := 116) (by decide +kernel) rfl
def R_Mo : String := "BranchTreesModel"
def F_Mo : u_T := fun k => match k with
  | 0 => ("BranchTreesModel", "thrown", "I", false)
  | 1 => ("BranchTreesModel", "names", "I", false)
  | 2 => ("BranchTreesModel", "spanLow", "[I", true)
  | 3 => ("BranchTreesModel", "spanHigh", "[I", true)
  | 4 => ("BranchTreesModel", "price", "[J", true)
  | 5 => ("BranchTreesModel", "priceTimes", "[I", true)
  | 6 => ("BranchTreesModel", "costOf", "[I", true)
  | 7 => ("BranchTreesModel", "startOf", "[I", true)
  | 8 => ("BranchTreesModel", "rows", "I", false)
  | 9 => ("BranchTreesModel", "factors", "[I", true)
  | 10 => ("BranchTreesModel", "senses", "[I", true)
  | 11 => ("BranchTreesModel", "rights", "[I", true)
  | 12 => ("BranchTreesModel", "isOrder", "[Z", true)
  | 13 => ("BranchTreesModel", "rules", "[I", true)
  | 14 => ("BranchTreesModel", "hasBest", "Z", false)
  | 15 => ("BranchTreesModel", "bestCost", "I", false)
  | 16 => ("BranchTreesModel", "bestValues", "[I", true)
  | 17 => ("BranchTreesModel", "nodes", "I", false)
  | 18 => ("BranchTreesModel", "worked", "I", false)
  | 19 => ("BranchTreesModel", "parent", "[I", true)
  | 20 => ("BranchTreesModel", "cutName", "[I", true)
  | 21 => ("BranchTreesModel", "cutSide", "[I", true)
  | 22 => ("BranchTreesModel", "cutAt", "[I", true)
  | 23 => ("BranchTreesModel", "state", "[I", true)
  | 24 => ("BranchTreesModel", "closing", "[I", true)
  | 25 => ("BranchTreesModel", "partedBy", "[I", true)
  | 26 => ("BranchTreesModel", "lows", "[I", true)
  | 27 => ("BranchTreesModel", "highs", "[I", true)
  | 28 => ("BranchTreesModel", "low", "[I", true)
  | 29 => ("BranchTreesModel", "high", "[I", true)
  | _ => ("BranchTreesModel", "changed", "Z", false)
def t_Mo : Nat → FieldType := fun k => match k with
  | 0 => .int
  | 1 => .int
  | 2 => .array (.int)
  | 3 => .array (.int)
  | 4 => .array (.long)
  | 5 => .array (.int)
  | 6 => .array (.int)
  | 7 => .array (.int)
  | 8 => .int
  | 9 => .array (.int)
  | 10 => .array (.int)
  | 11 => .array (.int)
  | 12 => .array (.boolean)
  | 13 => .array (.int)
  | 14 => .boolean
  | 15 => .int
  | 16 => .array (.int)
  | 17 => .int
  | 18 => .int
  | 19 => .array (.int)
  | 20 => .array (.int)
  | 21 => .array (.int)
  | 22 => .array (.int)
  | 23 => .array (.int)
  | 24 => .array (.int)
  | 25 => .array (.int)
  | 26 => .array (.int)
  | 27 => .array (.int)
  | 28 => .array (.int)
  | 29 => .array (.int)
  | _ => .boolean
theorem nm_Mo : ∀ a, a < 31 → ∀ b, b < 31 → a ≠ b → (F_Mo a).2.1 ≠ (F_Mo b).2.1 := by decide +kernel
theorem ty_Mo : ∀ k, k < 31 → parseFieldDescriptor (F_Mo k).2.2.1 = some (t_Mo k) := by decide +kernel
theorem iw_Mo : ∀ w ∈ u_ws R_Mo F_Mo 31, w ∈ zt := by
  intro w hw
  obtain ⟨k, hk, rfl⟩ := List.mem_map.mp hw
  have hk := List.mem_range.mp hk
  match k, hk with
  | 0, _ => exact zt_in (i := 631) (by decide +kernel) rfl
  | 1, _ => exact zt_in (i := 633) (by decide +kernel) rfl
  | 2, _ => exact zt_in (i := 635) (by decide +kernel) rfl
  | 3, _ => exact zt_in (i := 637) (by decide +kernel) rfl
  | 4, _ => exact zt_in (i := 639) (by decide +kernel) rfl
  | 5, _ => exact zt_in (i := 641) (by decide +kernel) rfl
  | 6, _ => exact zt_in (i := 643) (by decide +kernel) rfl
  | 7, _ => exact zt_in (i := 645) (by decide +kernel) rfl
  | 8, _ => exact zt_in (i := 647) (by decide +kernel) rfl
  | 9, _ => exact zt_in (i := 649) (by decide +kernel) rfl
  | 10, _ => exact zt_in (i := 651) (by decide +kernel) rfl
  | 11, _ => exact zt_in (i := 653) (by decide +kernel) rfl
  | 12, _ => exact zt_in (i := 655) (by decide +kernel) rfl
  | 13, _ => exact zt_in (i := 657) (by decide +kernel) rfl
  | 14, _ => exact zt_in (i := 659) (by decide +kernel) rfl
  | 15, _ => exact zt_in (i := 661) (by decide +kernel) rfl
  | 16, _ => exact zt_in (i := 663) (by decide +kernel) rfl
  | 17, _ => exact zt_in (i := 665) (by decide +kernel) rfl
  | 18, _ => exact zt_in (i := 667) (by decide +kernel) rfl
  | 19, _ => exact zt_in (i := 669) (by decide +kernel) rfl
  | 20, _ => exact zt_in (i := 671) (by decide +kernel) rfl
  | 21, _ => exact zt_in (i := 673) (by decide +kernel) rfl
  | 22, _ => exact zt_in (i := 675) (by decide +kernel) rfl
  | 23, _ => exact zt_in (i := 677) (by decide +kernel) rfl
  | 24, _ => exact zt_in (i := 679) (by decide +kernel) rfl
  | 25, _ => exact zt_in (i := 681) (by decide +kernel) rfl
  | 26, _ => exact zt_in (i := 683) (by decide +kernel) rfl
  | 27, _ => exact zt_in (i := 685) (by decide +kernel) rfl
  | 28, _ => exact zt_in (i := 687) (by decide +kernel) rfl
  | 29, _ => exact zt_in (i := 689) (by decide +kernel) rfl
  | 30, _ => exact zt_in (i := 691) (by decide +kernel) rfl
  | k + 31, hk => omega
theorem in_Mo : Cond.instantiable R_Mo 31 ∈ zt := zt_in (i := 595) (by decide +kernel) rfl
abbrev zCl : List vw_C := [(R_BT, F_BT, 8), (R_Be, F_Be, 3), (R_Bx, F_Bx, 2), (R_Nr, F_Nr, 3), (R_Nd, F_Nd, 12), (R_Pr, F_Pr, 2), (R_Pb, F_Pb, 10), (R_Pf, F_Pf, 4), (R_Se, F_Se, 6), (R_Tr, F_Tr, 3), (R_Mo, F_Mo, 31)]
def R_La : String := "BranchTreesLaw"
def R_Ma : String := "java/lang/Math"
abbrev b_BT_init : ByteArray := prog_1_method_1_code
def y_BT_init : MethodName := ⟨"BranchTrees", "<init>", "()V"⟩
theorem cd_BT_init : Cond.code y_BT_init b_BT_init 2 none ∈ zt := zt_in (i := 17) (by decide +kernel) rfl
theorem im_BT_init : Cond.instanceMethod y_BT_init ∈ zt := zt_in (i := 16) (by decide +kernel) rfl
abbrev b_Pb_init : ByteArray := prog_7_method_1_code
def y_Pb_init : MethodName := ⟨"BranchTrees$Problem", "<init>", "()V"⟩
theorem cd_Pb_init : Cond.code y_Pb_init b_Pb_init 1 none ∈ zt := zt_in (i := 25) (by decide +kernel) rfl
theorem im_Pb_init : Cond.instanceMethod y_Pb_init ∈ zt := zt_in (i := 24) (by decide +kernel) rfl
abbrev b_Be_init : ByteArray := prog_2_method_1_code
def y_Be_init : MethodName := ⟨"BranchTrees$Best", "<init>", "()V"⟩
theorem cd_Be_init : Cond.code y_Be_init b_Be_init 1 none ∈ zt := zt_in (i := 84) (by decide +kernel) rfl
theorem im_Be_init : Cond.instanceMethod y_Be_init ∈ zt := zt_in (i := 83) (by decide +kernel) rfl
abbrev b_Pr_init : ByteArray := prog_6_method_1_code
def y_Pr_init : MethodName := ⟨"BranchTrees$Prices", "<init>", "()V"⟩
theorem cd_Pr_init : Cond.code y_Pr_init b_Pr_init 1 none ∈ zt := zt_in (i := 105) (by decide +kernel) rfl
theorem im_Pr_init : Cond.instanceMethod y_Pr_init ∈ zt := zt_in (i := 104) (by decide +kernel) rfl
abbrev b_Tr_init : ByteArray := prog_10_method_1_code
def y_Tr_init : MethodName := ⟨"BranchTrees$Tree", "<init>", "()V"⟩
theorem cd_Tr_init : Cond.code y_Tr_init b_Tr_init 1 none ∈ zt := zt_in (i := 119) (by decide +kernel) rfl
theorem im_Tr_init : Cond.instanceMethod y_Tr_init ∈ zt := zt_in (i := 118) (by decide +kernel) rfl
abbrev b_Nr_init : ByteArray := prog_4_method_1_code
def y_Nr_init : MethodName := ⟨"BranchTrees$Narrower", "<init>", "(LBranchTrees$Problem;LBranchTrees$Best;)V"⟩
theorem cd_Nr_init : Cond.code y_Nr_init b_Nr_init 3 none ∈ zt := zt_in (i := 143) (by decide +kernel) rfl
theorem im_Nr_init : Cond.instanceMethod y_Nr_init ∈ zt := zt_in (i := 142) (by decide +kernel) rfl
abbrev b_Se_init : ByteArray := prog_9_method_1_code
def y_Se_init : MethodName := ⟨"BranchTrees$Search", "<init>", "(LBranchTrees$Problem;LBranchTrees$Best;LBranchTrees$Prices;LBranchTrees$Tree;LBranchTrees$Narrower;[I)V"⟩
theorem cd_Se_init : Cond.code y_Se_init b_Se_init 7 none ∈ zt := zt_in (i := 159) (by decide +kernel) rfl
theorem im_Se_init : Cond.instanceMethod y_Se_init ∈ zt := zt_in (i := 158) (by decide +kernel) rfl
abbrev b_Pf_init : ByteArray := prog_8_method_1_code
def y_Pf_init : MethodName := ⟨"BranchTrees$Proof", "<init>", "(LBranchTrees$Problem;LBranchTrees$Tree;LBranchTrees$Narrower;)V"⟩
theorem cd_Pf_init : Cond.code y_Pf_init b_Pf_init 4 none ∈ zt := zt_in (i := 184) (by decide +kernel) rfl
theorem im_Pf_init : Cond.instanceMethod y_Pf_init ∈ zt := zt_in (i := 183) (by decide +kernel) rfl
abbrev b_Bx_init : ByteArray := prog_3_method_1_code
def y_Bx_init : MethodName := ⟨"BranchTrees$Box", "<init>", "()V"⟩
theorem cd_Bx_init : Cond.code y_Bx_init b_Bx_init 1 none ∈ zt := zt_in (i := 190) (by decide +kernel) rfl
theorem im_Bx_init : Cond.instanceMethod y_Bx_init ∈ zt := zt_in (i := 189) (by decide +kernel) rfl
abbrev b_BT_name : ByteArray := prog_1_method_2_code
def y_BT_name : MethodName := ⟨"BranchTrees", "name", "(II)I"⟩
theorem cd_BT_name : Cond.code y_BT_name b_BT_name 4 (some .int) ∈ zt := zt_in (i := 248) (by decide +kernel) rfl
theorem im_BT_name : Cond.instanceMethod y_BT_name ∈ zt := zt_in (i := 246) (by decide +kernel) rfl
theorem se_BT_name : Cond.selects "BranchTrees" y_BT_name y_BT_name ∈ zt := zt_in (i := 247) (by decide +kernel) rfl
abbrev b_BT_isWithin : ByteArray := prog_1_method_21_code
def y_BT_isWithin : MethodName := ⟨"BranchTrees", "isWithin", "(II)Z"⟩
theorem cd_BT_isWithin : Cond.code y_BT_isWithin b_BT_isWithin 2 (some .boolean) ∈ zt := zt_in (i := 251) (by decide +kernel) rfl
theorem st_BT_isWithin : Cond.static y_BT_isWithin ∈ zt := zt_in (i := 250) (by decide +kernel) rfl
abbrev b_Pb_addName : ByteArray := prog_7_method_4_code
def y_Pb_addName : MethodName := ⟨"BranchTrees$Problem", "addName", "(II)I"⟩
theorem cd_Pb_addName : Cond.code y_Pb_addName b_Pb_addName 3 (some .int) ∈ zt := zt_in (i := 255) (by decide +kernel) rfl
theorem im_Pb_addName : Cond.instanceMethod y_Pb_addName ∈ zt := zt_in (i := 253) (by decide +kernel) rfl
theorem se_Pb_addName : Cond.selects "BranchTrees$Problem" y_Pb_addName y_Pb_addName ∈ zt := zt_in (i := 254) (by decide +kernel) rfl
abbrev b_BT_forgetSearch : ByteArray := prog_1_method_20_code
def y_BT_forgetSearch : MethodName := ⟨"BranchTrees", "forgetSearch", "()V"⟩
theorem cd_BT_forgetSearch : Cond.code y_BT_forgetSearch b_BT_forgetSearch 1 none ∈ zt := zt_in (i := 259) (by decide +kernel) rfl
theorem im_BT_forgetSearch : Cond.instanceMethod y_BT_forgetSearch ∈ zt := zt_in (i := 258) (by decide +kernel) rfl
theorem se_BT_forgetSearch : Cond.selects "BranchTrees" y_BT_forgetSearch y_BT_forgetSearch ∈ zt := zt_sel (i := 0) (by decide +kernel) rfl
abbrev b_Tr_fell : ByteArray := prog_10_method_2_code
def y_Tr_fell : MethodName := ⟨"BranchTrees$Tree", "fell", "()V"⟩
theorem cd_Tr_fell : Cond.code y_Tr_fell b_Tr_fell 1 none ∈ zt := zt_in (i := 263) (by decide +kernel) rfl
theorem im_Tr_fell : Cond.instanceMethod y_Tr_fell ∈ zt := zt_in (i := 261) (by decide +kernel) rfl
theorem se_Tr_fell : Cond.selects "BranchTrees$Tree" y_Tr_fell y_Tr_fell ∈ zt := zt_in (i := 262) (by decide +kernel) rfl
abbrev b_Pr_forget : ByteArray := prog_6_method_4_code
def y_Pr_forget : MethodName := ⟨"BranchTrees$Prices", "forget", "()V"⟩
theorem cd_Pr_forget : Cond.code y_Pr_forget b_Pr_forget 2 none ∈ zt := zt_in (i := 267) (by decide +kernel) rfl
theorem im_Pr_forget : Cond.instanceMethod y_Pr_forget ∈ zt := zt_in (i := 265) (by decide +kernel) rfl
theorem se_Pr_forget : Cond.selects "BranchTrees$Prices" y_Pr_forget y_Pr_forget ∈ zt := zt_in (i := 266) (by decide +kernel) rfl
abbrev b_BT_row : ByteArray := prog_1_method_3_code
def y_BT_row : MethodName := ⟨"BranchTrees", "row", "(II)I"⟩
theorem cd_BT_row : Cond.code y_BT_row b_BT_row 4 (some .int) ∈ zt := zt_in (i := 271) (by decide +kernel) rfl
theorem im_BT_row : Cond.instanceMethod y_BT_row ∈ zt := zt_in (i := 269) (by decide +kernel) rfl
theorem se_BT_row : Cond.selects "BranchTrees" y_BT_row y_BT_row ∈ zt := zt_in (i := 270) (by decide +kernel) rfl
abbrev b_Pb_addRow : ByteArray := prog_7_method_5_code
def y_Pb_addRow : MethodName := ⟨"BranchTrees$Problem", "addRow", "(II)I"⟩
theorem cd_Pb_addRow : Cond.code y_Pb_addRow b_Pb_addRow 3 (some .int) ∈ zt := zt_in (i := 275) (by decide +kernel) rfl
theorem im_Pb_addRow : Cond.instanceMethod y_Pb_addRow ∈ zt := zt_in (i := 273) (by decide +kernel) rfl
theorem se_Pb_addRow : Cond.selects "BranchTrees$Problem" y_Pb_addRow y_Pb_addRow ∈ zt := zt_in (i := 274) (by decide +kernel) rfl
abbrev b_BT_factor : ByteArray := prog_1_method_4_code
def y_BT_factor : MethodName := ⟨"BranchTrees", "factor", "(III)I"⟩
theorem cd_BT_factor : Cond.code y_BT_factor b_BT_factor 5 (some .int) ∈ zt := zt_in (i := 279) (by decide +kernel) rfl
theorem im_BT_factor : Cond.instanceMethod y_BT_factor ∈ zt := zt_in (i := 277) (by decide +kernel) rfl
theorem se_BT_factor : Cond.selects "BranchTrees" y_BT_factor y_BT_factor ∈ zt := zt_in (i := 278) (by decide +kernel) rfl
abbrev b_Pb_hasRow : ByteArray := prog_7_method_3_code
def y_Pb_hasRow : MethodName := ⟨"BranchTrees$Problem", "hasRow", "(I)Z"⟩
theorem cd_Pb_hasRow : Cond.code y_Pb_hasRow b_Pb_hasRow 2 (some .boolean) ∈ zt := zt_in (i := 283) (by decide +kernel) rfl
theorem im_Pb_hasRow : Cond.instanceMethod y_Pb_hasRow ∈ zt := zt_in (i := 281) (by decide +kernel) rfl
theorem se_Pb_hasRow : Cond.selects "BranchTrees$Problem" y_Pb_hasRow y_Pb_hasRow ∈ zt := zt_in (i := 282) (by decide +kernel) rfl
abbrev b_Pb_hasName : ByteArray := prog_7_method_2_code
def y_Pb_hasName : MethodName := ⟨"BranchTrees$Problem", "hasName", "(I)Z"⟩
theorem cd_Pb_hasName : Cond.code y_Pb_hasName b_Pb_hasName 2 (some .boolean) ∈ zt := zt_in (i := 287) (by decide +kernel) rfl
theorem im_Pb_hasName : Cond.instanceMethod y_Pb_hasName ∈ zt := zt_in (i := 285) (by decide +kernel) rfl
theorem se_Pb_hasName : Cond.selects "BranchTrees$Problem" y_Pb_hasName y_Pb_hasName ∈ zt := zt_in (i := 286) (by decide +kernel) rfl
abbrev b_BT_cost : ByteArray := prog_1_method_5_code
def y_BT_cost : MethodName := ⟨"BranchTrees", "cost", "(II)I"⟩
theorem cd_BT_cost : Cond.code y_BT_cost b_BT_cost 4 (some .int) ∈ zt := zt_in (i := 291) (by decide +kernel) rfl
theorem im_BT_cost : Cond.instanceMethod y_BT_cost ∈ zt := zt_in (i := 289) (by decide +kernel) rfl
theorem se_BT_cost : Cond.selects "BranchTrees" y_BT_cost y_BT_cost ∈ zt := zt_in (i := 290) (by decide +kernel) rfl
abbrev b_BT_alike : ByteArray := prog_1_method_6_code
def y_BT_alike : MethodName := ⟨"BranchTrees", "alike", "(II)I"⟩
theorem cd_BT_alike : Cond.code y_BT_alike b_BT_alike 3 (some .int) ∈ zt := zt_in (i := 295) (by decide +kernel) rfl
theorem im_BT_alike : Cond.instanceMethod y_BT_alike ∈ zt := zt_in (i := 293) (by decide +kernel) rfl
theorem se_BT_alike : Cond.selects "BranchTrees" y_BT_alike y_BT_alike ∈ zt := zt_in (i := 294) (by decide +kernel) rfl
abbrev b_Pb_canSwap : ByteArray := prog_7_method_9_code
def y_Pb_canSwap : MethodName := ⟨"BranchTrees$Problem", "canSwap", "(II)Z"⟩
theorem cd_Pb_canSwap : Cond.code y_Pb_canSwap b_Pb_canSwap 4 (some .boolean) ∈ zt := zt_in (i := 299) (by decide +kernel) rfl
theorem im_Pb_canSwap : Cond.instanceMethod y_Pb_canSwap ∈ zt := zt_in (i := 297) (by decide +kernel) rfl
theorem se_Pb_canSwap : Cond.selects "BranchTrees$Problem" y_Pb_canSwap y_Pb_canSwap ∈ zt := zt_in (i := 298) (by decide +kernel) rfl
abbrev b_Pb_timesFound : ByteArray := prog_7_method_10_code
def y_Pb_timesFound : MethodName := ⟨"BranchTrees$Problem", "timesFound", "(III)I"⟩
theorem cd_Pb_timesFound : Cond.code y_Pb_timesFound b_Pb_timesFound 6 (some .int) ∈ zt := zt_in (i := 303) (by decide +kernel) rfl
theorem im_Pb_timesFound : Cond.instanceMethod y_Pb_timesFound ∈ zt := zt_in (i := 302) (by decide +kernel) rfl
theorem se_Pb_timesFound : Cond.selects "BranchTrees$Problem" y_Pb_timesFound y_Pb_timesFound ∈ zt := zt_sel (i := 1) (by decide +kernel) rfl
abbrev b_Pb_isSwapped : ByteArray := prog_7_method_11_code
def y_Pb_isSwapped : MethodName := ⟨"BranchTrees$Problem", "isSwapped", "(IIII)Z"⟩
theorem cd_Pb_isSwapped : Cond.code y_Pb_isSwapped b_Pb_isSwapped 7 (some .boolean) ∈ zt := zt_in (i := 307) (by decide +kernel) rfl
theorem im_Pb_isSwapped : Cond.instanceMethod y_Pb_isSwapped ∈ zt := zt_in (i := 306) (by decide +kernel) rfl
theorem se_Pb_isSwapped : Cond.selects "BranchTrees$Problem" y_Pb_isSwapped y_Pb_isSwapped ∈ zt := zt_sel (i := 2) (by decide +kernel) rfl
abbrev b_BT_order : ByteArray := prog_1_method_7_code
def y_BT_order : MethodName := ⟨"BranchTrees", "order", "()I"⟩
theorem cd_BT_order : Cond.code y_BT_order b_BT_order 2 (some .int) ∈ zt := zt_in (i := 311) (by decide +kernel) rfl
theorem im_BT_order : Cond.instanceMethod y_BT_order ∈ zt := zt_in (i := 309) (by decide +kernel) rfl
theorem se_BT_order : Cond.selects "BranchTrees" y_BT_order y_BT_order ∈ zt := zt_in (i := 310) (by decide +kernel) rfl
abbrev b_Pb_addOrders : ByteArray := prog_7_method_6_code
def y_Pb_addOrders : MethodName := ⟨"BranchTrees$Problem", "addOrders", "()I"⟩
theorem cd_Pb_addOrders : Cond.code y_Pb_addOrders b_Pb_addOrders 3 (some .int) ∈ zt := zt_in (i := 315) (by decide +kernel) rfl
theorem im_Pb_addOrders : Cond.instanceMethod y_Pb_addOrders ∈ zt := zt_in (i := 313) (by decide +kernel) rfl
theorem se_Pb_addOrders : Cond.selects "BranchTrees$Problem" y_Pb_addOrders y_Pb_addOrders ∈ zt := zt_in (i := 314) (by decide +kernel) rfl
abbrev b_Pb_nextAlike : ByteArray := prog_7_method_7_code
def y_Pb_nextAlike : MethodName := ⟨"BranchTrees$Problem", "nextAlike", "(I)I"⟩
theorem cd_Pb_nextAlike : Cond.code y_Pb_nextAlike b_Pb_nextAlike 3 (some .int) ∈ zt := zt_in (i := 319) (by decide +kernel) rfl
theorem im_Pb_nextAlike : Cond.instanceMethod y_Pb_nextAlike ∈ zt := zt_in (i := 318) (by decide +kernel) rfl
theorem se_Pb_nextAlike : Cond.selects "BranchTrees$Problem" y_Pb_nextAlike y_Pb_nextAlike ∈ zt := zt_sel (i := 3) (by decide +kernel) rfl
abbrev b_Pb_addOrder : ByteArray := prog_7_method_8_code
def y_Pb_addOrder : MethodName := ⟨"BranchTrees$Problem", "addOrder", "(II)V"⟩
theorem cd_Pb_addOrder : Cond.code y_Pb_addOrder b_Pb_addOrder 4 none ∈ zt := zt_in (i := 324) (by decide +kernel) rfl
theorem im_Pb_addOrder : Cond.instanceMethod y_Pb_addOrder ∈ zt := zt_in (i := 323) (by decide +kernel) rfl
theorem se_Pb_addOrder : Cond.selects "BranchTrees$Problem" y_Pb_addOrder y_Pb_addOrder ∈ zt := zt_sel (i := 4) (by decide +kernel) rfl
abbrev b_BT_rule : ByteArray := prog_1_method_8_code
def y_BT_rule : MethodName := ⟨"BranchTrees", "rule", "(II)I"⟩
theorem cd_BT_rule : Cond.code y_BT_rule b_BT_rule 4 (some .int) ∈ zt := zt_in (i := 329) (by decide +kernel) rfl
theorem im_BT_rule : Cond.instanceMethod y_BT_rule ∈ zt := zt_in (i := 327) (by decide +kernel) rfl
theorem se_BT_rule : Cond.selects "BranchTrees" y_BT_rule y_BT_rule ∈ zt := zt_in (i := 328) (by decide +kernel) rfl
abbrev b_BT_start : ByteArray := prog_1_method_9_code
def y_BT_start : MethodName := ⟨"BranchTrees", "start", "(II)I"⟩
theorem cd_BT_start : Cond.code y_BT_start b_BT_start 4 (some .int) ∈ zt := zt_in (i := 333) (by decide +kernel) rfl
theorem im_BT_start : Cond.instanceMethod y_BT_start ∈ zt := zt_in (i := 331) (by decide +kernel) rfl
theorem se_BT_start : Cond.selects "BranchTrees" y_BT_start y_BT_start ∈ zt := zt_in (i := 332) (by decide +kernel) rfl
abbrev b_BT_offer : ByteArray := prog_1_method_10_code
def y_BT_offer : MethodName := ⟨"BranchTrees", "offer", "()I"⟩
theorem cd_BT_offer : Cond.code y_BT_offer b_BT_offer 2 (some .int) ∈ zt := zt_in (i := 337) (by decide +kernel) rfl
theorem im_BT_offer : Cond.instanceMethod y_BT_offer ∈ zt := zt_in (i := 335) (by decide +kernel) rfl
theorem se_BT_offer : Cond.selects "BranchTrees" y_BT_offer y_BT_offer ∈ zt := zt_in (i := 336) (by decide +kernel) rfl
abbrev b_Pb_isPlan : ByteArray := prog_7_method_12_code
def y_Pb_isPlan : MethodName := ⟨"BranchTrees$Problem", "isPlan", "([I)Z"⟩
theorem cd_Pb_isPlan : Cond.code y_Pb_isPlan b_Pb_isPlan 4 (some .boolean) ∈ zt := zt_in (i := 341) (by decide +kernel) rfl
theorem im_Pb_isPlan : Cond.instanceMethod y_Pb_isPlan ∈ zt := zt_in (i := 339) (by decide +kernel) rfl
theorem se_Pb_isPlan : Cond.selects "BranchTrees$Problem" y_Pb_isPlan y_Pb_isPlan ∈ zt := zt_in (i := 340) (by decide +kernel) rfl
abbrev b_Pb_sumOf : ByteArray := prog_7_method_14_code
def y_Pb_sumOf : MethodName := ⟨"BranchTrees$Problem", "sumOf", "([I[I)I"⟩
theorem cd_Pb_sumOf : Cond.code y_Pb_sumOf b_Pb_sumOf 5 (some .int) ∈ zt := zt_in (i := 345) (by decide +kernel) rfl
theorem im_Pb_sumOf : Cond.instanceMethod y_Pb_sumOf ∈ zt := zt_in (i := 343) (by decide +kernel) rfl
theorem se_Pb_sumOf : Cond.selects "BranchTrees$Problem" y_Pb_sumOf y_Pb_sumOf ∈ zt := zt_in (i := 344) (by decide +kernel) rfl
abbrev b_Pb_binds : ByteArray := prog_7_method_13_code
def y_Pb_binds : MethodName := ⟨"BranchTrees$Problem", "binds", "(II)Z"⟩
theorem cd_Pb_binds : Cond.code y_Pb_binds b_Pb_binds 3 (some .boolean) ∈ zt := zt_in (i := 349) (by decide +kernel) rfl
theorem im_Pb_binds : Cond.instanceMethod y_Pb_binds ∈ zt := zt_in (i := 347) (by decide +kernel) rfl
theorem se_Pb_binds : Cond.selects "BranchTrees$Problem" y_Pb_binds y_Pb_binds ∈ zt := zt_in (i := 348) (by decide +kernel) rfl
abbrev b_Be_isNotAbove : ByteArray := prog_2_method_2_code
def y_Be_isNotAbove : MethodName := ⟨"BranchTrees$Best", "isNotAbove", "(I)Z"⟩
theorem cd_Be_isNotAbove : Cond.code y_Be_isNotAbove b_Be_isNotAbove 2 (some .boolean) ∈ zt := zt_in (i := 354) (by decide +kernel) rfl
theorem im_Be_isNotAbove : Cond.instanceMethod y_Be_isNotAbove ∈ zt := zt_in (i := 352) (by decide +kernel) rfl
theorem se_Be_isNotAbove : Cond.selects "BranchTrees$Best" y_Be_isNotAbove y_Be_isNotAbove ∈ zt := zt_in (i := 353) (by decide +kernel) rfl
abbrev b_Be_take : ByteArray := prog_2_method_3_code
def y_Be_take : MethodName := ⟨"BranchTrees$Best", "take", "([II)V"⟩
theorem cd_Be_take : Cond.code y_Be_take b_Be_take 4 none ∈ zt := zt_in (i := 358) (by decide +kernel) rfl
theorem im_Be_take : Cond.instanceMethod y_Be_take ∈ zt := zt_in (i := 356) (by decide +kernel) rfl
theorem se_Be_take : Cond.selects "BranchTrees$Best" y_Be_take y_Be_take ∈ zt := zt_in (i := 357) (by decide +kernel) rfl
abbrev b_BT_run : ByteArray := prog_1_method_11_code
def y_BT_run : MethodName := ⟨"BranchTrees", "run", "(I)I"⟩
theorem cd_BT_run : Cond.code y_BT_run b_BT_run 4 (some .int) ∈ zt := zt_in (i := 362) (by decide +kernel) rfl
theorem im_BT_run : Cond.instanceMethod y_BT_run ∈ zt := zt_in (i := 360) (by decide +kernel) rfl
theorem se_BT_run : Cond.selects "BranchTrees" y_BT_run y_BT_run ∈ zt := zt_in (i := 361) (by decide +kernel) rfl
abbrev b_Se_plantRoot : ByteArray := prog_9_method_2_code
def y_Se_plantRoot : MethodName := ⟨"BranchTrees$Search", "plantRoot", "()V"⟩
theorem cd_Se_plantRoot : Cond.code y_Se_plantRoot b_Se_plantRoot 2 none ∈ zt := zt_in (i := 366) (by decide +kernel) rfl
theorem im_Se_plantRoot : Cond.instanceMethod y_Se_plantRoot ∈ zt := zt_in (i := 364) (by decide +kernel) rfl
theorem se_Se_plantRoot : Cond.selects "BranchTrees$Search" y_Se_plantRoot y_Se_plantRoot ∈ zt := zt_in (i := 365) (by decide +kernel) rfl
abbrev b_Tr_grow : ByteArray := prog_10_method_5_code
def y_Tr_grow : MethodName := ⟨"BranchTrees$Tree", "grow", "()LBranchTrees$Node;"⟩
theorem cd_Tr_grow : Cond.code y_Tr_grow b_Tr_grow 1 (some (.object "BranchTrees$Node")) ∈ zt := zt_in (i := 370) (by decide +kernel) rfl
theorem im_Tr_grow : Cond.instanceMethod y_Tr_grow ∈ zt := zt_in (i := 368) (by decide +kernel) rfl
theorem se_Tr_grow : Cond.selects "BranchTrees$Tree" y_Tr_grow y_Tr_grow ∈ zt := zt_in (i := 369) (by decide +kernel) rfl
abbrev b_Nd_init : ByteArray := prog_5_method_1_code
def y_Nd_init : MethodName := ⟨"BranchTrees$Node", "<init>", "(I)V"⟩
theorem cd_Nd_init : Cond.code y_Nd_init b_Nd_init 2 none ∈ zt := zt_in (i := 374) (by decide +kernel) rfl
theorem im_Nd_init : Cond.instanceMethod y_Nd_init ∈ zt := zt_in (i := 373) (by decide +kernel) rfl
abbrev b_Nd_becomeRoot : ByteArray := prog_5_method_2_code
def y_Nd_becomeRoot : MethodName := ⟨"BranchTrees$Node", "becomeRoot", "(LBranchTrees$Problem;)V"⟩
theorem cd_Nd_becomeRoot : Cond.code y_Nd_becomeRoot b_Nd_becomeRoot 2 none ∈ zt := zt_in (i := 439) (by decide +kernel) rfl
theorem im_Nd_becomeRoot : Cond.instanceMethod y_Nd_becomeRoot ∈ zt := zt_in (i := 437) (by decide +kernel) rfl
theorem se_Nd_becomeRoot : Cond.selects "BranchTrees$Node" y_Nd_becomeRoot y_Nd_becomeRoot ∈ zt := zt_in (i := 438) (by decide +kernel) rfl
abbrev b_Bx_copyFrom : ByteArray := prog_3_method_2_code
def y_Bx_copyFrom : MethodName := ⟨"BranchTrees$Box", "copyFrom", "([I[I)V"⟩
theorem cd_Bx_copyFrom : Cond.code y_Bx_copyFrom b_Bx_copyFrom 4 none ∈ zt := zt_in (i := 443) (by decide +kernel) rfl
theorem im_Bx_copyFrom : Cond.instanceMethod y_Bx_copyFrom ∈ zt := zt_in (i := 441) (by decide +kernel) rfl
theorem se_Bx_copyFrom : Cond.selects "BranchTrees$Box" y_Bx_copyFrom y_Bx_copyFrom ∈ zt := zt_in (i := 442) (by decide +kernel) rfl
abbrev b_Nr_narrow : ByteArray := prog_4_method_2_code
def y_Nr_narrow : MethodName := ⟨"BranchTrees$Narrower", "narrow", "(LBranchTrees$Box;)I"⟩
theorem cd_Nr_narrow : Cond.code y_Nr_narrow b_Nr_narrow 4 (some .int) ∈ zt := zt_in (i := 447) (by decide +kernel) rfl
theorem im_Nr_narrow : Cond.instanceMethod y_Nr_narrow ∈ zt := zt_in (i := 445) (by decide +kernel) rfl
theorem se_Nr_narrow : Cond.selects "BranchTrees$Narrower" y_Nr_narrow y_Nr_narrow ∈ zt := zt_in (i := 446) (by decide +kernel) rfl
abbrev b_Nr_goRound : ByteArray := prog_4_method_3_code
def y_Nr_goRound : MethodName := ⟨"BranchTrees$Narrower", "goRound", "(LBranchTrees$Box;)I"⟩
theorem cd_Nr_goRound : Cond.code y_Nr_goRound b_Nr_goRound 4 (some .int) ∈ zt := zt_in (i := 451) (by decide +kernel) rfl
theorem im_Nr_goRound : Cond.instanceMethod y_Nr_goRound ∈ zt := zt_in (i := 450) (by decide +kernel) rfl
theorem se_Nr_goRound : Cond.selects "BranchTrees$Narrower" y_Nr_goRound y_Nr_goRound ∈ zt := zt_sel (i := 5) (by decide +kernel) rfl
abbrev b_Nr_closes : ByteArray := prog_4_method_4_code
def y_Nr_closes : MethodName := ⟨"BranchTrees$Narrower", "closes", "(LBranchTrees$Box;[III)Z"⟩
theorem cd_Nr_closes : Cond.code y_Nr_closes b_Nr_closes 8 (some .boolean) ∈ zt := zt_in (i := 456) (by decide +kernel) rfl
theorem im_Nr_closes : Cond.instanceMethod y_Nr_closes ∈ zt := zt_in (i := 455) (by decide +kernel) rfl
theorem se_Nr_closes : Cond.selects "BranchTrees$Narrower" y_Nr_closes y_Nr_closes ∈ zt := zt_sel (i := 6) (by decide +kernel) rfl
abbrev b_Bx_leastOf : ByteArray := prog_3_method_4_code
def y_Bx_leastOf : MethodName := ⟨"BranchTrees$Box", "leastOf", "([III)I"⟩
theorem cd_Bx_leastOf : Cond.code y_Bx_leastOf b_Bx_leastOf 7 (some .int) ∈ zt := zt_in (i := 460) (by decide +kernel) rfl
theorem im_Bx_leastOf : Cond.instanceMethod y_Bx_leastOf ∈ zt := zt_in (i := 458) (by decide +kernel) rfl
theorem se_Bx_leastOf : Cond.selects "BranchTrees$Box" y_Bx_leastOf y_Bx_leastOf ∈ zt := zt_in (i := 459) (by decide +kernel) rfl
abbrev b_Nd_settle : ByteArray := prog_5_method_4_code
def y_Nd_settle : MethodName := ⟨"BranchTrees$Node", "settle", "(ILBranchTrees$Problem;)V"⟩
theorem cd_Nd_settle : Cond.code y_Nd_settle b_Nd_settle 3 none ∈ zt := zt_in (i := 464) (by decide +kernel) rfl
theorem im_Nd_settle : Cond.instanceMethod y_Nd_settle ∈ zt := zt_in (i := 462) (by decide +kernel) rfl
theorem se_Nd_settle : Cond.selects "BranchTrees$Node" y_Nd_settle y_Nd_settle ∈ zt := zt_in (i := 463) (by decide +kernel) rfl
abbrev b_Tr_pick : ByteArray := prog_10_method_6_code
def y_Tr_pick : MethodName := ⟨"BranchTrees$Tree", "pick", "(I)LBranchTrees$Node;"⟩
theorem cd_Tr_pick : Cond.code y_Tr_pick b_Tr_pick 5 (some (.object "BranchTrees$Node")) ∈ zt := zt_in (i := 469) (by decide +kernel) rfl
theorem im_Tr_pick : Cond.instanceMethod y_Tr_pick ∈ zt := zt_in (i := 467) (by decide +kernel) rfl
theorem se_Tr_pick : Cond.selects "BranchTrees$Tree" y_Tr_pick y_Tr_pick ∈ zt := zt_in (i := 468) (by decide +kernel) rfl
abbrev b_Tr_isBetter : ByteArray := prog_10_method_7_code
def y_Tr_isBetter : MethodName := ⟨"BranchTrees$Tree", "isBetter", "(LBranchTrees$Node;LBranchTrees$Node;I)Z"⟩
theorem cd_Tr_isBetter : Cond.code y_Tr_isBetter b_Tr_isBetter 3 (some .boolean) ∈ zt := zt_in (i := 472) (by decide +kernel) rfl
theorem st_Tr_isBetter : Cond.static y_Tr_isBetter ∈ zt := zt_in (i := 471) (by decide +kernel) rfl
abbrev b_Se_workAt : ByteArray := prog_9_method_3_code
def y_Se_workAt : MethodName := ⟨"BranchTrees$Search", "workAt", "(LBranchTrees$Node;)Z"⟩
theorem cd_Se_workAt : Cond.code y_Se_workAt b_Se_workAt 3 (some .boolean) ∈ zt := zt_in (i := 476) (by decide +kernel) rfl
theorem im_Se_workAt : Cond.instanceMethod y_Se_workAt ∈ zt := zt_in (i := 474) (by decide +kernel) rfl
theorem se_Se_workAt : Cond.selects "BranchTrees$Search" y_Se_workAt y_Se_workAt ∈ zt := zt_in (i := 475) (by decide +kernel) rfl
abbrev b_Se_choose : ByteArray := prog_9_method_4_code
def y_Se_choose : MethodName := ⟨"BranchTrees$Search", "choose", "(LBranchTrees$Box;)I"⟩
theorem cd_Se_choose : Cond.code y_Se_choose b_Se_choose 6 (some .int) ∈ zt := zt_in (i := 481) (by decide +kernel) rfl
theorem im_Se_choose : Cond.instanceMethod y_Se_choose ∈ zt := zt_in (i := 480) (by decide +kernel) rfl
theorem se_Se_choose : Cond.selects "BranchTrees$Search" y_Se_choose y_Se_choose ∈ zt := zt_sel (i := 7) (by decide +kernel) rfl
abbrev b_Se_meritOf : ByteArray := prog_9_method_5_code
def y_Se_meritOf : MethodName := ⟨"BranchTrees$Search", "meritOf", "(LBranchTrees$Box;I)I"⟩
theorem cd_Se_meritOf : Cond.code y_Se_meritOf b_Se_meritOf 3 (some .int) ∈ zt := zt_in (i := 485) (by decide +kernel) rfl
theorem im_Se_meritOf : Cond.instanceMethod y_Se_meritOf ∈ zt := zt_in (i := 484) (by decide +kernel) rfl
theorem se_Se_meritOf : Cond.selects "BranchTrees$Search" y_Se_meritOf y_Se_meritOf ∈ zt := zt_sel (i := 8) (by decide +kernel) rfl
abbrev b_Pr_priceOf : ByteArray := prog_6_method_3_code
def y_Pr_priceOf : MethodName := ⟨"BranchTrees$Prices", "priceOf", "(I)I"⟩
theorem cd_Pr_priceOf : Cond.code y_Pr_priceOf b_Pr_priceOf 2 (some .int) ∈ zt := zt_in (i := 489) (by decide +kernel) rfl
theorem im_Pr_priceOf : Cond.instanceMethod y_Pr_priceOf ∈ zt := zt_in (i := 487) (by decide +kernel) rfl
theorem se_Pr_priceOf : Cond.selects "BranchTrees$Prices" y_Pr_priceOf y_Pr_priceOf ∈ zt := zt_in (i := 488) (by decide +kernel) rfl
abbrev b_Ma_abs : ByteArray := prog_13_method_59_code
def y_Ma_abs : MethodName := ⟨"java/lang/Math", "abs", "(I)I"⟩
theorem cd_Ma_abs : Cond.code y_Ma_abs b_Ma_abs 1 (some .int) ∈ zt := zt_in (i := 493) (by decide +kernel) rfl
theorem st_Ma_abs : Cond.static y_Ma_abs ∈ zt := zt_in (i := 492) (by decide +kernel) rfl
abbrev b_Tr_hasRoomForTwo : ByteArray := prog_10_method_4_code
def y_Tr_hasRoomForTwo : MethodName := ⟨"BranchTrees$Tree", "hasRoomForTwo", "()Z"⟩
theorem cd_Tr_hasRoomForTwo : Cond.code y_Tr_hasRoomForTwo b_Tr_hasRoomForTwo 1 (some .boolean) ∈ zt := zt_in (i := 498) (by decide +kernel) rfl
theorem im_Tr_hasRoomForTwo : Cond.instanceMethod y_Tr_hasRoomForTwo ∈ zt := zt_in (i := 496) (by decide +kernel) rfl
theorem se_Tr_hasRoomForTwo : Cond.selects "BranchTrees$Tree" y_Tr_hasRoomForTwo y_Tr_hasRoomForTwo ∈ zt := zt_in (i := 497) (by decide +kernel) rfl
abbrev b_Se_part : ByteArray := prog_9_method_6_code
def y_Se_part : MethodName := ⟨"BranchTrees$Search", "part", "(LBranchTrees$Node;I)V"⟩
theorem cd_Se_part : Cond.code y_Se_part b_Se_part 8 none ∈ zt := zt_in (i := 502) (by decide +kernel) rfl
theorem im_Se_part : Cond.instanceMethod y_Se_part ∈ zt := zt_in (i := 501) (by decide +kernel) rfl
theorem se_Se_part : Cond.selects "BranchTrees$Search" y_Se_part y_Se_part ∈ zt := zt_sel (i := 9) (by decide +kernel) rfl
abbrev b_Ma_floorDiv : ByteArray := prog_13_method_47_code
def y_Ma_floorDiv : MethodName := ⟨"java/lang/Math", "floorDiv", "(II)I"⟩
theorem cd_Ma_floorDiv : Cond.code y_Ma_floorDiv b_Ma_floorDiv 3 (some .int) ∈ zt := zt_in (i := 505) (by decide +kernel) rfl
theorem st_Ma_floorDiv : Cond.static y_Ma_floorDiv ∈ zt := zt_in (i := 504) (by decide +kernel) rfl
abbrev b_Nd_becomeChild : ByteArray := prog_5_method_3_code
def y_Nd_becomeChild : MethodName := ⟨"BranchTrees$Node", "becomeChild", "(LBranchTrees$Node;III)V"⟩
theorem cd_Nd_becomeChild : Cond.code y_Nd_becomeChild b_Nd_becomeChild 5 none ∈ zt := zt_in (i := 509) (by decide +kernel) rfl
theorem im_Nd_becomeChild : Cond.instanceMethod y_Nd_becomeChild ∈ zt := zt_in (i := 507) (by decide +kernel) rfl
theorem se_Nd_becomeChild : Cond.selects "BranchTrees$Node" y_Nd_becomeChild y_Nd_becomeChild ∈ zt := zt_in (i := 508) (by decide +kernel) rfl
abbrev b_Bx_cut : ByteArray := prog_3_method_3_code
def y_Bx_cut : MethodName := ⟨"BranchTrees$Box", "cut", "(III)V"⟩
theorem cd_Bx_cut : Cond.code y_Bx_cut b_Bx_cut 4 none ∈ zt := zt_in (i := 513) (by decide +kernel) rfl
theorem im_Bx_cut : Cond.instanceMethod y_Bx_cut ∈ zt := zt_in (i := 511) (by decide +kernel) rfl
theorem se_Bx_cut : Cond.selects "BranchTrees$Box" y_Bx_cut y_Bx_cut ∈ zt := zt_in (i := 512) (by decide +kernel) rfl
abbrev b_Ma_min : ByteArray := prog_13_method_69_code
def y_Ma_min : MethodName := ⟨"java/lang/Math", "min", "(II)I"⟩
theorem cd_Ma_min : Cond.code y_Ma_min b_Ma_min 2 (some .int) ∈ zt := zt_in (i := 516) (by decide +kernel) rfl
theorem st_Ma_min : Cond.static y_Ma_min ∈ zt := zt_in (i := 515) (by decide +kernel) rfl
abbrev b_Ma_max : ByteArray := prog_13_method_65_code
def y_Ma_max : MethodName := ⟨"java/lang/Math", "max", "(II)I"⟩
theorem cd_Ma_max : Cond.code y_Ma_max b_Ma_max 2 (some .int) ∈ zt := zt_in (i := 519) (by decide +kernel) rfl
theorem st_Ma_max : Cond.static y_Ma_max ∈ zt := zt_in (i := 518) (by decide +kernel) rfl
abbrev b_Pr_learn : ByteArray := prog_6_method_2_code
def y_Pr_learn : MethodName := ⟨"BranchTrees$Prices", "learn", "(II)V"⟩
theorem cd_Pr_learn : Cond.code y_Pr_learn b_Pr_learn 3 none ∈ zt := zt_in (i := 523) (by decide +kernel) rfl
theorem im_Pr_learn : Cond.instanceMethod y_Pr_learn ∈ zt := zt_in (i := 521) (by decide +kernel) rfl
theorem se_Pr_learn : Cond.selects "BranchTrees$Prices" y_Pr_learn y_Pr_learn ∈ zt := zt_in (i := 522) (by decide +kernel) rfl
abbrev b_Tr_countOf : ByteArray := prog_10_method_8_code
def y_Tr_countOf : MethodName := ⟨"BranchTrees$Tree", "countOf", "(I)I"⟩
theorem cd_Tr_countOf : Cond.code y_Tr_countOf b_Tr_countOf 5 (some .int) ∈ zt := zt_in (i := 527) (by decide +kernel) rfl
theorem im_Tr_countOf : Cond.instanceMethod y_Tr_countOf ∈ zt := zt_in (i := 525) (by decide +kernel) rfl
theorem se_Tr_countOf : Cond.selects "BranchTrees$Tree" y_Tr_countOf y_Tr_countOf ∈ zt := zt_in (i := 526) (by decide +kernel) rfl
abbrev b_BT_restart : ByteArray := prog_1_method_12_code
def y_BT_restart : MethodName := ⟨"BranchTrees", "restart", "()I"⟩
theorem cd_BT_restart : Cond.code y_BT_restart b_BT_restart 2 (some .int) ∈ zt := zt_in (i := 531) (by decide +kernel) rfl
theorem im_BT_restart : Cond.instanceMethod y_BT_restart ∈ zt := zt_in (i := 529) (by decide +kernel) rfl
theorem se_BT_restart : Cond.selects "BranchTrees" y_BT_restart y_BT_restart ∈ zt := zt_in (i := 530) (by decide +kernel) rfl
abbrev b_BT_best : ByteArray := prog_1_method_13_code
def y_BT_best : MethodName := ⟨"BranchTrees", "best", "(I)I"⟩
theorem cd_BT_best : Cond.code y_BT_best b_BT_best 2 (some .int) ∈ zt := zt_in (i := 535) (by decide +kernel) rfl
theorem im_BT_best : Cond.instanceMethod y_BT_best ∈ zt := zt_in (i := 533) (by decide +kernel) rfl
theorem se_BT_best : Cond.selects "BranchTrees" y_BT_best y_BT_best ∈ zt := zt_in (i := 534) (by decide +kernel) rfl
abbrev b_BT_bound : ByteArray := prog_1_method_14_code
def y_BT_bound : MethodName := ⟨"BranchTrees", "bound", "()I"⟩
theorem cd_BT_bound : Cond.code y_BT_bound b_BT_bound 1 (some .int) ∈ zt := zt_in (i := 540) (by decide +kernel) rfl
theorem im_BT_bound : Cond.instanceMethod y_BT_bound ∈ zt := zt_in (i := 538) (by decide +kernel) rfl
theorem se_BT_bound : Cond.selects "BranchTrees" y_BT_bound y_BT_bound ∈ zt := zt_in (i := 539) (by decide +kernel) rfl
abbrev b_Tr_leastOpen : ByteArray := prog_10_method_9_code
def y_Tr_leastOpen : MethodName := ⟨"BranchTrees$Tree", "leastOpen", "(I)I"⟩
theorem cd_Tr_leastOpen : Cond.code y_Tr_leastOpen b_Tr_leastOpen 5 (some .int) ∈ zt := zt_in (i := 545) (by decide +kernel) rfl
theorem im_Tr_leastOpen : Cond.instanceMethod y_Tr_leastOpen ∈ zt := zt_in (i := 543) (by decide +kernel) rfl
theorem se_Tr_leastOpen : Cond.selects "BranchTrees$Tree" y_Tr_leastOpen y_Tr_leastOpen ∈ zt := zt_in (i := 544) (by decide +kernel) rfl
abbrev b_BT_node : ByteArray := prog_1_method_15_code
def y_BT_node : MethodName := ⟨"BranchTrees", "node", "(II)I"⟩
theorem cd_BT_node : Cond.code y_BT_node b_BT_node 4 (some .int) ∈ zt := zt_in (i := 550) (by decide +kernel) rfl
theorem im_BT_node : Cond.instanceMethod y_BT_node ∈ zt := zt_in (i := 548) (by decide +kernel) rfl
theorem se_BT_node : Cond.selects "BranchTrees" y_BT_node y_BT_node ∈ zt := zt_in (i := 549) (by decide +kernel) rfl
abbrev b_Tr_at : ByteArray := prog_10_method_3_code
def y_Tr_at : MethodName := ⟨"BranchTrees$Tree", "at", "(I)LBranchTrees$Node;"⟩
theorem cd_Tr_at : Cond.code y_Tr_at b_Tr_at 2 (some (.object "BranchTrees$Node")) ∈ zt := zt_in (i := 554) (by decide +kernel) rfl
theorem im_Tr_at : Cond.instanceMethod y_Tr_at ∈ zt := zt_in (i := 552) (by decide +kernel) rfl
theorem se_Tr_at : Cond.selects "BranchTrees$Tree" y_Tr_at y_Tr_at ∈ zt := zt_in (i := 553) (by decide +kernel) rfl
abbrev b_BT_boundOf : ByteArray := prog_1_method_16_code
def y_BT_boundOf : MethodName := ⟨"BranchTrees", "boundOf", "(III)I"⟩
theorem cd_BT_boundOf : Cond.code y_BT_boundOf b_BT_boundOf 5 (some .int) ∈ zt := zt_in (i := 558) (by decide +kernel) rfl
theorem im_BT_boundOf : Cond.instanceMethod y_BT_boundOf ∈ zt := zt_in (i := 556) (by decide +kernel) rfl
theorem se_BT_boundOf : Cond.selects "BranchTrees" y_BT_boundOf y_BT_boundOf ∈ zt := zt_in (i := 557) (by decide +kernel) rfl
abbrev b_BT_price : ByteArray := prog_1_method_17_code
def y_BT_price : MethodName := ⟨"BranchTrees", "price", "(I)I"⟩
theorem cd_BT_price : Cond.code y_BT_price b_BT_price 2 (some .int) ∈ zt := zt_in (i := 562) (by decide +kernel) rfl
theorem im_BT_price : Cond.instanceMethod y_BT_price ∈ zt := zt_in (i := 560) (by decide +kernel) rfl
theorem se_BT_price : Cond.selects "BranchTrees" y_BT_price y_BT_price ∈ zt := zt_in (i := 561) (by decide +kernel) rfl
abbrev b_BT_check : ByteArray := prog_1_method_18_code
def y_BT_check : MethodName := ⟨"BranchTrees", "check", "()I"⟩
theorem cd_BT_check : Cond.code y_BT_check b_BT_check 1 (some .int) ∈ zt := zt_in (i := 567) (by decide +kernel) rfl
theorem im_BT_check : Cond.instanceMethod y_BT_check ∈ zt := zt_in (i := 565) (by decide +kernel) rfl
theorem se_BT_check : Cond.selects "BranchTrees" y_BT_check y_BT_check ∈ zt := zt_in (i := 566) (by decide +kernel) rfl
abbrev b_Pf_holds : ByteArray := prog_8_method_2_code
def y_Pf_holds : MethodName := ⟨"BranchTrees$Proof", "holds", "()Z"⟩
theorem cd_Pf_holds : Cond.code y_Pf_holds b_Pf_holds 3 (some .boolean) ∈ zt := zt_in (i := 571) (by decide +kernel) rfl
theorem im_Pf_holds : Cond.instanceMethod y_Pf_holds ∈ zt := zt_in (i := 569) (by decide +kernel) rfl
theorem se_Pf_holds : Cond.selects "BranchTrees$Proof" y_Pf_holds y_Pf_holds ∈ zt := zt_in (i := 570) (by decide +kernel) rfl
abbrev b_Pf_countChildren : ByteArray := prog_8_method_3_code
def y_Pf_countChildren : MethodName := ⟨"BranchTrees$Proof", "countChildren", "()V"⟩
theorem cd_Pf_countChildren : Cond.code y_Pf_countChildren b_Pf_countChildren 4 none ∈ zt := zt_in (i := 576) (by decide +kernel) rfl
theorem im_Pf_countChildren : Cond.instanceMethod y_Pf_countChildren ∈ zt := zt_in (i := 575) (by decide +kernel) rfl
theorem se_Pf_countChildren : Cond.selects "BranchTrees$Proof" y_Pf_countChildren y_Pf_countChildren ∈ zt := zt_sel (i := 10) (by decide +kernel) rfl
abbrev b_Pf_isProven : ByteArray := prog_8_method_4_code
def y_Pf_isProven : MethodName := ⟨"BranchTrees$Proof", "isProven", "(LBranchTrees$Node;)Z"⟩
theorem cd_Pf_isProven : Cond.code y_Pf_isProven b_Pf_isProven 2 (some .boolean) ∈ zt := zt_in (i := 581) (by decide +kernel) rfl
theorem im_Pf_isProven : Cond.instanceMethod y_Pf_isProven ∈ zt := zt_in (i := 580) (by decide +kernel) rfl
theorem se_Pf_isProven : Cond.selects "BranchTrees$Proof" y_Pf_isProven y_Pf_isProven ∈ zt := zt_sel (i := 11) (by decide +kernel) rfl
abbrev b_Pf_cutBox : ByteArray := prog_8_method_5_code
def y_Pf_cutBox : MethodName := ⟨"BranchTrees$Proof", "cutBox", "(LBranchTrees$Node;)V"⟩
theorem cd_Pf_cutBox : Cond.code y_Pf_cutBox b_Pf_cutBox 4 none ∈ zt := zt_in (i := 585) (by decide +kernel) rfl
theorem im_Pf_cutBox : Cond.instanceMethod y_Pf_cutBox ∈ zt := zt_in (i := 584) (by decide +kernel) rfl
theorem se_Pf_cutBox : Cond.selects "BranchTrees$Proof" y_Pf_cutBox y_Pf_cutBox ∈ zt := zt_sel (i := 12) (by decide +kernel) rfl
abbrev b_BT_count : ByteArray := prog_1_method_19_code
def y_BT_count : MethodName := ⟨"BranchTrees", "count", "(I)I"⟩
theorem cd_BT_count : Cond.code y_BT_count b_BT_count 2 (some .int) ∈ zt := zt_in (i := 593) (by decide +kernel) rfl
theorem im_BT_count : Cond.instanceMethod y_BT_count ∈ zt := zt_in (i := 591) (by decide +kernel) rfl
theorem se_BT_count : Cond.selects "BranchTrees" y_BT_count y_BT_count ∈ zt := zt_in (i := 592) (by decide +kernel) rfl
abbrev b_Mo_init : ByteArray := prog_12_method_3_code
def y_Mo_init : MethodName := ⟨"BranchTreesModel", "<init>", "()V"⟩
theorem cd_Mo_init : Cond.code y_Mo_init b_Mo_init 1 none ∈ zt := zt_in (i := 598) (by decide +kernel) rfl
theorem im_Mo_init : Cond.instanceMethod y_Mo_init ∈ zt := zt_in (i := 597) (by decide +kernel) rfl
abbrev b_Mo_name : ByteArray := prog_12_method_6_code
def y_Mo_name : MethodName := ⟨"BranchTreesModel", "name", "(II)I"⟩
theorem cd_Mo_name : Cond.code y_Mo_name b_Mo_name 3 (some .int) ∈ zt := zt_in (i := 697) (by decide +kernel) rfl
theorem im_Mo_name : Cond.instanceMethod y_Mo_name ∈ zt := zt_in (i := 695) (by decide +kernel) rfl
theorem se_Mo_name : Cond.selects "BranchTreesModel" y_Mo_name y_Mo_name ∈ zt := zt_in (i := 696) (by decide +kernel) rfl
abbrev b_Mo_in : ByteArray := prog_12_method_2_code
def y_Mo_in : MethodName := ⟨"BranchTreesModel", "in", "(JJJ)Z"⟩
theorem cd_Mo_in : Cond.code y_Mo_in b_Mo_in 6 (some .boolean) ∈ zt := zt_in (i := 702) (by decide +kernel) rfl
theorem st_Mo_in : Cond.static y_Mo_in ∈ zt := zt_in (i := 701) (by decide +kernel) rfl
abbrev b_Mo_problemTold : ByteArray := prog_12_method_5_code
def y_Mo_problemTold : MethodName := ⟨"BranchTreesModel", "problemTold", "()V"⟩
theorem cd_Mo_problemTold : Cond.code y_Mo_problemTold b_Mo_problemTold 2 none ∈ zt := zt_in (i := 706) (by decide +kernel) rfl
theorem im_Mo_problemTold : Cond.instanceMethod y_Mo_problemTold ∈ zt := zt_in (i := 705) (by decide +kernel) rfl
theorem se_Mo_problemTold : Cond.selects "BranchTreesModel" y_Mo_problemTold y_Mo_problemTold ∈ zt := zt_sel (i := 13) (by decide +kernel) rfl
abbrev b_Mo_row : ByteArray := prog_12_method_7_code
def y_Mo_row : MethodName := ⟨"BranchTreesModel", "row", "(II)I"⟩
theorem cd_Mo_row : Cond.code y_Mo_row b_Mo_row 3 (some .int) ∈ zt := zt_in (i := 710) (by decide +kernel) rfl
theorem im_Mo_row : Cond.instanceMethod y_Mo_row ∈ zt := zt_in (i := 708) (by decide +kernel) rfl
theorem se_Mo_row : Cond.selects "BranchTreesModel" y_Mo_row y_Mo_row ∈ zt := zt_in (i := 709) (by decide +kernel) rfl
abbrev b_Mo_factor : ByteArray := prog_12_method_8_code
def y_Mo_factor : MethodName := ⟨"BranchTreesModel", "factor", "(III)I"⟩
theorem cd_Mo_factor : Cond.code y_Mo_factor b_Mo_factor 5 (some .int) ∈ zt := zt_in (i := 717) (by decide +kernel) rfl
theorem im_Mo_factor : Cond.instanceMethod y_Mo_factor ∈ zt := zt_in (i := 715) (by decide +kernel) rfl
theorem se_Mo_factor : Cond.selects "BranchTreesModel" y_Mo_factor y_Mo_factor ∈ zt := zt_in (i := 716) (by decide +kernel) rfl
abbrev b_Mo_noName : ByteArray := prog_12_method_4_code
def y_Mo_noName : MethodName := ⟨"BranchTreesModel", "noName", "(I)Z"⟩
theorem cd_Mo_noName : Cond.code y_Mo_noName b_Mo_noName 2 (some .boolean) ∈ zt := zt_in (i := 721) (by decide +kernel) rfl
theorem im_Mo_noName : Cond.instanceMethod y_Mo_noName ∈ zt := zt_in (i := 720) (by decide +kernel) rfl
theorem se_Mo_noName : Cond.selects "BranchTreesModel" y_Mo_noName y_Mo_noName ∈ zt := zt_sel (i := 14) (by decide +kernel) rfl
abbrev b_Mo_cost : ByteArray := prog_12_method_9_code
def y_Mo_cost : MethodName := ⟨"BranchTreesModel", "cost", "(II)I"⟩
theorem cd_Mo_cost : Cond.code y_Mo_cost b_Mo_cost 4 (some .int) ∈ zt := zt_in (i := 727) (by decide +kernel) rfl
theorem im_Mo_cost : Cond.instanceMethod y_Mo_cost ∈ zt := zt_in (i := 725) (by decide +kernel) rfl
theorem se_Mo_cost : Cond.selects "BranchTreesModel" y_Mo_cost y_Mo_cost ∈ zt := zt_in (i := 726) (by decide +kernel) rfl
abbrev b_Mo_alike : ByteArray := prog_12_method_12_code
def y_Mo_alike : MethodName := ⟨"BranchTreesModel", "alike", "(II)I"⟩
theorem cd_Mo_alike : Cond.code y_Mo_alike b_Mo_alike 3 (some .int) ∈ zt := zt_in (i := 731) (by decide +kernel) rfl
theorem im_Mo_alike : Cond.instanceMethod y_Mo_alike ∈ zt := zt_in (i := 729) (by decide +kernel) rfl
theorem se_Mo_alike : Cond.selects "BranchTreesModel" y_Mo_alike y_Mo_alike ∈ zt := zt_in (i := 730) (by decide +kernel) rfl
abbrev b_Mo_areAlike : ByteArray := prog_12_method_11_code
def y_Mo_areAlike : MethodName := ⟨"BranchTreesModel", "areAlike", "(II)Z"⟩
theorem cd_Mo_areAlike : Cond.code y_Mo_areAlike b_Mo_areAlike 7 (some .boolean) ∈ zt := zt_in (i := 735) (by decide +kernel) rfl
theorem im_Mo_areAlike : Cond.instanceMethod y_Mo_areAlike ∈ zt := zt_in (i := 734) (by decide +kernel) rfl
theorem se_Mo_areAlike : Cond.selects "BranchTreesModel" y_Mo_areAlike y_Mo_areAlike ∈ zt := zt_sel (i := 15) (by decide +kernel) rfl
abbrev b_Mo_isOther : ByteArray := prog_12_method_10_code
def y_Mo_isOther : MethodName := ⟨"BranchTreesModel", "isOther", "(IIII)Z"⟩
theorem cd_Mo_isOther : Cond.code y_Mo_isOther b_Mo_isOther 8 (some .boolean) ∈ zt := zt_in (i := 739) (by decide +kernel) rfl
theorem im_Mo_isOther : Cond.instanceMethod y_Mo_isOther ∈ zt := zt_in (i := 738) (by decide +kernel) rfl
theorem se_Mo_isOther : Cond.selects "BranchTreesModel" y_Mo_isOther y_Mo_isOther ∈ zt := zt_sel (i := 16) (by decide +kernel) rfl
abbrev b_Mo_order : ByteArray := prog_12_method_13_code
def y_Mo_order : MethodName := ⟨"BranchTreesModel", "order", "()I"⟩
theorem cd_Mo_order : Cond.code y_Mo_order b_Mo_order 4 (some .int) ∈ zt := zt_in (i := 743) (by decide +kernel) rfl
theorem im_Mo_order : Cond.instanceMethod y_Mo_order ∈ zt := zt_in (i := 741) (by decide +kernel) rfl
theorem se_Mo_order : Cond.selects "BranchTreesModel" y_Mo_order y_Mo_order ∈ zt := zt_in (i := 742) (by decide +kernel) rfl
abbrev b_Mo_rule : ByteArray := prog_12_method_14_code
def y_Mo_rule : MethodName := ⟨"BranchTreesModel", "rule", "(II)I"⟩
theorem cd_Mo_rule : Cond.code y_Mo_rule b_Mo_rule 4 (some .int) ∈ zt := zt_in (i := 747) (by decide +kernel) rfl
theorem im_Mo_rule : Cond.instanceMethod y_Mo_rule ∈ zt := zt_in (i := 745) (by decide +kernel) rfl
theorem se_Mo_rule : Cond.selects "BranchTreesModel" y_Mo_rule y_Mo_rule ∈ zt := zt_in (i := 746) (by decide +kernel) rfl
abbrev b_Mo_start : ByteArray := prog_12_method_15_code
def y_Mo_start : MethodName := ⟨"BranchTreesModel", "start", "(II)I"⟩
theorem cd_Mo_start : Cond.code y_Mo_start b_Mo_start 4 (some .int) ∈ zt := zt_in (i := 752) (by decide +kernel) rfl
theorem im_Mo_start : Cond.instanceMethod y_Mo_start ∈ zt := zt_in (i := 750) (by decide +kernel) rfl
theorem se_Mo_start : Cond.selects "BranchTreesModel" y_Mo_start y_Mo_start ∈ zt := zt_in (i := 751) (by decide +kernel) rfl
abbrev b_Mo_offer : ByteArray := prog_12_method_16_code
def y_Mo_offer : MethodName := ⟨"BranchTreesModel", "offer", "()I"⟩
theorem cd_Mo_offer : Cond.code y_Mo_offer b_Mo_offer 5 (some .int) ∈ zt := zt_in (i := 756) (by decide +kernel) rfl
theorem im_Mo_offer : Cond.instanceMethod y_Mo_offer ∈ zt := zt_in (i := 754) (by decide +kernel) rfl
theorem se_Mo_offer : Cond.selects "BranchTreesModel" y_Mo_offer y_Mo_offer ∈ zt := zt_in (i := 755) (by decide +kernel) rfl
abbrev b_Mo_run : ByteArray := prog_12_method_30_code
def y_Mo_run : MethodName := ⟨"BranchTreesModel", "run", "(I)I"⟩
theorem cd_Mo_run : Cond.code y_Mo_run b_Mo_run 4 (some .int) ∈ zt := zt_in (i := 760) (by decide +kernel) rfl
theorem im_Mo_run : Cond.instanceMethod y_Mo_run ∈ zt := zt_in (i := 758) (by decide +kernel) rfl
theorem se_Mo_run : Cond.selects "BranchTreesModel" y_Mo_run y_Mo_run ∈ zt := zt_in (i := 759) (by decide +kernel) rfl
abbrev b_Mo_newNode : ByteArray := prog_12_method_24_code
def y_Mo_newNode : MethodName := ⟨"BranchTreesModel", "newNode", "(IIII)I"⟩
theorem cd_Mo_newNode : Cond.code y_Mo_newNode b_Mo_newNode 7 (some .int) ∈ zt := zt_in (i := 765) (by decide +kernel) rfl
theorem im_Mo_newNode : Cond.instanceMethod y_Mo_newNode ∈ zt := zt_in (i := 764) (by decide +kernel) rfl
theorem se_Mo_newNode : Cond.selects "BranchTreesModel" y_Mo_newNode y_Mo_newNode ∈ zt := zt_sel (i := 17) (by decide +kernel) rfl
abbrev b_Mo_takeBounds : ByteArray := prog_12_method_21_code
def y_Mo_takeBounds : MethodName := ⟨"BranchTreesModel", "takeBounds", "(I)V"⟩
theorem cd_Mo_takeBounds : Cond.code y_Mo_takeBounds b_Mo_takeBounds 3 none ∈ zt := zt_in (i := 769) (by decide +kernel) rfl
theorem im_Mo_takeBounds : Cond.instanceMethod y_Mo_takeBounds ∈ zt := zt_in (i := 768) (by decide +kernel) rfl
theorem se_Mo_takeBounds : Cond.selects "BranchTreesModel" y_Mo_takeBounds y_Mo_takeBounds ∈ zt := zt_sel (i := 18) (by decide +kernel) rfl
abbrev b_Mo_cut : ByteArray := prog_12_method_22_code
def y_Mo_cut : MethodName := ⟨"BranchTreesModel", "cut", "(III)V"⟩
theorem cd_Mo_cut : Cond.code y_Mo_cut b_Mo_cut 4 none ∈ zt := zt_in (i := 773) (by decide +kernel) rfl
theorem im_Mo_cut : Cond.instanceMethod y_Mo_cut ∈ zt := zt_in (i := 772) (by decide +kernel) rfl
theorem se_Mo_cut : Cond.selects "BranchTreesModel" y_Mo_cut y_Mo_cut ∈ zt := zt_sel (i := 19) (by decide +kernel) rfl
abbrev b_Mo_narrow : ByteArray := prog_12_method_20_code
def y_Mo_narrow : MethodName := ⟨"BranchTreesModel", "narrow", "()I"⟩
theorem cd_Mo_narrow : Cond.code y_Mo_narrow b_Mo_narrow 2 (some .int) ∈ zt := zt_in (i := 777) (by decide +kernel) rfl
theorem im_Mo_narrow : Cond.instanceMethod y_Mo_narrow ∈ zt := zt_in (i := 776) (by decide +kernel) rfl
theorem se_Mo_narrow : Cond.selects "BranchTreesModel" y_Mo_narrow y_Mo_narrow ∈ zt := zt_sel (i := 20) (by decide +kernel) rfl
abbrev b_Mo_keeps : ByteArray := prog_12_method_19_code
def y_Mo_keeps : MethodName := ⟨"BranchTreesModel", "keeps", "(IZI)Z"⟩
theorem cd_Mo_keeps : Cond.code y_Mo_keeps b_Mo_keeps 9 (some .boolean) ∈ zt := zt_in (i := 781) (by decide +kernel) rfl
theorem im_Mo_keeps : Cond.instanceMethod y_Mo_keeps ∈ zt := zt_in (i := 780) (by decide +kernel) rfl
theorem se_Mo_keeps : Cond.selects "BranchTreesModel" y_Mo_keeps y_Mo_keeps ∈ zt := zt_sel (i := 21) (by decide +kernel) rfl
abbrev b_Mo_factorOf : ByteArray := prog_12_method_17_code
def y_Mo_factorOf : MethodName := ⟨"BranchTreesModel", "factorOf", "(IIZ)I"⟩
theorem cd_Mo_factorOf : Cond.code y_Mo_factorOf b_Mo_factorOf 5 (some .int) ∈ zt := zt_in (i := 785) (by decide +kernel) rfl
theorem im_Mo_factorOf : Cond.instanceMethod y_Mo_factorOf ∈ zt := zt_in (i := 784) (by decide +kernel) rfl
theorem se_Mo_factorOf : Cond.selects "BranchTreesModel" y_Mo_factorOf y_Mo_factorOf ∈ zt := zt_sel (i := 22) (by decide +kernel) rfl
abbrev b_Mo_leastOf : ByteArray := prog_12_method_18_code
def y_Mo_leastOf : MethodName := ⟨"BranchTreesModel", "leastOf", "(II)I"⟩
theorem cd_Mo_leastOf : Cond.code y_Mo_leastOf b_Mo_leastOf 5 (some .int) ∈ zt := zt_in (i := 789) (by decide +kernel) rfl
theorem im_Mo_leastOf : Cond.instanceMethod y_Mo_leastOf ∈ zt := zt_in (i := 788) (by decide +kernel) rfl
theorem se_Mo_leastOf : Cond.selects "BranchTreesModel" y_Mo_leastOf y_Mo_leastOf ∈ zt := zt_sel (i := 23) (by decide +kernel) rfl
abbrev b_Mo_pick : ByteArray := prog_12_method_26_code
def y_Mo_pick : MethodName := ⟨"BranchTreesModel", "pick", "()I"⟩
theorem cd_Mo_pick : Cond.code y_Mo_pick b_Mo_pick 4 (some .int) ∈ zt := zt_in (i := 793) (by decide +kernel) rfl
theorem im_Mo_pick : Cond.instanceMethod y_Mo_pick ∈ zt := zt_in (i := 792) (by decide +kernel) rfl
theorem se_Mo_pick : Cond.selects "BranchTreesModel" y_Mo_pick y_Mo_pick ∈ zt := zt_sel (i := 24) (by decide +kernel) rfl
abbrev b_Mo_lower : ByteArray := prog_12_method_23_code
def y_Mo_lower : MethodName := ⟨"BranchTreesModel", "lower", "(I)I"⟩
theorem cd_Mo_lower : Cond.code y_Mo_lower b_Mo_lower 4 (some .int) ∈ zt := zt_in (i := 797) (by decide +kernel) rfl
theorem im_Mo_lower : Cond.instanceMethod y_Mo_lower ∈ zt := zt_in (i := 796) (by decide +kernel) rfl
theorem se_Mo_lower : Cond.selects "BranchTreesModel" y_Mo_lower y_Mo_lower ∈ zt := zt_sel (i := 25) (by decide +kernel) rfl
abbrev b_Mo_work : ByteArray := prog_12_method_29_code
def y_Mo_work : MethodName := ⟨"BranchTreesModel", "work", "(I)Z"⟩
theorem cd_Mo_work : Cond.code y_Mo_work b_Mo_work 8 (some .boolean) ∈ zt := zt_in (i := 801) (by decide +kernel) rfl
theorem im_Mo_work : Cond.instanceMethod y_Mo_work ∈ zt := zt_in (i := 800) (by decide +kernel) rfl
theorem se_Mo_work : Cond.selects "BranchTreesModel" y_Mo_work y_Mo_work ∈ zt := zt_sel (i := 26) (by decide +kernel) rfl
abbrev b_Mo_choose : ByteArray := prog_12_method_28_code
def y_Mo_choose : MethodName := ⟨"BranchTreesModel", "choose", "(I)I"⟩
theorem cd_Mo_choose : Cond.code y_Mo_choose b_Mo_choose 4 (some .int) ∈ zt := zt_in (i := 805) (by decide +kernel) rfl
theorem im_Mo_choose : Cond.instanceMethod y_Mo_choose ∈ zt := zt_in (i := 804) (by decide +kernel) rfl
theorem se_Mo_choose : Cond.selects "BranchTreesModel" y_Mo_choose y_Mo_choose ∈ zt := zt_sel (i := 27) (by decide +kernel) rfl
abbrev b_Mo_worth : ByteArray := prog_12_method_27_code
def y_Mo_worth : MethodName := ⟨"BranchTreesModel", "worth", "(II)I"⟩
theorem cd_Mo_worth : Cond.code y_Mo_worth b_Mo_worth 4 (some .int) ∈ zt := zt_in (i := 809) (by decide +kernel) rfl
theorem im_Mo_worth : Cond.instanceMethod y_Mo_worth ∈ zt := zt_in (i := 808) (by decide +kernel) rfl
theorem se_Mo_worth : Cond.selects "BranchTreesModel" y_Mo_worth y_Mo_worth ∈ zt := zt_sel (i := 28) (by decide +kernel) rfl
abbrev b_Mo_priceOf : ByteArray := prog_12_method_25_code
def y_Mo_priceOf : MethodName := ⟨"BranchTreesModel", "priceOf", "(I)I"⟩
theorem cd_Mo_priceOf : Cond.code y_Mo_priceOf b_Mo_priceOf 2 (some .int) ∈ zt := zt_in (i := 813) (by decide +kernel) rfl
theorem im_Mo_priceOf : Cond.instanceMethod y_Mo_priceOf ∈ zt := zt_in (i := 812) (by decide +kernel) rfl
theorem se_Mo_priceOf : Cond.selects "BranchTreesModel" y_Mo_priceOf y_Mo_priceOf ∈ zt := zt_sel (i := 29) (by decide +kernel) rfl
abbrev b_Mo_restart : ByteArray := prog_12_method_31_code
def y_Mo_restart : MethodName := ⟨"BranchTreesModel", "restart", "()I"⟩
theorem cd_Mo_restart : Cond.code y_Mo_restart b_Mo_restart 2 (some .int) ∈ zt := zt_in (i := 818) (by decide +kernel) rfl
theorem im_Mo_restart : Cond.instanceMethod y_Mo_restart ∈ zt := zt_in (i := 816) (by decide +kernel) rfl
theorem se_Mo_restart : Cond.selects "BranchTreesModel" y_Mo_restart y_Mo_restart ∈ zt := zt_in (i := 817) (by decide +kernel) rfl
abbrev b_Mo_best : ByteArray := prog_12_method_32_code
def y_Mo_best : MethodName := ⟨"BranchTreesModel", "best", "(I)I"⟩
theorem cd_Mo_best : Cond.code y_Mo_best b_Mo_best 2 (some .int) ∈ zt := zt_in (i := 822) (by decide +kernel) rfl
theorem im_Mo_best : Cond.instanceMethod y_Mo_best ∈ zt := zt_in (i := 820) (by decide +kernel) rfl
theorem se_Mo_best : Cond.selects "BranchTreesModel" y_Mo_best y_Mo_best ∈ zt := zt_in (i := 821) (by decide +kernel) rfl
abbrev b_Mo_bound : ByteArray := prog_12_method_33_code
def y_Mo_bound : MethodName := ⟨"BranchTreesModel", "bound", "()I"⟩
theorem cd_Mo_bound : Cond.code y_Mo_bound b_Mo_bound 3 (some .int) ∈ zt := zt_in (i := 828) (by decide +kernel) rfl
theorem im_Mo_bound : Cond.instanceMethod y_Mo_bound ∈ zt := zt_in (i := 826) (by decide +kernel) rfl
theorem se_Mo_bound : Cond.selects "BranchTreesModel" y_Mo_bound y_Mo_bound ∈ zt := zt_in (i := 827) (by decide +kernel) rfl
abbrev b_Mo_node : ByteArray := prog_12_method_34_code
def y_Mo_node : MethodName := ⟨"BranchTreesModel", "node", "(II)I"⟩
theorem cd_Mo_node : Cond.code y_Mo_node b_Mo_node 5 (some .int) ∈ zt := zt_in (i := 833) (by decide +kernel) rfl
theorem im_Mo_node : Cond.instanceMethod y_Mo_node ∈ zt := zt_in (i := 831) (by decide +kernel) rfl
theorem se_Mo_node : Cond.selects "BranchTreesModel" y_Mo_node y_Mo_node ∈ zt := zt_in (i := 832) (by decide +kernel) rfl
abbrev b_Mo_boundOf : ByteArray := prog_12_method_35_code
def y_Mo_boundOf : MethodName := ⟨"BranchTreesModel", "boundOf", "(III)I"⟩
theorem cd_Mo_boundOf : Cond.code y_Mo_boundOf b_Mo_boundOf 4 (some .int) ∈ zt := zt_in (i := 837) (by decide +kernel) rfl
theorem im_Mo_boundOf : Cond.instanceMethod y_Mo_boundOf ∈ zt := zt_in (i := 835) (by decide +kernel) rfl
theorem se_Mo_boundOf : Cond.selects "BranchTreesModel" y_Mo_boundOf y_Mo_boundOf ∈ zt := zt_in (i := 836) (by decide +kernel) rfl
abbrev b_Mo_price : ByteArray := prog_12_method_36_code
def y_Mo_price : MethodName := ⟨"BranchTreesModel", "price", "(I)I"⟩
theorem cd_Mo_price : Cond.code y_Mo_price b_Mo_price 2 (some .int) ∈ zt := zt_in (i := 841) (by decide +kernel) rfl
theorem im_Mo_price : Cond.instanceMethod y_Mo_price ∈ zt := zt_in (i := 839) (by decide +kernel) rfl
theorem se_Mo_price : Cond.selects "BranchTreesModel" y_Mo_price y_Mo_price ∈ zt := zt_in (i := 840) (by decide +kernel) rfl
abbrev b_Mo_check : ByteArray := prog_12_method_37_code
def y_Mo_check : MethodName := ⟨"BranchTreesModel", "check", "()I"⟩
theorem cd_Mo_check : Cond.code y_Mo_check b_Mo_check 4 (some .int) ∈ zt := zt_in (i := 845) (by decide +kernel) rfl
theorem im_Mo_check : Cond.instanceMethod y_Mo_check ∈ zt := zt_in (i := 843) (by decide +kernel) rfl
theorem se_Mo_check : Cond.selects "BranchTreesModel" y_Mo_check y_Mo_check ∈ zt := zt_in (i := 844) (by decide +kernel) rfl
abbrev b_Mo_count : ByteArray := prog_12_method_39_code
def y_Mo_count : MethodName := ⟨"BranchTreesModel", "count", "(I)I"⟩
theorem cd_Mo_count : Cond.code y_Mo_count b_Mo_count 4 (some .int) ∈ zt := zt_in (i := 849) (by decide +kernel) rfl
theorem im_Mo_count : Cond.instanceMethod y_Mo_count ∈ zt := zt_in (i := 847) (by decide +kernel) rfl
theorem se_Mo_count : Cond.selects "BranchTreesModel" y_Mo_count y_Mo_count ∈ zt := zt_in (i := 848) (by decide +kernel) rfl
abbrev b_Mo_inState : ByteArray := prog_12_method_38_code
def y_Mo_inState : MethodName := ⟨"BranchTreesModel", "inState", "(I)I"⟩
theorem cd_Mo_inState : Cond.code y_Mo_inState b_Mo_inState 4 (some .int) ∈ zt := zt_in (i := 853) (by decide +kernel) rfl
theorem im_Mo_inState : Cond.instanceMethod y_Mo_inState ∈ zt := zt_in (i := 852) (by decide +kernel) rfl
theorem se_Mo_inState : Cond.selects "BranchTreesModel" y_Mo_inState y_Mo_inState ∈ zt := zt_sel (i := 30) (by decide +kernel) rfl
abbrev b_La_law : ByteArray := code
def y_La_law : MethodName := ⟨"BranchTreesLaw", "law", "([I)Z"⟩
theorem ii_BT : Cond.initialized "BranchTrees" ∈ zt := zt_in (i := 1) (by decide +kernel) rfl
theorem ii_Be : Cond.initialized "BranchTrees$Best" ∈ zt := zt_in (i := 3) (by decide +kernel) rfl
theorem ii_Bx : Cond.initialized "BranchTrees$Box" ∈ zt := zt_in (i := 9) (by decide +kernel) rfl
theorem ii_Nr : Cond.initialized "BranchTrees$Narrower" ∈ zt := zt_in (i := 6) (by decide +kernel) rfl
theorem ii_Nd : Cond.initialized "BranchTrees$Node" ∈ zt := zt_in (i := 11) (by decide +kernel) rfl
theorem ii_Pr : Cond.initialized "BranchTrees$Prices" ∈ zt := zt_in (i := 4) (by decide +kernel) rfl
theorem ii_Pb : Cond.initialized "BranchTrees$Problem" ∈ zt := zt_in (i := 2) (by decide +kernel) rfl
theorem ii_Pf : Cond.initialized "BranchTrees$Proof" ∈ zt := zt_in (i := 8) (by decide +kernel) rfl
theorem ii_Se : Cond.initialized "BranchTrees$Search" ∈ zt := zt_in (i := 7) (by decide +kernel) rfl
theorem ii_Tr : Cond.initialized "BranchTrees$Tree" ∈ zt := zt_in (i := 5) (by decide +kernel) rfl
theorem ii_Mo : Cond.initialized "BranchTreesModel" ∈ zt := zt_in (i := 10) (by decide +kernel) rfl
theorem ii_Ma : Cond.initialized "java/lang/Math" ∈ zt := zt_in (i := 12) (by decide +kernel) rfl
theorem fk_Pb_9 : Cond.fieldLink "BranchTrees$Problem" 9 (F_Pb 0).1 (F_Pb 0).2.1 (F_Pb 0).2.2.1 ∈ zt := zt_in (i := 29) (by decide +kernel) rfl
theorem fk_Nd_37 : Cond.fieldLink "BranchTrees$Node" 37 (F_Pb 0).1 (F_Pb 0).2.1 (F_Pb 0).2.2.1 ∈ zt := zt_in (i := 30) (by decide +kernel) rfl
theorem fk_Pf_72 : Cond.fieldLink "BranchTrees$Proof" 72 (F_Pb 0).1 (F_Pb 0).2.1 (F_Pb 0).2.2.1 ∈ zt := zt_in (i := 31) (by decide +kernel) rfl
theorem fk_Pb_15 : Cond.fieldLink "BranchTrees$Problem" 15 (F_Pb 1).1 (F_Pb 1).2.1 (F_Pb 1).2.2.1 ∈ zt := zt_in (i := 32) (by decide +kernel) rfl
theorem fk_Nd_43 : Cond.fieldLink "BranchTrees$Node" 43 (F_Pb 1).1 (F_Pb 1).2.1 (F_Pb 1).2.2.1 ∈ zt := zt_in (i := 33) (by decide +kernel) rfl
theorem fk_Pf_78 : Cond.fieldLink "BranchTrees$Proof" 78 (F_Pb 1).1 (F_Pb 1).2.1 (F_Pb 1).2.2.1 ∈ zt := zt_in (i := 34) (by decide +kernel) rfl
theorem fk_Pb_18 : Cond.fieldLink "BranchTrees$Problem" 18 (F_Pb 2).1 (F_Pb 2).2.1 (F_Pb 2).2.2.1 ∈ zt := zt_in (i := 35) (by decide +kernel) rfl
theorem fk_Nr_54 : Cond.fieldLink "BranchTrees$Narrower" 54 (F_Pb 2).1 (F_Pb 2).2.1 (F_Pb 2).2.2.1 ∈ zt := zt_in (i := 36) (by decide +kernel) rfl
theorem fk_Nd_66 : Cond.fieldLink "BranchTrees$Node" 66 (F_Pb 2).1 (F_Pb 2).2.1 (F_Pb 2).2.2.1 ∈ zt := zt_in (i := 37) (by decide +kernel) rfl
theorem fk_BT_95 : Cond.fieldLink "BranchTrees" 95 (F_Pb 2).1 (F_Pb 2).2.1 (F_Pb 2).2.2.1 ∈ zt := zt_in (i := 38) (by decide +kernel) rfl
theorem fk_Se_115 : Cond.fieldLink "BranchTrees$Search" 115 (F_Pb 2).1 (F_Pb 2).2.1 (F_Pb 2).2.2.1 ∈ zt := zt_in (i := 39) (by decide +kernel) rfl
theorem fk_Pb_21 : Cond.fieldLink "BranchTrees$Problem" 21 (F_Pb 3).1 (F_Pb 3).2.1 (F_Pb 3).2.2.1 ∈ zt := zt_in (i := 40) (by decide +kernel) rfl
theorem fk_Pb_24 : Cond.fieldLink "BranchTrees$Problem" 24 (F_Pb 4).1 (F_Pb 4).2.1 (F_Pb 4).2.2.1 ∈ zt := zt_in (i := 41) (by decide +kernel) rfl
theorem fk_Nr_41 : Cond.fieldLink "BranchTrees$Narrower" 41 (F_Pb 4).1 (F_Pb 4).2.1 (F_Pb 4).2.2.1 ∈ zt := zt_in (i := 42) (by decide +kernel) rfl
theorem fk_Pb_27 : Cond.fieldLink "BranchTrees$Problem" 27 (F_Pb 5).1 (F_Pb 5).2.1 (F_Pb 5).2.2.1 ∈ zt := zt_in (i := 43) (by decide +kernel) rfl
theorem fk_Pb_33 : Cond.fieldLink "BranchTrees$Problem" 33 (F_Pb 6).1 (F_Pb 6).2.1 (F_Pb 6).2.2.1 ∈ zt := zt_in (i := 44) (by decide +kernel) rfl
theorem fk_Nr_37 : Cond.fieldLink "BranchTrees$Narrower" 37 (F_Pb 6).1 (F_Pb 6).2.1 (F_Pb 6).2.2.1 ∈ zt := zt_in (i := 45) (by decide +kernel) rfl
theorem fk_BT_91 : Cond.fieldLink "BranchTrees" 91 (F_Pb 6).1 (F_Pb 6).2.1 (F_Pb 6).2.2.1 ∈ zt := zt_in (i := 46) (by decide +kernel) rfl
theorem fk_Pb_36 : Cond.fieldLink "BranchTrees$Problem" 36 (F_Pb 7).1 (F_Pb 7).2.1 (F_Pb 7).2.2.1 ∈ zt := zt_in (i := 47) (by decide +kernel) rfl
theorem fk_Nr_60 : Cond.fieldLink "BranchTrees$Narrower" 60 (F_Pb 7).1 (F_Pb 7).2.1 (F_Pb 7).2.2.1 ∈ zt := zt_in (i := 48) (by decide +kernel) rfl
theorem fk_Se_97 : Cond.fieldLink "BranchTrees$Search" 97 (F_Pb 7).1 (F_Pb 7).2.1 (F_Pb 7).2.2.1 ∈ zt := zt_in (i := 49) (by decide +kernel) rfl
theorem fk_Nd_69 : Cond.fieldLink "BranchTrees$Node" 69 (F_Pb 7).1 (F_Pb 7).2.1 (F_Pb 7).2.2.1 ∈ zt := zt_in (i := 50) (by decide +kernel) rfl
theorem fk_BT_124 : Cond.fieldLink "BranchTrees" 124 (F_Pb 7).1 (F_Pb 7).2.1 (F_Pb 7).2.2.1 ∈ zt := zt_in (i := 51) (by decide +kernel) rfl
theorem fk_Pb_40 : Cond.fieldLink "BranchTrees$Problem" 40 (F_Pb 8).1 (F_Pb 8).2.1 (F_Pb 8).2.2.1 ∈ zt := zt_in (i := 52) (by decide +kernel) rfl
theorem fk_Nr_27 : Cond.fieldLink "BranchTrees$Narrower" 27 (F_Pb 8).1 (F_Pb 8).2.1 (F_Pb 8).2.2.1 ∈ zt := zt_in (i := 53) (by decide +kernel) rfl
theorem fk_BT_214 : Cond.fieldLink "BranchTrees" 214 (F_Pb 8).1 (F_Pb 8).2.1 (F_Pb 8).2.2.1 ∈ zt := zt_in (i := 54) (by decide +kernel) rfl
theorem fk_Pb_51 : Cond.fieldLink "BranchTrees$Problem" 51 (F_Pb 9).1 (F_Pb 9).2.1 (F_Pb 9).2.2.1 ∈ zt := zt_in (i := 55) (by decide +kernel) rfl
theorem fk_BT_101 : Cond.fieldLink "BranchTrees" 101 (F_Pb 9).1 (F_Pb 9).2.1 (F_Pb 9).2.2.1 ∈ zt := zt_in (i := 56) (by decide +kernel) rfl
theorem fk_Be_9 : Cond.fieldLink "BranchTrees$Best" 9 (F_Be 0).1 (F_Be 0).2.1 (F_Be 0).2.2.1 ∈ zt := zt_in (i := 86) (by decide +kernel) rfl
theorem fk_BT_156 : Cond.fieldLink "BranchTrees" 156 (F_Be 0).1 (F_Be 0).2.1 (F_Be 0).2.2.1 ∈ zt := zt_in (i := 87) (by decide +kernel) rfl
theorem fk_Be_15 : Cond.fieldLink "BranchTrees$Best" 15 (F_Be 1).1 (F_Be 1).2.1 (F_Be 1).2.2.1 ∈ zt := zt_in (i := 88) (by decide +kernel) rfl
theorem fk_Nr_49 : Cond.fieldLink "BranchTrees$Narrower" 49 (F_Be 1).1 (F_Be 1).2.1 (F_Be 1).2.2.1 ∈ zt := zt_in (i := 89) (by decide +kernel) rfl
theorem fk_BT_145 : Cond.fieldLink "BranchTrees" 145 (F_Be 1).1 (F_Be 1).2.1 (F_Be 1).2.2.1 ∈ zt := zt_in (i := 90) (by decide +kernel) rfl
theorem fk_Be_19 : Cond.fieldLink "BranchTrees$Best" 19 (F_Be 2).1 (F_Be 2).2.1 (F_Be 2).2.2.1 ∈ zt := zt_in (i := 91) (by decide +kernel) rfl
theorem fk_Nr_57 : Cond.fieldLink "BranchTrees$Narrower" 57 (F_Be 2).1 (F_Be 2).2.1 (F_Be 2).2.2.1 ∈ zt := zt_in (i := 92) (by decide +kernel) rfl
theorem fk_BT_152 : Cond.fieldLink "BranchTrees" 152 (F_Be 2).1 (F_Be 2).2.1 (F_Be 2).2.2.1 ∈ zt := zt_in (i := 93) (by decide +kernel) rfl
theorem fk_Pr_9 : Cond.fieldLink "BranchTrees$Prices" 9 (F_Pr 0).1 (F_Pr 0).2.1 (F_Pr 0).2.2.1 ∈ zt := zt_in (i := 107) (by decide +kernel) rfl
theorem fk_Pr_15 : Cond.fieldLink "BranchTrees$Prices" 15 (F_Pr 1).1 (F_Pr 1).2.1 (F_Pr 1).2.2.1 ∈ zt := zt_in (i := 108) (by decide +kernel) rfl
theorem fk_Tr_11 : Cond.fieldLink "BranchTrees$Tree" 11 (F_Tr 0).1 (F_Tr 0).2.1 (F_Tr 0).2.2.1 ∈ zt := zt_in (i := 123) (by decide +kernel) rfl
theorem fk_Tr_17 : Cond.fieldLink "BranchTrees$Tree" 17 (F_Tr 1).1 (F_Tr 1).2.1 (F_Tr 1).2.2.1 ∈ zt := zt_in (i := 124) (by decide +kernel) rfl
theorem fk_Pf_39 : Cond.fieldLink "BranchTrees$Proof" 39 (F_Tr 1).1 (F_Tr 1).2.1 (F_Tr 1).2.2.1 ∈ zt := zt_in (i := 125) (by decide +kernel) rfl
theorem fk_BT_127 : Cond.fieldLink "BranchTrees" 127 (F_Tr 1).1 (F_Tr 1).2.1 (F_Tr 1).2.2.1 ∈ zt := zt_in (i := 126) (by decide +kernel) rfl
theorem fk_Tr_21 : Cond.fieldLink "BranchTrees$Tree" 21 (F_Tr 2).1 (F_Tr 2).2.1 (F_Tr 2).2.2.1 ∈ zt := zt_in (i := 127) (by decide +kernel) rfl
theorem fk_Se_94 : Cond.fieldLink "BranchTrees$Search" 94 (F_Tr 2).1 (F_Tr 2).2.1 (F_Tr 2).2.2.1 ∈ zt := zt_in (i := 128) (by decide +kernel) rfl
theorem fk_BT_217 : Cond.fieldLink "BranchTrees" 217 (F_Tr 2).1 (F_Tr 2).2.1 (F_Tr 2).2.2.1 ∈ zt := zt_in (i := 129) (by decide +kernel) rfl
theorem fk_BT_37 : Cond.fieldLink "BranchTrees" 37 "BranchTrees" "RULE_KINDS" "[I" ∈ zt := zt_in (i := 137) (by decide +kernel) rfl
theorem fk_Nr_9 : Cond.fieldLink "BranchTrees$Narrower" 9 (F_Nr 0).1 (F_Nr 0).2.1 (F_Nr 0).2.2.1 ∈ zt := zt_in (i := 145) (by decide +kernel) rfl
theorem fk_Nr_15 : Cond.fieldLink "BranchTrees$Narrower" 15 (F_Nr 1).1 (F_Nr 1).2.1 (F_Nr 1).2.2.1 ∈ zt := zt_in (i := 146) (by decide +kernel) rfl
theorem fk_Nr_19 : Cond.fieldLink "BranchTrees$Narrower" 19 (F_Nr 2).1 (F_Nr 2).2.1 (F_Nr 2).2.2.1 ∈ zt := zt_in (i := 147) (by decide +kernel) rfl
theorem fk_Se_9 : Cond.fieldLink "BranchTrees$Search" 9 (F_Se 0).1 (F_Se 0).2.1 (F_Se 0).2.2.1 ∈ zt := zt_in (i := 161) (by decide +kernel) rfl
theorem fk_Se_15 : Cond.fieldLink "BranchTrees$Search" 15 (F_Se 1).1 (F_Se 1).2.1 (F_Se 1).2.2.1 ∈ zt := zt_in (i := 162) (by decide +kernel) rfl
theorem fk_Se_19 : Cond.fieldLink "BranchTrees$Search" 19 (F_Se 2).1 (F_Se 2).2.1 (F_Se 2).2.2.1 ∈ zt := zt_in (i := 163) (by decide +kernel) rfl
theorem fk_Se_23 : Cond.fieldLink "BranchTrees$Search" 23 (F_Se 3).1 (F_Se 3).2.1 (F_Se 3).2.2.1 ∈ zt := zt_in (i := 164) (by decide +kernel) rfl
theorem fk_Se_27 : Cond.fieldLink "BranchTrees$Search" 27 (F_Se 4).1 (F_Se 4).2.1 (F_Se 4).2.2.1 ∈ zt := zt_in (i := 165) (by decide +kernel) rfl
theorem fk_Se_31 : Cond.fieldLink "BranchTrees$Search" 31 (F_Se 5).1 (F_Se 5).2.1 (F_Se 5).2.2.1 ∈ zt := zt_in (i := 166) (by decide +kernel) rfl
theorem fk_Bx_9 : Cond.fieldLink "BranchTrees$Box" 9 (F_Bx 0).1 (F_Bx 0).2.1 (F_Bx 0).2.2.1 ∈ zt := zt_in (i := 192) (by decide +kernel) rfl
theorem fk_Nd_50 : Cond.fieldLink "BranchTrees$Node" 50 (F_Bx 0).1 (F_Bx 0).2.1 (F_Bx 0).2.2.1 ∈ zt := zt_in (i := 193) (by decide +kernel) rfl
theorem fk_Se_77 : Cond.fieldLink "BranchTrees$Search" 77 (F_Bx 0).1 (F_Bx 0).2.1 (F_Bx 0).2.2.1 ∈ zt := zt_in (i := 194) (by decide +kernel) rfl
theorem fk_Nr_72 : Cond.fieldLink "BranchTrees$Narrower" 72 (F_Bx 0).1 (F_Bx 0).2.1 (F_Bx 0).2.2.1 ∈ zt := zt_in (i := 195) (by decide +kernel) rfl
theorem fk_BT_204 : Cond.fieldLink "BranchTrees" 204 (F_Bx 0).1 (F_Bx 0).2.1 (F_Bx 0).2.2.1 ∈ zt := zt_in (i := 196) (by decide +kernel) rfl
theorem fk_Bx_15 : Cond.fieldLink "BranchTrees$Box" 15 (F_Bx 1).1 (F_Bx 1).2.1 (F_Bx 1).2.2.1 ∈ zt := zt_in (i := 197) (by decide +kernel) rfl
theorem fk_Nd_53 : Cond.fieldLink "BranchTrees$Node" 53 (F_Bx 1).1 (F_Bx 1).2.1 (F_Bx 1).2.2.1 ∈ zt := zt_in (i := 198) (by decide +kernel) rfl
theorem fk_Se_102 : Cond.fieldLink "BranchTrees$Search" 102 (F_Bx 1).1 (F_Bx 1).2.1 (F_Bx 1).2.2.1 ∈ zt := zt_in (i := 199) (by decide +kernel) rfl
theorem fk_Nr_69 : Cond.fieldLink "BranchTrees$Narrower" 69 (F_Bx 1).1 (F_Bx 1).2.1 (F_Bx 1).2.2.1 ∈ zt := zt_in (i := 200) (by decide +kernel) rfl
theorem fk_BT_199 : Cond.fieldLink "BranchTrees" 199 (F_Bx 1).1 (F_Bx 1).2.1 (F_Bx 1).2.2.1 ∈ zt := zt_in (i := 201) (by decide +kernel) rfl
theorem fk_Pf_18 : Cond.fieldLink "BranchTrees$Proof" 18 (F_Pf 0).1 (F_Pf 0).2.1 (F_Pf 0).2.2.1 ∈ zt := zt_in (i := 207) (by decide +kernel) rfl
theorem fk_Pf_22 : Cond.fieldLink "BranchTrees$Proof" 22 (F_Pf 1).1 (F_Pf 1).2.1 (F_Pf 1).2.2.1 ∈ zt := zt_in (i := 208) (by decide +kernel) rfl
theorem fk_Pf_26 : Cond.fieldLink "BranchTrees$Proof" 26 (F_Pf 2).1 (F_Pf 2).2.1 (F_Pf 2).2.2.1 ∈ zt := zt_in (i := 209) (by decide +kernel) rfl
theorem fk_Pf_12 : Cond.fieldLink "BranchTrees$Proof" 12 (F_Pf 3).1 (F_Pf 3).2.1 (F_Pf 3).2.2.1 ∈ zt := zt_in (i := 210) (by decide +kernel) rfl
theorem fk_BT_10 : Cond.fieldLink "BranchTrees" 10 (F_BT 0).1 (F_BT 0).2.1 (F_BT 0).2.2.1 ∈ zt := zt_in (i := 220) (by decide +kernel) rfl
theorem fk_BT_19 : Cond.fieldLink "BranchTrees" 19 (F_BT 1).1 (F_BT 1).2.1 (F_BT 1).2.2.1 ∈ zt := zt_in (i := 221) (by decide +kernel) rfl
theorem fk_BT_26 : Cond.fieldLink "BranchTrees" 26 (F_BT 2).1 (F_BT 2).2.1 (F_BT 2).2.2.1 ∈ zt := zt_in (i := 222) (by decide +kernel) rfl
theorem fk_BT_33 : Cond.fieldLink "BranchTrees" 33 (F_BT 3).1 (F_BT 3).2.1 (F_BT 3).2.2.1 ∈ zt := zt_in (i := 223) (by decide +kernel) rfl
theorem fk_BT_57 : Cond.fieldLink "BranchTrees" 57 (F_BT 4).1 (F_BT 4).2.1 (F_BT 4).2.2.1 ∈ zt := zt_in (i := 224) (by decide +kernel) rfl
theorem fk_BT_66 : Cond.fieldLink "BranchTrees" 66 (F_BT 5).1 (F_BT 5).2.1 (F_BT 5).2.2.1 ∈ zt := zt_in (i := 225) (by decide +kernel) rfl
theorem fk_BT_41 : Cond.fieldLink "BranchTrees" 41 (F_BT 6).1 (F_BT 6).2.1 (F_BT 6).2.2.1 ∈ zt := zt_in (i := 226) (by decide +kernel) rfl
theorem fk_BT_44 : Cond.fieldLink "BranchTrees" 44 (F_BT 7).1 (F_BT 7).2.1 (F_BT 7).2.2.1 ∈ zt := zt_in (i := 227) (by decide +kernel) rfl
theorem fk_Nd_18 : Cond.fieldLink "BranchTrees$Node" 18 (F_Nd 0).1 (F_Nd 0).2.1 (F_Nd 0).2.2.1 ∈ zt := zt_in (i := 378) (by decide +kernel) rfl
theorem fk_Nd_12 : Cond.fieldLink "BranchTrees$Node" 12 (F_Nd 1).1 (F_Nd 1).2.1 (F_Nd 1).2.2.1 ∈ zt := zt_in (i := 379) (by decide +kernel) rfl
theorem fk_Se_47 : Cond.fieldLink "BranchTrees$Search" 47 (F_Nd 1).1 (F_Nd 1).2.1 (F_Nd 1).2.2.1 ∈ zt := zt_in (i := 380) (by decide +kernel) rfl
theorem fk_BT_195 : Cond.fieldLink "BranchTrees" 195 (F_Nd 1).1 (F_Nd 1).2.1 (F_Nd 1).2.2.1 ∈ zt := zt_in (i := 381) (by decide +kernel) rfl
theorem fk_Nd_22 : Cond.fieldLink "BranchTrees$Node" 22 (F_Nd 2).1 (F_Nd 2).2.1 (F_Nd 2).2.2.1 ∈ zt := zt_in (i := 382) (by decide +kernel) rfl
theorem fk_Pf_56 : Cond.fieldLink "BranchTrees$Proof" 56 (F_Nd 2).1 (F_Nd 2).2.1 (F_Nd 2).2.2.1 ∈ zt := zt_in (i := 383) (by decide +kernel) rfl
theorem fk_BT_166 : Cond.fieldLink "BranchTrees" 166 (F_Nd 2).1 (F_Nd 2).2.1 (F_Nd 2).2.2.1 ∈ zt := zt_in (i := 384) (by decide +kernel) rfl
theorem fk_Nd_25 : Cond.fieldLink "BranchTrees$Node" 25 (F_Nd 3).1 (F_Nd 3).2.1 (F_Nd 3).2.2.1 ∈ zt := zt_in (i := 385) (by decide +kernel) rfl
theorem fk_Pf_85 : Cond.fieldLink "BranchTrees$Proof" 85 (F_Nd 3).1 (F_Nd 3).2.1 (F_Nd 3).2.2.1 ∈ zt := zt_in (i := 386) (by decide +kernel) rfl
theorem fk_BT_171 : Cond.fieldLink "BranchTrees" 171 (F_Nd 3).1 (F_Nd 3).2.1 (F_Nd 3).2.2.1 ∈ zt := zt_in (i := 387) (by decide +kernel) rfl
theorem fk_Nd_28 : Cond.fieldLink "BranchTrees$Node" 28 (F_Nd 4).1 (F_Nd 4).2.1 (F_Nd 4).2.2.1 ∈ zt := zt_in (i := 388) (by decide +kernel) rfl
theorem fk_Pf_92 : Cond.fieldLink "BranchTrees$Proof" 92 (F_Nd 4).1 (F_Nd 4).2.1 (F_Nd 4).2.2.1 ∈ zt := zt_in (i := 389) (by decide +kernel) rfl
theorem fk_BT_174 : Cond.fieldLink "BranchTrees" 174 (F_Nd 4).1 (F_Nd 4).2.1 (F_Nd 4).2.2.1 ∈ zt := zt_in (i := 390) (by decide +kernel) rfl
theorem fk_Nd_31 : Cond.fieldLink "BranchTrees$Node" 31 (F_Nd 5).1 (F_Nd 5).2.1 (F_Nd 5).2.2.1 ∈ zt := zt_in (i := 391) (by decide +kernel) rfl
theorem fk_Pf_95 : Cond.fieldLink "BranchTrees$Proof" 95 (F_Nd 5).1 (F_Nd 5).2.1 (F_Nd 5).2.2.1 ∈ zt := zt_in (i := 392) (by decide +kernel) rfl
theorem fk_BT_177 : Cond.fieldLink "BranchTrees" 177 (F_Nd 5).1 (F_Nd 5).2.1 (F_Nd 5).2.2.1 ∈ zt := zt_in (i := 393) (by decide +kernel) rfl
theorem fk_Nd_34 : Cond.fieldLink "BranchTrees$Node" 34 (F_Nd 6).1 (F_Nd 6).2.1 (F_Nd 6).2.2.1 ∈ zt := zt_in (i := 394) (by decide +kernel) rfl
theorem fk_BT_192 : Cond.fieldLink "BranchTrees" 192 (F_Nd 6).1 (F_Nd 6).2.1 (F_Nd 6).2.2.1 ∈ zt := zt_in (i := 395) (by decide +kernel) rfl
theorem fk_Se_71 : Cond.fieldLink "BranchTrees$Search" 71 (F_Nd 7).1 (F_Nd 7).2.1 (F_Nd 7).2.2.1 ∈ zt := zt_in (i := 396) (by decide +kernel) rfl
theorem fk_Pf_59 : Cond.fieldLink "BranchTrees$Proof" 59 (F_Nd 7).1 (F_Nd 7).2.1 (F_Nd 7).2.2.1 ∈ zt := zt_in (i := 397) (by decide +kernel) rfl
theorem fk_Nd_63 : Cond.fieldLink "BranchTrees$Node" 63 (F_Nd 7).1 (F_Nd 7).2.1 (F_Nd 7).2.2.1 ∈ zt := zt_in (i := 398) (by decide +kernel) rfl
theorem fk_Tr_27 : Cond.fieldLink "BranchTrees$Tree" 27 (F_Nd 7).1 (F_Nd 7).2.1 (F_Nd 7).2.2.1 ∈ zt := zt_in (i := 399) (by decide +kernel) rfl
theorem fk_BT_180 : Cond.fieldLink "BranchTrees" 180 (F_Nd 7).1 (F_Nd 7).2.1 (F_Nd 7).2.2.1 ∈ zt := zt_in (i := 400) (by decide +kernel) rfl
theorem fk_Se_61 : Cond.fieldLink "BranchTrees$Search" 61 (F_Nd 8).1 (F_Nd 8).2.1 (F_Nd 8).2.2.1 ∈ zt := zt_in (i := 401) (by decide +kernel) rfl
theorem fk_Nd_76 : Cond.fieldLink "BranchTrees$Node" 76 (F_Nd 8).1 (F_Nd 8).2.1 (F_Nd 8).2.2.1 ∈ zt := zt_in (i := 402) (by decide +kernel) rfl
theorem fk_Tr_34 : Cond.fieldLink "BranchTrees$Tree" 34 (F_Nd 8).1 (F_Nd 8).2.1 (F_Nd 8).2.2.1 ∈ zt := zt_in (i := 403) (by decide +kernel) rfl
theorem fk_BT_183 : Cond.fieldLink "BranchTrees" 183 (F_Nd 8).1 (F_Nd 8).2.1 (F_Nd 8).2.2.1 ∈ zt := zt_in (i := 404) (by decide +kernel) rfl
theorem fk_Nd_60 : Cond.fieldLink "BranchTrees$Node" 60 (F_Nd 9).1 (F_Nd 9).2.1 (F_Nd 9).2.2.1 ∈ zt := zt_in (i := 405) (by decide +kernel) rfl
theorem fk_BT_186 : Cond.fieldLink "BranchTrees" 186 (F_Nd 9).1 (F_Nd 9).2.1 (F_Nd 9).2.2.1 ∈ zt := zt_in (i := 406) (by decide +kernel) rfl
theorem fk_Nd_79 : Cond.fieldLink "BranchTrees$Node" 79 (F_Nd 10).1 (F_Nd 10).2.1 (F_Nd 10).2.2.1 ∈ zt := zt_in (i := 407) (by decide +kernel) rfl
theorem fk_Se_127 : Cond.fieldLink "BranchTrees$Search" 127 (F_Nd 10).1 (F_Nd 10).2.1 (F_Nd 10).2.2.1 ∈ zt := zt_in (i := 408) (by decide +kernel) rfl
theorem fk_BT_189 : Cond.fieldLink "BranchTrees" 189 (F_Nd 10).1 (F_Nd 10).2.1 (F_Nd 10).2.2.1 ∈ zt := zt_in (i := 409) (by decide +kernel) rfl
theorem fk_Pf_51 : Cond.fieldLink "BranchTrees$Proof" 51 (F_Nd 11).1 (F_Nd 11).2.1 (F_Nd 11).2.2.1 ∈ zt := zt_in (i := 410) (by decide +kernel) rfl
theorem fk_Mo_1 : Cond.fieldLink "BranchTreesModel" 1 (F_Mo 0).1 (F_Mo 0).2.1 (F_Mo 0).2.2.1 ∈ zt := zt_in (i := 600) (by decide +kernel) rfl
theorem fk_Mo_85 : Cond.fieldLink "BranchTreesModel" 85 (F_Mo 1).1 (F_Mo 1).2.1 (F_Mo 1).2.2.1 ∈ zt := zt_in (i := 601) (by decide +kernel) rfl
theorem fk_Mo_13 : Cond.fieldLink "BranchTreesModel" 13 (F_Mo 2).1 (F_Mo 2).2.1 (F_Mo 2).2.2.1 ∈ zt := zt_in (i := 602) (by decide +kernel) rfl
theorem fk_Mo_17 : Cond.fieldLink "BranchTreesModel" 17 (F_Mo 3).1 (F_Mo 3).2.1 (F_Mo 3).2.2.1 ∈ zt := zt_in (i := 603) (by decide +kernel) rfl
theorem fk_Mo_20 : Cond.fieldLink "BranchTreesModel" 20 (F_Mo 4).1 (F_Mo 4).2.1 (F_Mo 4).2.2.1 ∈ zt := zt_in (i := 604) (by decide +kernel) rfl
theorem fk_Mo_24 : Cond.fieldLink "BranchTreesModel" 24 (F_Mo 5).1 (F_Mo 5).2.1 (F_Mo 5).2.2.1 ∈ zt := zt_in (i := 605) (by decide +kernel) rfl
theorem fk_Mo_27 : Cond.fieldLink "BranchTreesModel" 27 (F_Mo 6).1 (F_Mo 6).2.1 (F_Mo 6).2.2.1 ∈ zt := zt_in (i := 606) (by decide +kernel) rfl
theorem fk_Mo_30 : Cond.fieldLink "BranchTreesModel" 30 (F_Mo 7).1 (F_Mo 7).2.1 (F_Mo 7).2.2.1 ∈ zt := zt_in (i := 607) (by decide +kernel) rfl
theorem fk_Mo_115 : Cond.fieldLink "BranchTreesModel" 115 (F_Mo 8).1 (F_Mo 8).2.1 (F_Mo 8).2.2.1 ∈ zt := zt_in (i := 608) (by decide +kernel) rfl
theorem fk_Mo_33 : Cond.fieldLink "BranchTreesModel" 33 (F_Mo 9).1 (F_Mo 9).2.1 (F_Mo 9).2.2.1 ∈ zt := zt_in (i := 609) (by decide +kernel) rfl
theorem fk_Mo_36 : Cond.fieldLink "BranchTreesModel" 36 (F_Mo 10).1 (F_Mo 10).2.1 (F_Mo 10).2.2.1 ∈ zt := zt_in (i := 610) (by decide +kernel) rfl
theorem fk_Mo_39 : Cond.fieldLink "BranchTreesModel" 39 (F_Mo 11).1 (F_Mo 11).2.1 (F_Mo 11).2.2.1 ∈ zt := zt_in (i := 611) (by decide +kernel) rfl
theorem fk_Mo_42 : Cond.fieldLink "BranchTreesModel" 42 (F_Mo 12).1 (F_Mo 12).2.1 (F_Mo 12).2.2.1 ∈ zt := zt_in (i := 612) (by decide +kernel) rfl
theorem fk_Mo_46 : Cond.fieldLink "BranchTreesModel" 46 (F_Mo 13).1 (F_Mo 13).2.1 (F_Mo 13).2.2.1 ∈ zt := zt_in (i := 613) (by decide +kernel) rfl
theorem fk_Mo_98 : Cond.fieldLink "BranchTreesModel" 98 (F_Mo 14).1 (F_Mo 14).2.1 (F_Mo 14).2.2.1 ∈ zt := zt_in (i := 614) (by decide +kernel) rfl
theorem fk_Mo_136 : Cond.fieldLink "BranchTreesModel" 136 (F_Mo 15).1 (F_Mo 15).2.1 (F_Mo 15).2.2.1 ∈ zt := zt_in (i := 615) (by decide +kernel) rfl
theorem fk_Mo_49 : Cond.fieldLink "BranchTreesModel" 49 (F_Mo 16).1 (F_Mo 16).2.1 (F_Mo 16).2.2.1 ∈ zt := zt_in (i := 616) (by decide +kernel) rfl
theorem fk_Mo_92 : Cond.fieldLink "BranchTreesModel" 92 (F_Mo 17).1 (F_Mo 17).2.1 (F_Mo 17).2.2.1 ∈ zt := zt_in (i := 617) (by decide +kernel) rfl
theorem fk_Mo_95 : Cond.fieldLink "BranchTreesModel" 95 (F_Mo 18).1 (F_Mo 18).2.1 (F_Mo 18).2.2.1 ∈ zt := zt_in (i := 618) (by decide +kernel) rfl
theorem fk_Mo_52 : Cond.fieldLink "BranchTreesModel" 52 (F_Mo 19).1 (F_Mo 19).2.1 (F_Mo 19).2.2.1 ∈ zt := zt_in (i := 619) (by decide +kernel) rfl
theorem fk_Mo_55 : Cond.fieldLink "BranchTreesModel" 55 (F_Mo 20).1 (F_Mo 20).2.1 (F_Mo 20).2.2.1 ∈ zt := zt_in (i := 620) (by decide +kernel) rfl
theorem fk_Mo_58 : Cond.fieldLink "BranchTreesModel" 58 (F_Mo 21).1 (F_Mo 21).2.1 (F_Mo 21).2.2.1 ∈ zt := zt_in (i := 621) (by decide +kernel) rfl
theorem fk_Mo_61 : Cond.fieldLink "BranchTreesModel" 61 (F_Mo 22).1 (F_Mo 22).2.1 (F_Mo 22).2.2.1 ∈ zt := zt_in (i := 622) (by decide +kernel) rfl
theorem fk_Mo_64 : Cond.fieldLink "BranchTreesModel" 64 (F_Mo 23).1 (F_Mo 23).2.1 (F_Mo 23).2.2.1 ∈ zt := zt_in (i := 623) (by decide +kernel) rfl
theorem fk_Mo_67 : Cond.fieldLink "BranchTreesModel" 67 (F_Mo 24).1 (F_Mo 24).2.1 (F_Mo 24).2.2.1 ∈ zt := zt_in (i := 624) (by decide +kernel) rfl
theorem fk_Mo_70 : Cond.fieldLink "BranchTreesModel" 70 (F_Mo 25).1 (F_Mo 25).2.1 (F_Mo 25).2.2.1 ∈ zt := zt_in (i := 625) (by decide +kernel) rfl
theorem fk_Mo_73 : Cond.fieldLink "BranchTreesModel" 73 (F_Mo 26).1 (F_Mo 26).2.1 (F_Mo 26).2.2.1 ∈ zt := zt_in (i := 626) (by decide +kernel) rfl
theorem fk_Mo_76 : Cond.fieldLink "BranchTreesModel" 76 (F_Mo 27).1 (F_Mo 27).2.1 (F_Mo 27).2.2.1 ∈ zt := zt_in (i := 627) (by decide +kernel) rfl
theorem fk_Mo_79 : Cond.fieldLink "BranchTreesModel" 79 (F_Mo 28).1 (F_Mo 28).2.1 (F_Mo 28).2.2.1 ∈ zt := zt_in (i := 628) (by decide +kernel) rfl
theorem fk_Mo_82 : Cond.fieldLink "BranchTreesModel" 82 (F_Mo 29).1 (F_Mo 29).2.1 (F_Mo 29).2.2.1 ∈ zt := zt_in (i := 629) (by decide +kernel) rfl
theorem fk_Mo_147 : Cond.fieldLink "BranchTreesModel" 147 (F_Mo 30).1 (F_Mo 30).2.1 (F_Mo 30).2.2.1 ∈ zt := zt_in (i := 630) (by decide +kernel) rfl
theorem mk_La_9 : Cond.methodLink "BranchTreesLaw" 9 y_BT_init ∈ zt := zt_in (i := 15) (by decide +kernel) rfl
theorem mk_BT_1 : Cond.methodLink "BranchTrees" 1 objectInit ∈ zt := zt_in (i := 18) (by decide +kernel) rfl
theorem mk_BT_9 : Cond.methodLinkNest "BranchTrees" 9 y_Pb_init "BranchTrees" ∈ lw_tbl := zt_in0 (i := 23) (by decide +kernel)
theorem mk_Pb_3 : Cond.methodLink "BranchTrees$Problem" 3 objectInit ∈ zt := zt_in (i := 26) (by decide +kernel) rfl
theorem mk_BT_18 : Cond.methodLinkNest "BranchTrees" 18 y_Be_init "BranchTrees" ∈ lw_tbl := zt_in0 (i := 82) (by decide +kernel)
theorem mk_Be_3 : Cond.methodLink "BranchTrees$Best" 3 objectInit ∈ zt := zt_in (i := 85) (by decide +kernel) rfl
theorem mk_BT_25 : Cond.methodLinkNest "BranchTrees" 25 y_Pr_init "BranchTrees" ∈ lw_tbl := zt_in0 (i := 103) (by decide +kernel)
theorem mk_Pr_3 : Cond.methodLink "BranchTrees$Prices" 3 objectInit ∈ zt := zt_in (i := 106) (by decide +kernel) rfl
theorem mk_BT_32 : Cond.methodLinkNest "BranchTrees" 32 y_Tr_init "BranchTrees" ∈ lw_tbl := zt_in0 (i := 117) (by decide +kernel)
theorem mk_Tr_3 : Cond.methodLink "BranchTrees$Tree" 3 objectInit ∈ zt := zt_in (i := 120) (by decide +kernel) rfl
theorem mk_BT_49 : Cond.methodLink "BranchTrees" 49 y_Nr_init ∈ zt := zt_in (i := 141) (by decide +kernel) rfl
theorem mk_Nr_3 : Cond.methodLink "BranchTrees$Narrower" 3 objectInit ∈ zt := zt_in (i := 144) (by decide +kernel) rfl
theorem mk_BT_54 : Cond.methodLink "BranchTrees" 54 y_Se_init ∈ zt := zt_in (i := 157) (by decide +kernel) rfl
theorem mk_Se_3 : Cond.methodLink "BranchTrees$Search" 3 objectInit ∈ zt := zt_in (i := 160) (by decide +kernel) rfl
theorem mk_BT_63 : Cond.methodLink "BranchTrees" 63 y_Pf_init ∈ zt := zt_in (i := 182) (by decide +kernel) rfl
theorem mk_Pf_3 : Cond.methodLink "BranchTrees$Proof" 3 objectInit ∈ zt := zt_in (i := 185) (by decide +kernel) rfl
theorem mk_Pf_11 : Cond.methodLinkNest "BranchTrees$Proof" 11 y_Bx_init "BranchTrees" ∈ lw_tbl := zt_in0 (i := 188) (by decide +kernel)
theorem mk_Bx_3 : Cond.methodLink "BranchTrees$Box" 3 objectInit ∈ zt := zt_in (i := 191) (by decide +kernel) rfl
theorem mk_La_13 : Cond.methodLink "BranchTreesLaw" 13 y_BT_name ∈ zt := zt_in (i := 245) (by decide +kernel) rfl
theorem mk_BT_70 : Cond.methodLink "BranchTrees" 70 y_BT_isWithin ∈ zt := zt_in (i := 249) (by decide +kernel) rfl
theorem mk_BT_74 : Cond.methodLink "BranchTrees" 74 y_Pb_addName ∈ zt := zt_in (i := 252) (by decide +kernel) rfl
theorem mk_BT_78 : Cond.methodLink "BranchTrees" 78 y_BT_forgetSearch ∈ zt := zt_in (i := 256) (by decide +kernel) rfl
theorem mk_BT_149 : Cond.methodLink "BranchTrees" 149 y_Tr_fell ∈ zt := zt_in (i := 260) (by decide +kernel) rfl
theorem mk_BT_220 : Cond.methodLink "BranchTrees" 220 y_Pr_forget ∈ zt := zt_in (i := 264) (by decide +kernel) rfl
theorem mk_La_18 : Cond.methodLink "BranchTreesLaw" 18 y_BT_row ∈ zt := zt_in (i := 268) (by decide +kernel) rfl
theorem mk_BT_81 : Cond.methodLink "BranchTrees" 81 y_Pb_addRow ∈ zt := zt_in (i := 272) (by decide +kernel) rfl
theorem mk_La_22 : Cond.methodLink "BranchTreesLaw" 22 y_BT_factor ∈ zt := zt_in (i := 276) (by decide +kernel) rfl
theorem mk_BT_84 : Cond.methodLink "BranchTrees" 84 y_Pb_hasRow ∈ zt := zt_in (i := 280) (by decide +kernel) rfl
theorem mk_BT_88 : Cond.methodLink "BranchTrees" 88 y_Pb_hasName ∈ zt := zt_in (i := 284) (by decide +kernel) rfl
theorem mk_La_27 : Cond.methodLink "BranchTreesLaw" 27 y_BT_cost ∈ zt := zt_in (i := 288) (by decide +kernel) rfl
theorem mk_La_31 : Cond.methodLink "BranchTreesLaw" 31 y_BT_alike ∈ zt := zt_in (i := 292) (by decide +kernel) rfl
theorem mk_BT_98 : Cond.methodLink "BranchTrees" 98 y_Pb_canSwap ∈ zt := zt_in (i := 296) (by decide +kernel) rfl
theorem mk_Pb_62 : Cond.methodLink "BranchTrees$Problem" 62 y_Pb_timesFound ∈ zt := zt_in (i := 300) (by decide +kernel) rfl
theorem mk_Pb_66 : Cond.methodLink "BranchTrees$Problem" 66 y_Pb_isSwapped ∈ zt := zt_in (i := 304) (by decide +kernel) rfl
theorem mk_La_35 : Cond.methodLink "BranchTreesLaw" 35 y_BT_order ∈ zt := zt_in (i := 308) (by decide +kernel) rfl
theorem mk_BT_105 : Cond.methodLink "BranchTrees" 105 y_Pb_addOrders ∈ zt := zt_in (i := 312) (by decide +kernel) rfl
theorem mk_Pb_43 : Cond.methodLink "BranchTrees$Problem" 43 y_Pb_nextAlike ∈ zt := zt_in (i := 316) (by decide +kernel) rfl
theorem mk_Pb_54 : Cond.methodLink "BranchTrees$Problem" 54 y_Pb_canSwap ∈ zt := zt_in (i := 320) (by decide +kernel) rfl
theorem mk_Pb_47 : Cond.methodLink "BranchTrees$Problem" 47 y_Pb_addOrder ∈ zt := zt_in (i := 321) (by decide +kernel) rfl
theorem mk_Pb_58 : Cond.methodLink "BranchTrees$Problem" 58 y_Pb_addRow ∈ zt := zt_in (i := 325) (by decide +kernel) rfl
theorem mk_La_40 : Cond.methodLink "BranchTreesLaw" 40 y_BT_rule ∈ zt := zt_in (i := 326) (by decide +kernel) rfl
theorem mk_La_44 : Cond.methodLink "BranchTreesLaw" 44 y_BT_start ∈ zt := zt_in (i := 330) (by decide +kernel) rfl
theorem mk_La_48 : Cond.methodLink "BranchTreesLaw" 48 y_BT_offer ∈ zt := zt_in (i := 334) (by decide +kernel) rfl
theorem mk_BT_109 : Cond.methodLink "BranchTrees" 109 y_Pb_isPlan ∈ zt := zt_in (i := 338) (by decide +kernel) rfl
theorem mk_Pb_70 : Cond.methodLink "BranchTrees$Problem" 70 y_Pb_sumOf ∈ zt := zt_in (i := 342) (by decide +kernel) rfl
theorem mk_Pb_74 : Cond.methodLink "BranchTrees$Problem" 74 y_Pb_binds ∈ zt := zt_in (i := 346) (by decide +kernel) rfl
theorem mk_BT_113 : Cond.methodLink "BranchTrees" 113 y_Pb_sumOf ∈ zt := zt_in (i := 350) (by decide +kernel) rfl
theorem mk_BT_117 : Cond.methodLink "BranchTrees" 117 y_Be_isNotAbove ∈ zt := zt_in (i := 351) (by decide +kernel) rfl
theorem mk_BT_120 : Cond.methodLink "BranchTrees" 120 y_Be_take ∈ zt := zt_in (i := 355) (by decide +kernel) rfl
theorem mk_La_52 : Cond.methodLink "BranchTreesLaw" 52 y_BT_run ∈ zt := zt_in (i := 359) (by decide +kernel) rfl
theorem mk_BT_130 : Cond.methodLink "BranchTrees" 130 y_Se_plantRoot ∈ zt := zt_in (i := 363) (by decide +kernel) rfl
theorem mk_Se_35 : Cond.methodLink "BranchTrees$Search" 35 y_Tr_grow ∈ zt := zt_in (i := 367) (by decide +kernel) rfl
theorem mk_Tr_24 : Cond.methodLink "BranchTrees$Tree" 24 y_Nd_init ∈ zt := zt_in (i := 372) (by decide +kernel) rfl
theorem mk_Nd_3 : Cond.methodLink "BranchTrees$Node" 3 objectInit ∈ zt := zt_in (i := 375) (by decide +kernel) rfl
theorem mk_Nd_11 : Cond.methodLinkNest "BranchTrees$Node" 11 y_Bx_init "BranchTrees" ∈ lw_tbl := zt_in0 (i := 377) (by decide +kernel)
theorem mk_Se_41 : Cond.methodLink "BranchTrees$Search" 41 y_Nd_becomeRoot ∈ zt := zt_in (i := 436) (by decide +kernel) rfl
theorem mk_Nd_46 : Cond.methodLink "BranchTrees$Node" 46 y_Bx_copyFrom ∈ zt := zt_in (i := 440) (by decide +kernel) rfl
theorem mk_Se_51 : Cond.methodLink "BranchTrees$Search" 51 y_Nr_narrow ∈ zt := zt_in (i := 444) (by decide +kernel) rfl
theorem mk_Nr_23 : Cond.methodLink "BranchTrees$Narrower" 23 y_Nr_goRound ∈ zt := zt_in (i := 448) (by decide +kernel) rfl
theorem mk_Nr_33 : Cond.methodLink "BranchTrees$Narrower" 33 y_Pb_binds ∈ zt := zt_in (i := 452) (by decide +kernel) rfl
theorem mk_Nr_45 : Cond.methodLink "BranchTrees$Narrower" 45 y_Nr_closes ∈ zt := zt_in (i := 453) (by decide +kernel) rfl
theorem mk_Nr_63 : Cond.methodLink "BranchTrees$Narrower" 63 y_Bx_leastOf ∈ zt := zt_in (i := 457) (by decide +kernel) rfl
theorem mk_Se_57 : Cond.methodLink "BranchTrees$Search" 57 y_Nd_settle ∈ zt := zt_in (i := 461) (by decide +kernel) rfl
theorem mk_Nd_72 : Cond.methodLink "BranchTrees$Node" 72 y_Bx_leastOf ∈ zt := zt_in (i := 465) (by decide +kernel) rfl
theorem mk_BT_133 : Cond.methodLink "BranchTrees" 133 y_Tr_pick ∈ zt := zt_in (i := 466) (by decide +kernel) rfl
theorem mk_Tr_30 : Cond.methodLink "BranchTrees$Tree" 30 y_Tr_isBetter ∈ zt := zt_in (i := 470) (by decide +kernel) rfl
theorem mk_BT_137 : Cond.methodLink "BranchTrees" 137 y_Se_workAt ∈ zt := zt_in (i := 473) (by decide +kernel) rfl
theorem mk_Se_65 : Cond.methodLink "BranchTrees$Search" 65 y_Be_isNotAbove ∈ zt := zt_in (i := 477) (by decide +kernel) rfl
theorem mk_Se_74 : Cond.methodLink "BranchTrees$Search" 74 y_Se_choose ∈ zt := zt_in (i := 478) (by decide +kernel) rfl
theorem mk_Se_105 : Cond.methodLink "BranchTrees$Search" 105 y_Se_meritOf ∈ zt := zt_in (i := 482) (by decide +kernel) rfl
theorem mk_Se_109 : Cond.methodLink "BranchTrees$Search" 109 y_Pr_priceOf ∈ zt := zt_in (i := 486) (by decide +kernel) rfl
theorem mk_Se_118 : Cond.methodLink "BranchTrees$Search" 118 y_Ma_abs ∈ zt := zt_in (i := 491) (by decide +kernel) rfl
theorem mk_Se_82 : Cond.methodLink "BranchTrees$Search" 82 y_Be_take ∈ zt := zt_in (i := 494) (by decide +kernel) rfl
theorem mk_Se_86 : Cond.methodLink "BranchTrees$Search" 86 y_Tr_hasRoomForTwo ∈ zt := zt_in (i := 495) (by decide +kernel) rfl
theorem mk_Se_90 : Cond.methodLink "BranchTrees$Search" 90 y_Se_part ∈ zt := zt_in (i := 499) (by decide +kernel) rfl
theorem mk_Se_123 : Cond.methodLink "BranchTrees$Search" 123 y_Ma_floorDiv ∈ zt := zt_in (i := 503) (by decide +kernel) rfl
theorem mk_Se_130 : Cond.methodLink "BranchTrees$Search" 130 y_Nd_becomeChild ∈ zt := zt_in (i := 506) (by decide +kernel) rfl
theorem mk_Nd_56 : Cond.methodLink "BranchTrees$Node" 56 y_Bx_cut ∈ zt := zt_in (i := 510) (by decide +kernel) rfl
theorem mk_Bx_18 : Cond.methodLink "BranchTrees$Box" 18 y_Ma_min ∈ zt := zt_in (i := 514) (by decide +kernel) rfl
theorem mk_Bx_24 : Cond.methodLink "BranchTrees$Box" 24 y_Ma_max ∈ zt := zt_in (i := 517) (by decide +kernel) rfl
theorem mk_Se_134 : Cond.methodLink "BranchTrees$Search" 134 y_Pr_learn ∈ zt := zt_in (i := 520) (by decide +kernel) rfl
theorem mk_BT_141 : Cond.methodLink "BranchTrees" 141 y_Tr_countOf ∈ zt := zt_in (i := 524) (by decide +kernel) rfl
theorem mk_La_57 : Cond.methodLink "BranchTreesLaw" 57 y_BT_restart ∈ zt := zt_in (i := 528) (by decide +kernel) rfl
theorem mk_La_61 : Cond.methodLink "BranchTreesLaw" 61 y_BT_best ∈ zt := zt_in (i := 532) (by decide +kernel) rfl
theorem mk_La_65 : Cond.methodLink "BranchTreesLaw" 65 y_BT_bound ∈ zt := zt_in (i := 537) (by decide +kernel) rfl
theorem mk_BT_160 : Cond.methodLink "BranchTrees" 160 y_Tr_leastOpen ∈ zt := zt_in (i := 542) (by decide +kernel) rfl
theorem mk_Tr_37 : Cond.methodLink "BranchTrees$Tree" 37 y_Ma_min ∈ zt := zt_in (i := 546) (by decide +kernel) rfl
theorem mk_La_69 : Cond.methodLink "BranchTreesLaw" 69 y_BT_node ∈ zt := zt_in (i := 547) (by decide +kernel) rfl
theorem mk_BT_163 : Cond.methodLink "BranchTrees" 163 y_Tr_at ∈ zt := zt_in (i := 551) (by decide +kernel) rfl
theorem mk_La_73 : Cond.methodLink "BranchTreesLaw" 73 y_BT_boundOf ∈ zt := zt_in (i := 555) (by decide +kernel) rfl
theorem mk_La_77 : Cond.methodLink "BranchTreesLaw" 77 y_BT_price ∈ zt := zt_in (i := 559) (by decide +kernel) rfl
theorem mk_BT_207 : Cond.methodLink "BranchTrees" 207 y_Pr_priceOf ∈ zt := zt_in (i := 563) (by decide +kernel) rfl
theorem mk_La_81 : Cond.methodLink "BranchTreesLaw" 81 y_BT_check ∈ zt := zt_in (i := 564) (by decide +kernel) rfl
theorem mk_BT_210 : Cond.methodLink "BranchTrees" 210 y_Pf_holds ∈ zt := zt_in (i := 568) (by decide +kernel) rfl
theorem mk_Pf_30 : Cond.methodLink "BranchTrees$Proof" 30 y_Tr_countOf ∈ zt := zt_in (i := 572) (by decide +kernel) rfl
theorem mk_Pf_36 : Cond.methodLink "BranchTrees$Proof" 36 y_Pf_countChildren ∈ zt := zt_in (i := 573) (by decide +kernel) rfl
theorem mk_Pf_43 : Cond.methodLink "BranchTrees$Proof" 43 y_Tr_at ∈ zt := zt_in (i := 577) (by decide +kernel) rfl
theorem mk_Pf_47 : Cond.methodLink "BranchTrees$Proof" 47 y_Pf_isProven ∈ zt := zt_in (i := 578) (by decide +kernel) rfl
theorem mk_Pf_62 : Cond.methodLink "BranchTrees$Proof" 62 y_Pf_cutBox ∈ zt := zt_in (i := 582) (by decide +kernel) rfl
theorem mk_Pf_81 : Cond.methodLink "BranchTrees$Proof" 81 y_Bx_copyFrom ∈ zt := zt_in (i := 586) (by decide +kernel) rfl
theorem mk_Pf_88 : Cond.methodLink "BranchTrees$Proof" 88 y_Pb_hasName ∈ zt := zt_in (i := 587) (by decide +kernel) rfl
theorem mk_Pf_98 : Cond.methodLink "BranchTrees$Proof" 98 y_Bx_cut ∈ zt := zt_in (i := 588) (by decide +kernel) rfl
theorem mk_Pf_66 : Cond.methodLink "BranchTrees$Proof" 66 y_Nr_narrow ∈ zt := zt_in (i := 589) (by decide +kernel) rfl
theorem mk_La_85 : Cond.methodLink "BranchTreesLaw" 85 y_BT_count ∈ zt := zt_in (i := 590) (by decide +kernel) rfl
theorem mk_La_12 : Cond.methodLink "BranchTreesLaw" 12 y_Mo_init ∈ zt := zt_in (i := 596) (by decide +kernel) rfl
theorem mk_Mo_7 : Cond.methodLink "BranchTreesModel" 7 objectInit ∈ zt := zt_in (i := 599) (by decide +kernel) rfl
theorem mk_La_17 : Cond.methodLink "BranchTreesLaw" 17 y_Mo_name ∈ zt := zt_in (i := 694) (by decide +kernel) rfl
theorem mk_Mo_88 : Cond.methodLink "BranchTreesModel" 88 y_Mo_in ∈ zt := zt_in (i := 700) (by decide +kernel) rfl
theorem mk_Mo_106 : Cond.methodLink "BranchTreesModel" 106 y_Mo_problemTold ∈ zt := zt_in (i := 703) (by decide +kernel) rfl
theorem mk_La_21 : Cond.methodLink "BranchTreesLaw" 21 y_Mo_row ∈ zt := zt_in (i := 707) (by decide +kernel) rfl
theorem mk_La_26 : Cond.methodLink "BranchTreesLaw" 26 y_Mo_factor ∈ zt := zt_in (i := 714) (by decide +kernel) rfl
theorem mk_Mo_118 : Cond.methodLink "BranchTreesModel" 118 y_Mo_noName ∈ zt := zt_in (i := 718) (by decide +kernel) rfl
theorem mk_La_30 : Cond.methodLink "BranchTreesLaw" 30 y_Mo_cost ∈ zt := zt_in (i := 724) (by decide +kernel) rfl
theorem mk_La_34 : Cond.methodLink "BranchTreesLaw" 34 y_Mo_alike ∈ zt := zt_in (i := 728) (by decide +kernel) rfl
theorem mk_Mo_130 : Cond.methodLink "BranchTreesModel" 130 y_Mo_areAlike ∈ zt := zt_in (i := 732) (by decide +kernel) rfl
theorem mk_Mo_126 : Cond.methodLink "BranchTreesModel" 126 y_Mo_isOther ∈ zt := zt_in (i := 736) (by decide +kernel) rfl
theorem mk_La_39 : Cond.methodLink "BranchTreesLaw" 39 y_Mo_order ∈ zt := zt_in (i := 740) (by decide +kernel) rfl
theorem mk_La_43 : Cond.methodLink "BranchTreesLaw" 43 y_Mo_rule ∈ zt := zt_in (i := 744) (by decide +kernel) rfl
theorem mk_La_47 : Cond.methodLink "BranchTreesLaw" 47 y_Mo_start ∈ zt := zt_in (i := 749) (by decide +kernel) rfl
theorem mk_La_51 : Cond.methodLink "BranchTreesLaw" 51 y_Mo_offer ∈ zt := zt_in (i := 753) (by decide +kernel) rfl
theorem mk_La_56 : Cond.methodLink "BranchTreesLaw" 56 y_Mo_run ∈ zt := zt_in (i := 757) (by decide +kernel) rfl
theorem mk_Mo_181 : Cond.methodLink "BranchTreesModel" 181 y_Mo_newNode ∈ zt := zt_in (i := 762) (by decide +kernel) rfl
theorem mk_Mo_154 : Cond.methodLink "BranchTreesModel" 154 y_Mo_takeBounds ∈ zt := zt_in (i := 766) (by decide +kernel) rfl
theorem mk_Mo_158 : Cond.methodLink "BranchTreesModel" 158 y_Mo_cut ∈ zt := zt_in (i := 770) (by decide +kernel) rfl
theorem mk_Mo_162 : Cond.methodLink "BranchTreesModel" 162 y_Mo_narrow ∈ zt := zt_in (i := 774) (by decide +kernel) rfl
theorem mk_Mo_150 : Cond.methodLink "BranchTreesModel" 150 y_Mo_keeps ∈ zt := zt_in (i := 778) (by decide +kernel) rfl
theorem mk_Mo_139 : Cond.methodLink "BranchTreesModel" 139 y_Mo_factorOf ∈ zt := zt_in (i := 782) (by decide +kernel) rfl
theorem mk_Mo_143 : Cond.methodLink "BranchTreesModel" 143 y_Mo_leastOf ∈ zt := zt_in (i := 786) (by decide +kernel) rfl
theorem mk_Mo_187 : Cond.methodLink "BranchTreesModel" 187 y_Mo_pick ∈ zt := zt_in (i := 790) (by decide +kernel) rfl
theorem mk_Mo_168 : Cond.methodLink "BranchTreesModel" 168 y_Mo_lower ∈ zt := zt_in (i := 794) (by decide +kernel) rfl
theorem mk_Mo_190 : Cond.methodLink "BranchTreesModel" 190 y_Mo_work ∈ zt := zt_in (i := 798) (by decide +kernel) rfl
theorem mk_Mo_178 : Cond.methodLink "BranchTreesModel" 178 y_Mo_choose ∈ zt := zt_in (i := 802) (by decide +kernel) rfl
theorem mk_Mo_175 : Cond.methodLink "BranchTreesModel" 175 y_Mo_worth ∈ zt := zt_in (i := 806) (by decide +kernel) rfl
theorem mk_Mo_172 : Cond.methodLink "BranchTreesModel" 172 y_Mo_priceOf ∈ zt := zt_in (i := 810) (by decide +kernel) rfl
theorem mk_La_60 : Cond.methodLink "BranchTreesLaw" 60 y_Mo_restart ∈ zt := zt_in (i := 815) (by decide +kernel) rfl
theorem mk_La_64 : Cond.methodLink "BranchTreesLaw" 64 y_Mo_best ∈ zt := zt_in (i := 819) (by decide +kernel) rfl
theorem mk_La_68 : Cond.methodLink "BranchTreesLaw" 68 y_Mo_bound ∈ zt := zt_in (i := 825) (by decide +kernel) rfl
theorem mk_La_72 : Cond.methodLink "BranchTreesLaw" 72 y_Mo_node ∈ zt := zt_in (i := 830) (by decide +kernel) rfl
theorem mk_La_76 : Cond.methodLink "BranchTreesLaw" 76 y_Mo_boundOf ∈ zt := zt_in (i := 834) (by decide +kernel) rfl
theorem mk_La_80 : Cond.methodLink "BranchTreesLaw" 80 y_Mo_price ∈ zt := zt_in (i := 838) (by decide +kernel) rfl
theorem mk_La_84 : Cond.methodLink "BranchTreesLaw" 84 y_Mo_check ∈ zt := zt_in (i := 842) (by decide +kernel) rfl
theorem mk_La_88 : Cond.methodLink "BranchTreesLaw" 88 y_Mo_count ∈ zt := zt_in (i := 846) (by decide +kernel) rfl
theorem mk_Mo_197 : Cond.methodLink "BranchTreesModel" 197 y_Mo_inState ∈ zt := zt_in (i := 850) (by decide +kernel) rfl
theorem ck_La_7 : Cond.classLink "BranchTreesLaw" 7 "BranchTrees" ∈ zt := zt_in (i := 13) (by decide +kernel) rfl
theorem ck_BT_7 : Cond.classLink "BranchTrees" 7 "BranchTrees$Problem" ∈ zt := zt_in (i := 21) (by decide +kernel) rfl
theorem ck_Pb_31 : Cond.classLink "BranchTrees$Problem" 31 "[[I" ∈ zt := zt_in (i := 27) (by decide +kernel) rfl
theorem ck_BT_16 : Cond.classLink "BranchTrees" 16 "BranchTrees$Best" ∈ zt := zt_in (i := 80) (by decide +kernel) rfl
theorem ck_BT_23 : Cond.classLink "BranchTrees" 23 "BranchTrees$Prices" ∈ zt := zt_in (i := 101) (by decide +kernel) rfl
theorem ck_BT_30 : Cond.classLink "BranchTrees" 30 "BranchTrees$Tree" ∈ zt := zt_in (i := 115) (by decide +kernel) rfl
theorem ck_Tr_9 : Cond.classLink "BranchTrees$Tree" 9 "BranchTrees$Node" ∈ zt := zt_in (i := 121) (by decide +kernel) rfl
theorem ck_BT_47 : Cond.classLink "BranchTrees" 47 "BranchTrees$Narrower" ∈ zt := zt_in (i := 139) (by decide +kernel) rfl
theorem ck_BT_52 : Cond.classLink "BranchTrees" 52 "BranchTrees$Search" ∈ zt := zt_in (i := 155) (by decide +kernel) rfl
theorem ck_BT_61 : Cond.classLink "BranchTrees" 61 "BranchTrees$Proof" ∈ zt := zt_in (i := 180) (by decide +kernel) rfl
theorem ck_Pf_9 : Cond.classLink "BranchTrees$Proof" 9 "BranchTrees$Box" ∈ zt := zt_in (i := 186) (by decide +kernel) rfl
theorem ck_Nd_9 : Cond.classLink "BranchTrees$Node" 9 "BranchTrees$Box" ∈ zt := zt_in (i := 376) (by decide +kernel) rfl
theorem co_Pr_19 : Cond.constantLong "BranchTrees$Prices" 19 (16) ∈ zt := zt_in (i := 490) (by decide +kernel) rfl
theorem co_BT_155 : Cond.constant "BranchTrees" 155 (-1000000) ∈ zt := zt_in (i := 536) (by decide +kernel) rfl
theorem co_BT_159 : Cond.constant "BranchTrees" 159 (1000000) ∈ zt := zt_in (i := 541) (by decide +kernel) rfl
theorem ck_La_10 : Cond.classLink "BranchTreesLaw" 10 "BranchTreesModel" ∈ zt := zt_in (i := 594) (by decide +kernel) rfl
theorem co_Mo_102 : Cond.constantLong "BranchTreesModel" 102 (-50) ∈ zt := zt_in (i := 698) (by decide +kernel) rfl
theorem co_Mo_104 : Cond.constantLong "BranchTreesModel" 104 (50) ∈ zt := zt_in (i := 699) (by decide +kernel) rfl
theorem co_Mo_109 : Cond.constantLong "BranchTreesModel" 109 (2) ∈ zt := zt_in (i := 711) (by decide +kernel) rfl
theorem co_Mo_111 : Cond.constantLong "BranchTreesModel" 111 (-1000) ∈ zt := zt_in (i := 712) (by decide +kernel) rfl
theorem co_Mo_113 : Cond.constantLong "BranchTreesModel" 113 (1000) ∈ zt := zt_in (i := 713) (by decide +kernel) rfl
theorem co_Mo_122 : Cond.constantLong "BranchTreesModel" 122 (-20) ∈ zt := zt_in (i := 722) (by decide +kernel) rfl
theorem co_Mo_124 : Cond.constantLong "BranchTreesModel" 124 (20) ∈ zt := zt_in (i := 723) (by decide +kernel) rfl
theorem co_Mo_134 : Cond.constantLong "BranchTreesModel" 134 (3) ∈ zt := zt_in (i := 748) (by decide +kernel) rfl
theorem co_Mo_185 : Cond.constantLong "BranchTreesModel" 185 (300) ∈ zt := zt_in (i := 761) (by decide +kernel) rfl
theorem co_Mo_166 : Cond.constantLong "BranchTreesModel" 166 (16) ∈ zt := zt_in (i := 814) (by decide +kernel) rfl
theorem co_Mo_193 : Cond.constantLong "BranchTreesModel" 193 (-1) ∈ zt := zt_in (i := 823) (by decide +kernel) rfl
theorem co_Mo_195 : Cond.constant "BranchTreesModel" 195 (-1000000) ∈ zt := zt_in (i := 824) (by decide +kernel) rfl
theorem co_Mo_196 : Cond.constant "BranchTreesModel" 196 (1000000) ∈ zt := zt_in (i := 829) (by decide +kernel) rfl
theorem ac_int : Cond.arrayClass .int ∈ zt := zt_in (i := 78) (by decide +kernel) rfl
theorem ac_boolean : Cond.arrayClass .boolean ∈ zt := zt_in (i := 79) (by decide +kernel) rfl
theorem ac_long : Cond.arrayClass .long ∈ zt := zt_in (i := 114) (by decide +kernel) rfl
theorem ao_ii : Cond.arrayOver (.array .int) ∈ lw_tbl := zt_in0 (i := 28) (by decide +kernel)
theorem ao_nd : Cond.arrayOver (.object "BranchTrees$Node") ∈ lw_tbl := zt_in0 (i := 122) (by decide +kernel)
theorem cd_obj : Cond.code objectInit object_method_1_code 1 none ∈ zt := zt_in (i := 20) (by decide +kernel) rfl
theorem im_obj : Cond.instanceMethod objectInit ∈ zt := zt_in (i := 19) (by decide +kernel) rfl
def zn : List (String × Nat × MethodName × String) := [("BranchTrees", 9, y_Pb_init, "BranchTrees"), ("BranchTrees", 18, y_Be_init, "BranchTrees"), ("BranchTrees", 25, y_Pr_init, "BranchTrees"), ("BranchTrees", 32, y_Tr_init, "BranchTrees"), ("BranchTrees$Proof", 11, y_Bx_init, "BranchTrees"), ("BranchTrees$Node", 11, y_Bx_init, "BranchTrees")]
