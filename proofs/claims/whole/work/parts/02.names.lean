-- names: classes, their fields, the methods; written by wip/whole/gen/names.py out of the printed claim
def RX0 : String := "RockingGuard$Ears"
def TX0 : u_T := fun k => match k with
  | 0 => ("RockingGuard$Ears", "due", "[I", true)
  | 1 => ("RockingGuard$Ears", "sets", "[I", true)
  | _ => ("RockingGuard$Ears", "found", "I", false)
def tyX0 : Nat → FieldType := fun k => match k with
  | 0 => .array .int
  | 1 => .array .int
  | _ => .int
theorem nmX0 : ∀ a, a < 3 → ∀ b, b < 3 → a ≠ b → (TX0 a).2.1 ≠ (TX0 b).2.1 := by decide +kernel
theorem tyX0_ok : ∀ k, k < 3 → parseFieldDescriptor (TX0 k).2.2.1 = some (tyX0 k) := by decide +kernel
def RX1 : String := "RockingGuard$Judge"
def TX1 : u_T := fun k => match k with
  | 0 => ("RockingGuard$Judge", "stack", "[I", true)
  | _ => ("RockingGuard$Judge", "names", "[I", true)
def tyX1 : Nat → FieldType := fun k => match k with
  | 0 => .array .int
  | _ => .array .int
theorem nmX1 : ∀ a, a < 2 → ∀ b, b < 2 → a ≠ b → (TX1 a).2.1 ≠ (TX1 b).2.1 := by decide +kernel
theorem tyX1_ok : ∀ k, k < 2 → parseFieldDescriptor (TX1 k).2.2.1 = some (tyX1 k) := by decide +kernel
def RX3 : String := "RockingGuard$Reader"
def TX3 : u_T := fun k => match k with
  | 0 => ("RockingGuard$Reader", "tape", "[I", true)
  | 1 => ("RockingGuard$Reader", "bytes", "I", false)
  | 2 => ("RockingGuard$Reader", "kinds", "[I", true)
  | 3 => ("RockingGuard$Reader", "places", "[I", true)
  | 4 => ("RockingGuard$Reader", "values", "[I", true)
  | 5 => ("RockingGuard$Reader", "tokens", "I", false)
  | 6 => ("RockingGuard$Reader", "at", "I", false)
  | 7 => ("RockingGuard$Reader", "law", "I", false)
  | 8 => ("RockingGuard$Reader", "draft", "LRockingGuard$Script;", false)
  | 9 => ("RockingGuard$Reader", "hasRead", "Z", false)
  | 10 => ("RockingGuard$Reader", "fault", "I", false)
  | _ => ("RockingGuard$Reader", "place", "I", false)
def tyX3 : Nat → FieldType := fun k => match k with
  | 0 => .array .int
  | 1 => .int
  | 2 => .array .int
  | 3 => .array .int
  | 4 => .array .int
  | 5 => .int
  | 6 => .int
  | 7 => .int
  | 8 => .object "RockingGuard$Script"
  | 9 => .boolean
  | 10 => .int
  | _ => .int
theorem nmX3 : ∀ a, a < 12 → ∀ b, b < 12 → a ≠ b → (TX3 a).2.1 ≠ (TX3 b).2.1 := by decide +kernel
theorem tyX3_ok : ∀ k, k < 12 → parseFieldDescriptor (TX3 k).2.2.1 = some (tyX3 k) := by decide +kernel
def RX4 : String := "RockingGuard$Roster"
def TX4 : u_T := fun k => match k with
  | 0 => ("RockingGuard$Roster", "most", "[I", true)
  | _ => ("RockingGuard$Roster", "boyOf", "[I", true)
def tyX4 : Nat → FieldType := fun k => match k with
  | 0 => .array .int
  | _ => .array .int
theorem nmX4 : ∀ a, a < 2 → ∀ b, b < 2 → a ≠ b → (TX4 a).2.1 ≠ (TX4 b).2.1 := by decide +kernel
theorem tyX4_ok : ∀ k, k < 2 → parseFieldDescriptor (TX4 k).2.2.1 = some (tyX4 k) := by decide +kernel
def RX5 : String := "RockingGuard$Script"
def TX5 : u_T := fun k => match k with
  | 0 => ("RockingGuard$Script", "orders", "[I", true)
  | 1 => ("RockingGuard$Script", "operands", "[I", true)
  | 2 => ("RockingGuard$Script", "length", "I", false)
  | 3 => ("RockingGuard$Script", "starts", "[I", true)
  | 4 => ("RockingGuard$Script", "ends", "[I", true)
  | 5 => ("RockingGuard$Script", "kinds", "[I", true)
  | 6 => ("RockingGuard$Script", "firsts", "[I", true)
  | 7 => ("RockingGuard$Script", "seconds", "[I", true)
  | _ => ("RockingGuard$Script", "clauses", "I", false)
def tyX5 : Nat → FieldType := fun k => match k with
  | 0 => .array .int
  | 1 => .array .int
  | 2 => .int
  | 3 => .array .int
  | 4 => .array .int
  | 5 => .array .int
  | 6 => .array .int
  | 7 => .array .int
  | _ => .int
theorem nmX5 : ∀ a, a < 9 → ∀ b, b < 9 → a ≠ b → (TX5 a).2.1 ≠ (TX5 b).2.1 := by decide +kernel
theorem tyX5_ok : ∀ k, k < 9 → parseFieldDescriptor (TX5 k).2.2.1 = some (tyX5 k) := by decide +kernel
def RX6 : String := "RockingGuard$Steps"
def TX6 : u_T := fun k => match k with
  | 0 => ("RockingGuard$Steps", "rows", "[[I", true)
  | 1 => ("RockingGuard$Steps", "first", "I", false)
  | _ => ("RockingGuard$Steps", "count", "I", false)
def tyX6 : Nat → FieldType := fun k => match k with
  | 0 => .array (.array .int)
  | 1 => .int
  | _ => .int
theorem nmX6 : ∀ a, a < 3 → ∀ b, b < 3 → a ≠ b → (TX6 a).2.1 ≠ (TX6 b).2.1 := by decide +kernel
theorem tyX6_ok : ∀ k, k < 3 → parseFieldDescriptor (TX6 k).2.2.1 = some (tyX6 k) := by decide +kernel
def RX7 : String := "RockingGuard$Terrace"
def TX7 : u_T := fun k => match k with
  | 0 => ("RockingGuard$Terrace", "row", "[I", true)
  | 1 => ("RockingGuard$Terrace", "beats", "[I", true)
  | 2 => ("RockingGuard$Terrace", "sizes", "[I", true)
  | _ => ("RockingGuard$Terrace", "limit", "I", false)
def tyX7 : Nat → FieldType := fun k => match k with
  | 0 => .array .int
  | 1 => .array .int
  | 2 => .array .int
  | _ => .int
theorem nmX7 : ∀ a, a < 4 → ∀ b, b < 4 → a ≠ b → (TX7 a).2.1 ≠ (TX7 b).2.1 := by decide +kernel
theorem tyX7_ok : ∀ k, k < 4 → parseFieldDescriptor (TX7 k).2.2.1 = some (tyX7 k) := by decide +kernel
def RX8 : String := "RockingGuard$Told"
def TX8 : u_T := fun k => match k with
  | 0 => ("RockingGuard$Told", "firsts", "[I", true)
  | 1 => ("RockingGuard$Told", "seconds", "[I", true)
  | 2 => ("RockingGuard$Told", "thirds", "[I", true)
  | 3 => ("RockingGuard$Told", "most", "I", true)
  | _ => ("RockingGuard$Told", "count", "I", false)
def tyX8 : Nat → FieldType := fun k => match k with
  | 0 => .array .int
  | 1 => .array .int
  | 2 => .array .int
  | 3 => .int
  | _ => .int
theorem nmX8 : ∀ a, a < 5 → ∀ b, b < 5 → a ≠ b → (TX8 a).2.1 ≠ (TX8 b).2.1 := by decide +kernel
theorem tyX8_ok : ∀ k, k < 5 → parseFieldDescriptor (TX8 k).2.2.1 = some (tyX8 k) := by decide +kernel
def RX9 : String := "RockingGuard$World"
def TX9 : u_T := fun k => match k with
  | 0 => ("RockingGuard$World", "terrace", "LRockingGuard$Terrace;", true)
  | 1 => ("RockingGuard$World", "steps", "LRockingGuard$Steps;", true)
  | 2 => ("RockingGuard$World", "heard", "LRockingGuard$Told;", true)
  | 3 => ("RockingGuard$World", "watches", "LRockingGuard$Told;", true)
  | 4 => ("RockingGuard$World", "hauls", "LRockingGuard$Told;", true)
  | 5 => ("RockingGuard$World", "counted", "LRockingGuard$Told;", true)
  | 6 => ("RockingGuard$World", "texts", "I", false)
  | _ => ("RockingGuard$World", "ruling", "I", false)
def tyX9 : Nat → FieldType := fun k => match k with
  | 0 => .object "RockingGuard$Terrace"
  | 1 => .object "RockingGuard$Steps"
  | 2 => .object "RockingGuard$Told"
  | 3 => .object "RockingGuard$Told"
  | 4 => .object "RockingGuard$Told"
  | 5 => .object "RockingGuard$Told"
  | 6 => .int
  | _ => .int
theorem nmX9 : ∀ a, a < 8 → ∀ b, b < 8 → a ≠ b → (TX9 a).2.1 ≠ (TX9 b).2.1 := by decide +kernel
theorem tyX9_ok : ∀ k, k < 8 → parseFieldDescriptor (TX9 k).2.2.1 = some (tyX9 k) := by decide +kernel
def RX10 : String := "RockingGuard"
def TX10 : u_T := fun k => match k with
  | 0 => ("RockingGuard", "now", "LRockingGuard$World;", true)
  | 1 => ("RockingGuard", "kept", "LRockingGuard$World;", true)
  | 2 => ("RockingGuard", "scripts", "[LRockingGuard$Script;", true)
  | 3 => ("RockingGuard", "reader", "LRockingGuard$Reader;", true)
  | 4 => ("RockingGuard", "judge", "LRockingGuard$Judge;", true)
  | 5 => ("RockingGuard", "trial", "LRockingGuard$Terrace;", true)
  | 6 => ("RockingGuard", "ears", "LRockingGuard$Ears;", true)
  | _ => ("RockingGuard", "roster", "LRockingGuard$Roster;", true)
def tyX10 : Nat → FieldType := fun k => match k with
  | 0 => .object "RockingGuard$World"
  | 1 => .object "RockingGuard$World"
  | 2 => .array (.object "RockingGuard$Script")
  | 3 => .object "RockingGuard$Reader"
  | 4 => .object "RockingGuard$Judge"
  | 5 => .object "RockingGuard$Terrace"
  | 6 => .object "RockingGuard$Ears"
  | _ => .object "RockingGuard$Roster"
theorem nmX10 : ∀ a, a < 8 → ∀ b, b < 8 → a ≠ b → (TX10 a).2.1 ≠ (TX10 b).2.1 := by decide +kernel
theorem tyX10_ok : ∀ k, k < 8 → parseFieldDescriptor (TX10 k).2.2.1 = some (tyX10 k) := by decide +kernel
def RX11 : String := "RockingGuardModel"
def TX11 : u_T := fun k => match k with
  | 0 => ("RockingGuardModel", "a", "[I", true)
  | 1 => ("RockingGuardModel", "image", "[I", true)
  | 2 => ("RockingGuardModel", "texts", "[I", true)
  | 3 => ("RockingGuardModel", "tape", "[I", true)
  | 4 => ("RockingGuardModel", "taped", "I", false)
  | 5 => ("RockingGuardModel", "fault", "I", false)
  | 6 => ("RockingGuardModel", "faultPlace", "I", false)
  | 7 => ("RockingGuardModel", "at", "I", false)
  | 8 => ("RockingGuardModel", "place", "I", false)
  | 9 => ("RockingGuardModel", "token", "I", false)
  | 10 => ("RockingGuardModel", "number", "I", false)
  | 11 => ("RockingGuardModel", "word", "J", false)
  | 12 => ("RockingGuardModel", "text0", "I", false)
  | 13 => ("RockingGuardModel", "written", "I", false)
  | 14 => ("RockingGuardModel", "sort0", "I", false)
  | 15 => ("RockingGuardModel", "pile", "[I", true)
  | 16 => ("RockingGuardModel", "piled", "I", false)
  | 17 => ("RockingGuardModel", "opens", "I", false)
  | 18 => ("RockingGuardModel", "isWhole", "Z", false)
  | 19 => ("RockingGuardModel", "once", "I", false)
  | 20 => ("RockingGuardModel", "named", "[I", true)
  | 21 => ("RockingGuardModel", "values", "[J", true)
  | 22 => ("RockingGuardModel", "truth", "[Z", true)
  | 23 => ("RockingGuardModel", "isWritten", "Z", false)
  | 24 => ("RockingGuardModel", "slides", "I", false)
  | 25 => ("RockingGuardModel", "more", "[I", true)
  | 26 => ("RockingGuardModel", "aside", "[I", true)
  | 27 => ("RockingGuardModel", "fits", "[Z", true)
  | _ => ("RockingGuardModel", "canBe", "[I", true)
def tyX11 : Nat → FieldType := fun k => match k with
  | 0 => .array .int
  | 1 => .array .int
  | 2 => .array .int
  | 3 => .array .int
  | 4 => .int
  | 5 => .int
  | 6 => .int
  | 7 => .int
  | 8 => .int
  | 9 => .int
  | 10 => .int
  | 11 => .long
  | 12 => .int
  | 13 => .int
  | 14 => .int
  | 15 => .array .int
  | 16 => .int
  | 17 => .int
  | 18 => .boolean
  | 19 => .int
  | 20 => .array .int
  | 21 => .array .long
  | 22 => .array .boolean
  | 23 => .boolean
  | 24 => .int
  | 25 => .array .int
  | 26 => .array .int
  | 27 => .array .boolean
  | _ => .array .int
theorem nmX11 : ∀ a, a < 29 → ∀ b, b < 29 → a ≠ b → (TX11 a).2.1 ≠ (TX11 b).2.1 := by decide +kernel
theorem tyX11_ok : ∀ k, k < 29 → parseFieldDescriptor (TX11 k).2.2.1 = some (tyX11 k) := by decide +kernel
def cl0 : List vw_C := [(RX0, TX0, 3), (RX1, TX1, 2), (RX3, TX3, 12), (RX4, TX4, 2), (RX5, TX5, 9), (RX6, TX6, 3), (RX7, TX7, 4), (RX8, TX8, 5), (RX9, TX9, 8), (RX10, TX10, 8), (RX11, TX11, 29)]
def clT : List (Nat → FieldType) := [tyX0, tyX1, tyX3, tyX4, tyX5, tyX6, tyX7, tyX8, tyX9, tyX10, tyX11]
/-- the words of the tables that a callee may be given -/
def tb : List Cond := lw_tbl.filter goodWord
theorem tb_1 {w : Cond} (h : w ∈ tables_1_1) (hg : goodWord w = true) : w ∈ tb := List.mem_filter.mpr ⟨List.mem_append_right _ (List.mem_append_left _ h), hg⟩
theorem tb_2 {w : Cond} (h : w ∈ tables_1_2) (hg : goodWord w = true) : w ∈ tb := List.mem_filter.mpr ⟨List.mem_append_right _ (List.mem_append_right _ (List.mem_append_left _ h)), hg⟩
theorem tb_3 {w : Cond} (h : w ∈ tables_1_3) (hg : goodWord w = true) : w ∈ tb := List.mem_filter.mpr ⟨List.mem_append_right _ (List.mem_append_right _ (List.mem_append_right _ (List.mem_append_left _ h))), hg⟩
theorem tb_4 {w : Cond} (h : w ∈ tables_1_4) (hg : goodWord w = true) : w ∈ tb := List.mem_filter.mpr ⟨List.mem_append_right _ (List.mem_append_right _ (List.mem_append_right _ (List.mem_append_right _ (List.mem_append_left _ h)))), hg⟩
theorem tb_5 {w : Cond} (h : w ∈ tables_1_5) (hg : goodWord w = true) : w ∈ tb := List.mem_filter.mpr ⟨List.mem_append_right _ (List.mem_append_right _ (List.mem_append_right _ (List.mem_append_right _ (List.mem_append_right _ (List.mem_append_left _ h))))), hg⟩
theorem tb_6 {w : Cond} (h : w ∈ tables_1_6) (hg : goodWord w = true) : w ∈ tb := List.mem_filter.mpr ⟨List.mem_append_right _ (List.mem_append_right _ (List.mem_append_right _ (List.mem_append_right _ (List.mem_append_right _ (List.mem_append_right _ (List.mem_append_left _ h)))))), hg⟩
theorem tb_7 {w : Cond} (h : w ∈ tables_1_7) (hg : goodWord w = true) : w ∈ tb := List.mem_filter.mpr ⟨List.mem_append_right _ (List.mem_append_right _ (List.mem_append_right _ (List.mem_append_right _ (List.mem_append_right _ (List.mem_append_right _ (List.mem_append_right _ (List.mem_append_left _ h))))))), hg⟩
theorem tb_8 {w : Cond} (h : w ∈ tables_1_8) (hg : goodWord w = true) : w ∈ tb := List.mem_filter.mpr ⟨List.mem_append_right _ (List.mem_append_right _ (List.mem_append_right _ (List.mem_append_right _ (List.mem_append_right _ (List.mem_append_right _ (List.mem_append_right _ (List.mem_append_right _ (h)))))))), hg⟩
theorem tb_p {q : MethodName × Nat} (h : q ∈ lw_privs) : Cond.selects q.1.cls q.1 q.1 ∈ tb := List.mem_filter.mpr ⟨List.mem_append_left _ (List.mem_map.mpr ⟨q, h, rfl⟩), rfl⟩
theorem inX0 : ∀ w ∈ u_ws RX0 TX0 3, w ∈ tb := by
  intro w hw
  simp only [u_ws, List.mem_map, List.mem_range] at hw
  obtain ⟨k, hk, rfl⟩ := hw
  match k, hk with
  | 0, _ => exact tb_2 (List.mem_of_getElem? (i := 12) (by decide +kernel)) rfl
  | 1, _ => exact tb_2 (List.mem_of_getElem? (i := 14) (by decide +kernel)) rfl
  | 2, _ => exact tb_2 (List.mem_of_getElem? (i := 16) (by decide +kernel)) rfl
  | k + 3, hk => exact absurd hk (by omega)
theorem inX1 : ∀ w ∈ u_ws RX1 TX1 2, w ∈ tb := by
  intro w hw
  simp only [u_ws, List.mem_map, List.mem_range] at hw
  obtain ⟨k, hk, rfl⟩ := hw
  match k, hk with
  | 0, _ => exact tb_1 (List.mem_of_getElem? (i := 235) (by decide +kernel)) rfl
  | 1, _ => exact tb_1 (List.mem_of_getElem? (i := 237) (by decide +kernel)) rfl
  | k + 2, hk => exact absurd hk (by omega)
theorem inX3 : ∀ w ∈ u_ws RX3 TX3 12, w ∈ tb := by
  intro w hw
  simp only [u_ws, List.mem_map, List.mem_range] at hw
  obtain ⟨k, hk, rfl⟩ := hw
  match k, hk with
  | 0, _ => exact tb_1 (List.mem_of_getElem? (i := 202) (by decide +kernel)) rfl
  | 1, _ => exact tb_1 (List.mem_of_getElem? (i := 204) (by decide +kernel)) rfl
  | 2, _ => exact tb_1 (List.mem_of_getElem? (i := 206) (by decide +kernel)) rfl
  | 3, _ => exact tb_1 (List.mem_of_getElem? (i := 208) (by decide +kernel)) rfl
  | 4, _ => exact tb_1 (List.mem_of_getElem? (i := 210) (by decide +kernel)) rfl
  | 5, _ => exact tb_1 (List.mem_of_getElem? (i := 212) (by decide +kernel)) rfl
  | 6, _ => exact tb_1 (List.mem_of_getElem? (i := 214) (by decide +kernel)) rfl
  | 7, _ => exact tb_1 (List.mem_of_getElem? (i := 216) (by decide +kernel)) rfl
  | 8, _ => exact tb_1 (List.mem_of_getElem? (i := 218) (by decide +kernel)) rfl
  | 9, _ => exact tb_1 (List.mem_of_getElem? (i := 220) (by decide +kernel)) rfl
  | 10, _ => exact tb_1 (List.mem_of_getElem? (i := 222) (by decide +kernel)) rfl
  | 11, _ => exact tb_1 (List.mem_of_getElem? (i := 224) (by decide +kernel)) rfl
  | k + 12, hk => exact absurd hk (by omega)
theorem inX4 : ∀ w ∈ u_ws RX4 TX4 2, w ∈ tb := by
  intro w hw
  simp only [u_ws, List.mem_map, List.mem_range] at hw
  obtain ⟨k, hk, rfl⟩ := hw
  match k, hk with
  | 0, _ => exact tb_2 (List.mem_of_getElem? (i := 27) (by decide +kernel)) rfl
  | 1, _ => exact tb_2 (List.mem_of_getElem? (i := 29) (by decide +kernel)) rfl
  | k + 2, hk => exact absurd hk (by omega)
theorem inX5 : ∀ w ∈ u_ws RX5 TX5 9, w ∈ tb := by
  intro w hw
  simp only [u_ws, List.mem_map, List.mem_range] at hw
  obtain ⟨k, hk, rfl⟩ := hw
  match k, hk with
  | 0, _ => exact tb_1 (List.mem_of_getElem? (i := 166) (by decide +kernel)) rfl
  | 1, _ => exact tb_1 (List.mem_of_getElem? (i := 168) (by decide +kernel)) rfl
  | 2, _ => exact tb_1 (List.mem_of_getElem? (i := 170) (by decide +kernel)) rfl
  | 3, _ => exact tb_1 (List.mem_of_getElem? (i := 172) (by decide +kernel)) rfl
  | 4, _ => exact tb_1 (List.mem_of_getElem? (i := 174) (by decide +kernel)) rfl
  | 5, _ => exact tb_1 (List.mem_of_getElem? (i := 176) (by decide +kernel)) rfl
  | 6, _ => exact tb_1 (List.mem_of_getElem? (i := 178) (by decide +kernel)) rfl
  | 7, _ => exact tb_1 (List.mem_of_getElem? (i := 180) (by decide +kernel)) rfl
  | 8, _ => exact tb_1 (List.mem_of_getElem? (i := 182) (by decide +kernel)) rfl
  | k + 9, hk => exact absurd hk (by omega)
theorem inX6 : ∀ w ∈ u_ws RX6 TX6 3, w ∈ tb := by
  intro w hw
  simp only [u_ws, List.mem_map, List.mem_range] at hw
  obtain ⟨k, hk, rfl⟩ := hw
  match k, hk with
  | 0, _ => exact tb_1 (List.mem_of_getElem? (i := 69) (by decide +kernel)) rfl
  | 1, _ => exact tb_1 (List.mem_of_getElem? (i := 71) (by decide +kernel)) rfl
  | 2, _ => exact tb_1 (List.mem_of_getElem? (i := 73) (by decide +kernel)) rfl
  | k + 3, hk => exact absurd hk (by omega)
theorem inX7 : ∀ w ∈ u_ws RX7 TX7 4, w ∈ tb := by
  intro w hw
  simp only [u_ws, List.mem_map, List.mem_range] at hw
  obtain ⟨k, hk, rfl⟩ := hw
  match k, hk with
  | 0, _ => exact tb_1 (List.mem_of_getElem? (i := 47) (by decide +kernel)) rfl
  | 1, _ => exact tb_1 (List.mem_of_getElem? (i := 49) (by decide +kernel)) rfl
  | 2, _ => exact tb_1 (List.mem_of_getElem? (i := 51) (by decide +kernel)) rfl
  | 3, _ => exact tb_1 (List.mem_of_getElem? (i := 53) (by decide +kernel)) rfl
  | k + 4, hk => exact absurd hk (by omega)
theorem inX8 : ∀ w ∈ u_ws RX8 TX8 5, w ∈ tb := by
  intro w hw
  simp only [u_ws, List.mem_map, List.mem_range] at hw
  obtain ⟨k, hk, rfl⟩ := hw
  match k, hk with
  | 0, _ => exact tb_1 (List.mem_of_getElem? (i := 93) (by decide +kernel)) rfl
  | 1, _ => exact tb_1 (List.mem_of_getElem? (i := 95) (by decide +kernel)) rfl
  | 2, _ => exact tb_1 (List.mem_of_getElem? (i := 97) (by decide +kernel)) rfl
  | 3, _ => exact tb_1 (List.mem_of_getElem? (i := 99) (by decide +kernel)) rfl
  | 4, _ => exact tb_1 (List.mem_of_getElem? (i := 101) (by decide +kernel)) rfl
  | k + 5, hk => exact absurd hk (by omega)
theorem inX9 : ∀ w ∈ u_ws RX9 TX9 8, w ∈ tb := by
  intro w hw
  simp only [u_ws, List.mem_map, List.mem_range] at hw
  obtain ⟨k, hk, rfl⟩ := hw
  match k, hk with
  | 0, _ => exact tb_1 (List.mem_of_getElem? (i := 120) (by decide +kernel)) rfl
  | 1, _ => exact tb_1 (List.mem_of_getElem? (i := 122) (by decide +kernel)) rfl
  | 2, _ => exact tb_1 (List.mem_of_getElem? (i := 124) (by decide +kernel)) rfl
  | 3, _ => exact tb_1 (List.mem_of_getElem? (i := 126) (by decide +kernel)) rfl
  | 4, _ => exact tb_1 (List.mem_of_getElem? (i := 128) (by decide +kernel)) rfl
  | 5, _ => exact tb_1 (List.mem_of_getElem? (i := 130) (by decide +kernel)) rfl
  | 6, _ => exact tb_1 (List.mem_of_getElem? (i := 132) (by decide +kernel)) rfl
  | 7, _ => exact tb_1 (List.mem_of_getElem? (i := 134) (by decide +kernel)) rfl
  | k + 8, hk => exact absurd hk (by omega)
theorem inX10 : ∀ w ∈ u_ws RX10 TX10 8, w ∈ tb := by
  intro w hw
  simp only [u_ws, List.mem_map, List.mem_range] at hw
  obtain ⟨k, hk, rfl⟩ := hw
  match k, hk with
  | 0, _ => exact tb_2 (List.mem_of_getElem? (i := 41) (by decide +kernel)) rfl
  | 1, _ => exact tb_2 (List.mem_of_getElem? (i := 43) (by decide +kernel)) rfl
  | 2, _ => exact tb_2 (List.mem_of_getElem? (i := 45) (by decide +kernel)) rfl
  | 3, _ => exact tb_2 (List.mem_of_getElem? (i := 47) (by decide +kernel)) rfl
  | 4, _ => exact tb_2 (List.mem_of_getElem? (i := 49) (by decide +kernel)) rfl
  | 5, _ => exact tb_2 (List.mem_of_getElem? (i := 51) (by decide +kernel)) rfl
  | 6, _ => exact tb_2 (List.mem_of_getElem? (i := 53) (by decide +kernel)) rfl
  | 7, _ => exact tb_2 (List.mem_of_getElem? (i := 55) (by decide +kernel)) rfl
  | k + 8, hk => exact absurd hk (by omega)
theorem inX11 : ∀ w ∈ u_ws RX11 TX11 29, w ∈ tb := by
  intro w hw
  simp only [u_ws, List.mem_map, List.mem_range] at hw
  obtain ⟨k, hk, rfl⟩ := hw
  match k, hk with
  | 0, _ => exact tb_5 (List.mem_of_getElem? (i := 225) (by decide +kernel)) rfl
  | 1, _ => exact tb_5 (List.mem_of_getElem? (i := 227) (by decide +kernel)) rfl
  | 2, _ => exact tb_5 (List.mem_of_getElem? (i := 229) (by decide +kernel)) rfl
  | 3, _ => exact tb_5 (List.mem_of_getElem? (i := 231) (by decide +kernel)) rfl
  | 4, _ => exact tb_5 (List.mem_of_getElem? (i := 233) (by decide +kernel)) rfl
  | 5, _ => exact tb_5 (List.mem_of_getElem? (i := 235) (by decide +kernel)) rfl
  | 6, _ => exact tb_5 (List.mem_of_getElem? (i := 237) (by decide +kernel)) rfl
  | 7, _ => exact tb_5 (List.mem_of_getElem? (i := 239) (by decide +kernel)) rfl
  | 8, _ => exact tb_6 (List.mem_of_getElem? (i := 1) (by decide +kernel)) rfl
  | 9, _ => exact tb_6 (List.mem_of_getElem? (i := 3) (by decide +kernel)) rfl
  | 10, _ => exact tb_6 (List.mem_of_getElem? (i := 5) (by decide +kernel)) rfl
  | 11, _ => exact tb_6 (List.mem_of_getElem? (i := 7) (by decide +kernel)) rfl
  | 12, _ => exact tb_6 (List.mem_of_getElem? (i := 9) (by decide +kernel)) rfl
  | 13, _ => exact tb_6 (List.mem_of_getElem? (i := 11) (by decide +kernel)) rfl
  | 14, _ => exact tb_6 (List.mem_of_getElem? (i := 13) (by decide +kernel)) rfl
  | 15, _ => exact tb_6 (List.mem_of_getElem? (i := 15) (by decide +kernel)) rfl
  | 16, _ => exact tb_6 (List.mem_of_getElem? (i := 17) (by decide +kernel)) rfl
  | 17, _ => exact tb_6 (List.mem_of_getElem? (i := 19) (by decide +kernel)) rfl
  | 18, _ => exact tb_6 (List.mem_of_getElem? (i := 21) (by decide +kernel)) rfl
  | 19, _ => exact tb_6 (List.mem_of_getElem? (i := 23) (by decide +kernel)) rfl
  | 20, _ => exact tb_6 (List.mem_of_getElem? (i := 25) (by decide +kernel)) rfl
  | 21, _ => exact tb_6 (List.mem_of_getElem? (i := 27) (by decide +kernel)) rfl
  | 22, _ => exact tb_6 (List.mem_of_getElem? (i := 29) (by decide +kernel)) rfl
  | 23, _ => exact tb_6 (List.mem_of_getElem? (i := 31) (by decide +kernel)) rfl
  | 24, _ => exact tb_6 (List.mem_of_getElem? (i := 33) (by decide +kernel)) rfl
  | 25, _ => exact tb_6 (List.mem_of_getElem? (i := 35) (by decide +kernel)) rfl
  | 26, _ => exact tb_6 (List.mem_of_getElem? (i := 37) (by decide +kernel)) rfl
  | 27, _ => exact tb_6 (List.mem_of_getElem? (i := 39) (by decide +kernel)) rfl
  | 28, _ => exact tb_6 (List.mem_of_getElem? (i := 41) (by decide +kernel)) rfl
  | k + 29, hk => exact absurd hk (by omega)
theorem cl_in : ∀ (ci : Nat) (r : vw_C), cl0[ci]? = some r → ∀ w ∈ u_ws r.1 r.2.1 r.2.2, w ∈ tb := by
  intro ci r h
  match ci, h with
  | 0, h => cases h; exact inX0
  | 1, h => cases h; exact inX1
  | 2, h => cases h; exact inX3
  | 3, h => cases h; exact inX4
  | 4, h => cases h; exact inX5
  | 5, h => cases h; exact inX6
  | 6, h => cases h; exact inX7
  | 7, h => cases h; exact inX8
  | 8, h => cases h; exact inX9
  | 9, h => cases h; exact inX10
  | 10, h => cases h; exact inX11
  | k + 11, h => simp [cl0] at h
theorem cl_nm : ∀ (ci : Nat) (r : vw_C), cl0[ci]? = some r → ∀ a, a < r.2.2 → ∀ b, b < r.2.2 → a ≠ b → (r.2.1 a).2.1 ≠ (r.2.1 b).2.1 := by
  intro ci r h
  match ci, h with
  | 0, h => cases h; exact nmX0
  | 1, h => cases h; exact nmX1
  | 2, h => cases h; exact nmX3
  | 3, h => cases h; exact nmX4
  | 4, h => cases h; exact nmX5
  | 5, h => cases h; exact nmX6
  | 6, h => cases h; exact nmX7
  | 7, h => cases h; exact nmX8
  | 8, h => cases h; exact nmX9
  | 9, h => cases h; exact nmX10
  | 10, h => cases h; exact nmX11
  | k + 11, h => simp [cl0] at h
theorem cl_ty : ∀ (ci : Nat) (r : vw_C), cl0[ci]? = some r → ∃ t, clT[ci]? = some t ∧ ∀ k, k < r.2.2 → parseFieldDescriptor (r.2.1 k).2.2.1 = some (t k) := by
  intro ci r h
  match ci, h with
  | 0, h => cases h; exact ⟨_, rfl, tyX0_ok⟩
  | 1, h => cases h; exact ⟨_, rfl, tyX1_ok⟩
  | 2, h => cases h; exact ⟨_, rfl, tyX3_ok⟩
  | 3, h => cases h; exact ⟨_, rfl, tyX4_ok⟩
  | 4, h => cases h; exact ⟨_, rfl, tyX5_ok⟩
  | 5, h => cases h; exact ⟨_, rfl, tyX6_ok⟩
  | 6, h => cases h; exact ⟨_, rfl, tyX7_ok⟩
  | 7, h => cases h; exact ⟨_, rfl, tyX8_ok⟩
  | 8, h => cases h; exact ⟨_, rfl, tyX9_ok⟩
  | 9, h => cases h; exact ⟨_, rfl, tyX10_ok⟩
  | 10, h => cases h; exact ⟨_, rfl, tyX11_ok⟩
  | k + 11, h => simp [cl0] at h
/-- a method: its name, code, locals, answer, class, number of arguments (this aside) -/
abbrev MU : Type := MethodName × ByteArray × Nat × Option FieldType × Nat × Nat
abbrev mY (μ : MU) : MethodName := μ.1
abbrev mB (μ : MU) : ByteArray := μ.2.1
abbrev mL (μ : MU) : Nat := μ.2.2.1
abbrev mR (μ : MU) : Option FieldType := μ.2.2.2.1
abbrev mC (μ : MU) : Nat := μ.2.2.2.2.1
abbrev mN (μ : MU) : Nat := μ.2.2.2.2.2
abbrev mO (μ : MU) : String := μ.1.cls
def mX0_init : MU := (⟨"RockingGuard$Ears", "<init>", "()V"⟩, prog_2_method_1_code, 1, none, 0, 0)
def mX0_markDue : MU := (⟨"RockingGuard$Ears", "markDue", "(LRockingGuard$Terrace;I)V"⟩, prog_2_method_2_code, 4, none, 0, 2)
def mX0_staysBelow : MU := (⟨"RockingGuard$Ears", "staysBelow", "(III)Z"⟩, prog_2_method_3_code, 5, (some .boolean), 0, 3)
def mX0_findSets : MU := (⟨"RockingGuard$Ears", "findSets", "(LRockingGuard$Terrace;LRockingGuard$Told;)V"⟩, prog_2_method_4_code, 5, none, 0, 2)
def mX0_agrees : MU := (⟨"RockingGuard$Ears", "agrees", "(ILRockingGuard$Told;)Z"⟩, prog_2_method_5_code, 4, (some .boolean), 0, 2)
def mX0_sure : MU := (⟨"RockingGuard$Ears", "sure", "()I"⟩, prog_2_method_6_code, 3, (some .int), 0, 0)
def mX0_never : MU := (⟨"RockingGuard$Ears", "never", "(LRockingGuard$Terrace;)I"⟩, prog_2_method_7_code, 4, (some .int), 0, 1)
def mX0_unlikeCounts : MU := (⟨"RockingGuard$Ears", "unlikeCounts", "(I)I"⟩, prog_2_method_8_code, 4, (some .int), 0, 1)
def mX1_init : MU := (⟨"RockingGuard$Judge", "<init>", "()V"⟩, prog_3_method_1_code, 1, none, 1, 0)
def mX1_wears : MU := (⟨"RockingGuard$Judge", "wears", "(LRockingGuard$Script;LRockingGuard$Terrace;II)I"⟩, prog_3_method_2_code, 5, (some .int), 1, 4)
def mX1_tires : MU := (⟨"RockingGuard$Judge", "tires", "(LRockingGuard$Script;LRockingGuard$Terrace;II)I"⟩, prog_3_method_3_code, 6, (some .int), 1, 4)
def mX1_seen : MU := (⟨"RockingGuard$Judge", "seen", "(LRockingGuard$Script;LRockingGuard$Terrace;I)I"⟩, prog_3_method_4_code, 4, (some .int), 1, 3)
def mX1_tellNames : MU := (⟨"RockingGuard$Judge", "tellNames", "(LRockingGuard$Terrace;II)V"⟩, prog_3_method_5_code, 5, none, 1, 3)
def mX1_ask : MU := (⟨"RockingGuard$Judge", "ask", "(LRockingGuard$Script;ILRockingGuard$Terrace;)I"⟩, prog_3_method_6_code, 10, (some .int), 1, 3)
def mX1_nameAt : MU := (⟨"RockingGuard$Judge", "nameAt", "(I)I"⟩, prog_3_method_7_code, 2, (some .int), 1, 1)
def mX1_changed : MU := (⟨"RockingGuard$Judge", "changed", "(IILRockingGuard$Terrace;)I"⟩, prog_3_method_8_code, 3, (some .int), 1, 3)
def mX1_reckoned : MU := (⟨"RockingGuard$Judge", "reckoned", "(III)I"⟩, prog_3_method_9_code, 3, (some .int), 1, 3)
def mX1_isSo : MU := (⟨"RockingGuard$Judge", "isSo", "(III)Z"⟩, prog_3_method_10_code, 3, (some .boolean), 1, 3)
def mX1_clamp : MU := (⟨"RockingGuard$Judge", "clamp", "(JII)I"⟩, prog_3_method_11_code, 4, (some .int), 1, 3)
def mX2_power : MU := (⟨"RockingGuard$Odds", "power", "(II)J"⟩, prog_4_method_2_code, 5, (some .long), 0, 2)
def mX2_choose : MU := (⟨"RockingGuard$Odds", "choose", "(II)J"⟩, prog_4_method_3_code, 5, (some .long), 0, 2)
def mX2_weight : MU := (⟨"RockingGuard$Odds", "weight", "(III)J"⟩, prog_4_method_4_code, 3, (some .long), 0, 3)
def mX2_lowestTerm : MU := (⟨"RockingGuard$Odds", "lowestTerm", "(JJZ)J"⟩, prog_4_method_5_code, 7, (some .long), 0, 3)
def mX2_divisor : MU := (⟨"RockingGuard$Odds", "divisor", "(JJ)J"⟩, prog_4_method_6_code, 11, (some .long), 0, 2)
def mX3_init : MU := (⟨"RockingGuard$Reader", "<init>", "()V"⟩, prog_5_method_1_code, 1, none, 2, 0)
def mX3_takeBytes : MU := (⟨"RockingGuard$Reader", "takeBytes", "(IIIII)I"⟩, prog_5_method_2_code, 6, (some .int), 2, 5)
def mX3_takeFour : MU := (⟨"RockingGuard$Reader", "takeFour", "(I)V"⟩, prog_5_method_3_code, 3, none, 2, 1)
def mX3_cutTo : MU := (⟨"RockingGuard$Reader", "cutTo", "(I)I"⟩, prog_5_method_4_code, 2, (some .int), 2, 1)
def mX3_readTape : MU := (⟨"RockingGuard$Reader", "readTape", "()V"⟩, prog_5_method_5_code, 2, none, 2, 0)
def mX3_splitTape : MU := (⟨"RockingGuard$Reader", "splitTape", "()V"⟩, prog_5_method_6_code, 4, none, 2, 0)
def mX3_addToken : MU := (⟨"RockingGuard$Reader", "addToken", "(III)V"⟩, prog_5_method_7_code, 4, none, 2, 3)
def mX3_byteAt : MU := (⟨"RockingGuard$Reader", "byteAt", "(I)I"⟩, prog_5_method_8_code, 2, (some .int), 2, 1)
def mX3_isLetter : MU := (⟨"RockingGuard$Reader", "isLetter", "(I)Z"⟩, prog_5_method_9_code, 1, (some .boolean), 2, 1)
def mX3_isDigit : MU := (⟨"RockingGuard$Reader", "isDigit", "(I)Z"⟩, prog_5_method_10_code, 1, (some .boolean), 2, 1)
def mX3_endOfToken : MU := (⟨"RockingGuard$Reader", "endOfToken", "(I)I"⟩, prog_5_method_11_code, 4, (some .int), 2, 1)
def mX3_kindOf : MU := (⟨"RockingGuard$Reader", "kindOf", "(II)I"⟩, prog_5_method_12_code, 5, (some .int), 2, 2)
def mX3_wordAt : MU := (⟨"RockingGuard$Reader", "wordAt", "(II)I"⟩, prog_5_method_13_code, 8, (some .int), 2, 2)
def mX3_valueOf : MU := (⟨"RockingGuard$Reader", "valueOf", "(II)I"⟩, prog_5_method_14_code, 5, (some .int), 2, 2)
def mX3_kind : MU := (⟨"RockingGuard$Reader", "kind", "()I"⟩, prog_5_method_15_code, 1, (some .int), 2, 0)
def mX3_value : MU := (⟨"RockingGuard$Reader", "value", "()I"⟩, prog_5_method_16_code, 1, (some .int), 2, 0)
def mX3_refuse : MU := (⟨"RockingGuard$Reader", "refuse", "(I)V"⟩, prog_5_method_17_code, 2, none, 2, 1)
def mX3_expect : MU := (⟨"RockingGuard$Reader", "expect", "(I)V"⟩, prog_5_method_18_code, 2, none, 2, 1)
def mX3_readNumber : MU := (⟨"RockingGuard$Reader", "readNumber", "(II)I"⟩, prog_5_method_19_code, 4, (some .int), 2, 2)
def mX3_readClause : MU := (⟨"RockingGuard$Reader", "readClause", "()V"⟩, prog_5_method_20_code, 2, none, 2, 0)
def mX3_readLaw : MU := (⟨"RockingGuard$Reader", "readLaw", "(I)V"⟩, prog_5_method_21_code, 2, none, 2, 1)
def mX3_readOrder : MU := (⟨"RockingGuard$Reader", "readOrder", "(I)V"⟩, prog_5_method_22_code, 5, none, 2, 1)
def mX3_open : MU := (⟨"RockingGuard$Reader", "open", "(I)V"⟩, prog_5_method_23_code, 2, none, 2, 1)
def mX3_readSum : MU := (⟨"RockingGuard$Reader", "readSum", "(I)V"⟩, prog_5_method_24_code, 4, none, 2, 1)
def mX3_readProduct : MU := (⟨"RockingGuard$Reader", "readProduct", "(I)V"⟩, prog_5_method_25_code, 4, none, 2, 1)
def mX3_readOne : MU := (⟨"RockingGuard$Reader", "readOne", "(I)V"⟩, prog_5_method_26_code, 3, none, 2, 1)
def mX3_readInside : MU := (⟨"RockingGuard$Reader", "readInside", "(I)V"⟩, prog_5_method_27_code, 2, none, 2, 1)
def mX3_readOneInside : MU := (⟨"RockingGuard$Reader", "readOneInside", "(I)V"⟩, prog_5_method_28_code, 2, none, 2, 1)
def mX3_readName : MU := (⟨"RockingGuard$Reader", "readName", "(I)V"⟩, prog_5_method_29_code, 2, none, 2, 1)
def mX3_nameOf : MU := (⟨"RockingGuard$Reader", "nameOf", "(I)I"⟩, prog_5_method_30_code, 1, (some .int), 2, 1)
def mX3_readChoice : MU := (⟨"RockingGuard$Reader", "readChoice", "(I)V"⟩, prog_5_method_31_code, 4, none, 2, 1)
def mX3_readEither : MU := (⟨"RockingGuard$Reader", "readEither", "(I)V"⟩, prog_5_method_32_code, 3, none, 2, 1)
def mX3_readBoth : MU := (⟨"RockingGuard$Reader", "readBoth", "(I)V"⟩, prog_5_method_33_code, 3, none, 2, 1)
def mX3_readAsk : MU := (⟨"RockingGuard$Reader", "readAsk", "(I)V"⟩, prog_5_method_34_code, 3, none, 2, 1)
def mX4_init : MU := (⟨"RockingGuard$Roster", "<init>", "()V"⟩, prog_6_method_1_code, 1, none, 3, 0)
def mX4_assign : MU := (⟨"RockingGuard$Roster", "assign", "(LRockingGuard$Told;LRockingGuard$Terrace;)I"⟩, prog_6_method_2_code, 6, (some .int), 3, 2)
def mX4_boyOf : MU := (⟨"RockingGuard$Roster", "boyOf", "(I)I"⟩, prog_6_method_3_code, 2, (some .int), 3, 1)
def mX4_mostFrom : MU := (⟨"RockingGuard$Roster", "mostFrom", "(IILRockingGuard$Told;LRockingGuard$Terrace;)I"⟩, prog_6_method_4_code, 7, (some .int), 3, 4)
def mX4_lowestFor : MU := (⟨"RockingGuard$Roster", "lowestFor", "(IILRockingGuard$Told;LRockingGuard$Terrace;)I"⟩, prog_6_method_5_code, 7, (some .int), 3, 4)
def mX4_suits : MU := (⟨"RockingGuard$Roster", "suits", "(IIILRockingGuard$Told;LRockingGuard$Terrace;)Z"⟩, prog_6_method_6_code, 5, (some .boolean), 3, 5)
def mX5_init : MU := (⟨"RockingGuard$Script", "<init>", "()V"⟩, prog_7_method_1_code, 1, none, 4, 0)
def mX5_wipe : MU := (⟨"RockingGuard$Script", "wipe", "()V"⟩, prog_7_method_2_code, 1, none, 4, 0)
def mX5_has : MU := (⟨"RockingGuard$Script", "has", "(I)Z"⟩, prog_7_method_3_code, 2, (some .boolean), 4, 1)
def mX5_addClause : MU := (⟨"RockingGuard$Script", "addClause", "(III)V"⟩, prog_7_method_4_code, 4, none, 4, 3)
def mX5_beginLaw : MU := (⟨"RockingGuard$Script", "beginLaw", "(I)V"⟩, prog_7_method_5_code, 2, none, 4, 1)
def mX5_endLaw : MU := (⟨"RockingGuard$Script", "endLaw", "(I)V"⟩, prog_7_method_6_code, 2, none, 4, 1)
def mX5_addOrder : MU := (⟨"RockingGuard$Script", "addOrder", "(II)I"⟩, prog_7_method_7_code, 4, (some .int), 4, 2)
def mX5_leadHere : MU := (⟨"RockingGuard$Script", "leadHere", "(I)V"⟩, prog_7_method_8_code, 2, none, 4, 1)
def mX5_kindOf : MU := (⟨"RockingGuard$Script", "kindOf", "(I)I"⟩, prog_7_method_9_code, 2, (some .int), 4, 1)
def mX5_firstOf : MU := (⟨"RockingGuard$Script", "firstOf", "(I)I"⟩, prog_7_method_10_code, 2, (some .int), 4, 1)
def mX5_secondOf : MU := (⟨"RockingGuard$Script", "secondOf", "(I)I"⟩, prog_7_method_11_code, 2, (some .int), 4, 1)
def mX6_init : MU := (⟨"RockingGuard$Steps", "<init>", "()V"⟩, prog_8_method_1_code, 1, none, 5, 0)
def mX6_save : MU := (⟨"RockingGuard$Steps", "save", "(LRockingGuard$Terrace;)V"⟩, prog_8_method_2_code, 3, none, 5, 1)
def mX6_takeBack : MU := (⟨"RockingGuard$Steps", "takeBack", "(LRockingGuard$Terrace;)I"⟩, prog_8_method_3_code, 5, (some .int), 5, 1)
def mX6_copyFrom : MU := (⟨"RockingGuard$Steps", "copyFrom", "(LRockingGuard$Steps;)V"⟩, prog_8_method_4_code, 3, none, 5, 1)
def mX7_init : MU := (⟨"RockingGuard$Terrace", "<init>", "()V"⟩, prog_9_method_1_code, 2, none, 6, 0)
def mX7_copyFrom : MU := (⟨"RockingGuard$Terrace", "copyFrom", "(LRockingGuard$Terrace;)V"⟩, prog_9_method_2_code, 2, none, 6, 1)
def mX7_addHorse : MU := (⟨"RockingGuard$Terrace", "addHorse", "(II)I"⟩, prog_9_method_3_code, 4, (some .int), 6, 2)
def mX7_addBoy : MU := (⟨"RockingGuard$Terrace", "addBoy", "(I)I"⟩, prog_9_method_4_code, 3, (some .int), 6, 1)
def mX7_horses : MU := (⟨"RockingGuard$Terrace", "horses", "()I"⟩, prog_9_method_5_code, 1, (some .int), 6, 0)
def mX7_boys : MU := (⟨"RockingGuard$Terrace", "boys", "()I"⟩, prog_9_method_6_code, 1, (some .int), 6, 0)
def mX7_thisMinute : MU := (⟨"RockingGuard$Terrace", "thisMinute", "()I"⟩, prog_9_method_7_code, 1, (some .int), 6, 0)
def mX7_snow : MU := (⟨"RockingGuard$Terrace", "snow", "()I"⟩, prog_9_method_8_code, 1, (some .int), 6, 0)
def mX7_oilLeft : MU := (⟨"RockingGuard$Terrace", "oilLeft", "()I"⟩, prog_9_method_9_code, 1, (some .int), 6, 0)
def mX7_x : MU := (⟨"RockingGuard$Terrace", "x", "()I"⟩, prog_9_method_10_code, 1, (some .int), 6, 0)
def mX7_slides : MU := (⟨"RockingGuard$Terrace", "slides", "()I"⟩, prog_9_method_11_code, 1, (some .int), 6, 0)
def mX7_isHorse : MU := (⟨"RockingGuard$Terrace", "isHorse", "(I)Z"⟩, prog_9_method_12_code, 2, (some .boolean), 6, 1)
def mX7_isBoy : MU := (⟨"RockingGuard$Terrace", "isBoy", "(I)Z"⟩, prog_9_method_13_code, 2, (some .boolean), 6, 1)
def mX7_isSet : MU := (⟨"RockingGuard$Terrace", "isSet", "(I)Z"⟩, prog_9_method_14_code, 2, (some .boolean), 6, 1)
def mX7_beatOf : MU := (⟨"RockingGuard$Terrace", "beatOf", "(I)I"⟩, prog_9_method_15_code, 2, (some .int), 6, 1)
def mX7_shiftOf : MU := (⟨"RockingGuard$Terrace", "shiftOf", "(I)I"⟩, prog_9_method_16_code, 2, (some .int), 6, 1)
def mX7_wearOf : MU := (⟨"RockingGuard$Terrace", "wearOf", "(I)I"⟩, prog_9_method_17_code, 2, (some .int), 6, 1)
def mX7_sizeOf : MU := (⟨"RockingGuard$Terrace", "sizeOf", "(I)I"⟩, prog_9_method_18_code, 2, (some .int), 6, 1)
def mX7_tiredOf : MU := (⟨"RockingGuard$Terrace", "tiredOf", "(I)I"⟩, prog_9_method_19_code, 2, (some .int), 6, 1)
def mX7_seatOf : MU := (⟨"RockingGuard$Terrace", "seatOf", "(I)I"⟩, prog_9_method_20_code, 2, (some .int), 6, 1)
def mX7_riderOf : MU := (⟨"RockingGuard$Terrace", "riderOf", "(I)I"⟩, prog_9_method_21_code, 3, (some .int), 6, 1)
def mX7_slideAt : MU := (⟨"RockingGuard$Terrace", "slideAt", "(II)I"⟩, prog_9_method_22_code, 3, (some .int), 6, 2)
def mX7_wearOfSet : MU := (⟨"RockingGuard$Terrace", "wearOfSet", "(I)I"⟩, prog_9_method_23_code, 4, (some .int), 6, 1)
def mX7_dueAt : MU := (⟨"RockingGuard$Terrace", "dueAt", "(I)I"⟩, prog_9_method_24_code, 5, (some .int), 6, 1)
def mX7_mannedSet : MU := (⟨"RockingGuard$Terrace", "mannedSet", "()I"⟩, prog_9_method_25_code, 3, (some .int), 6, 0)
def mX7_canRock : MU := (⟨"RockingGuard$Terrace", "canRock", "(I)Z"⟩, prog_9_method_26_code, 2, (some .boolean), 6, 1)
def mX7_rockingAt : MU := (⟨"RockingGuard$Terrace", "rockingAt", "(I)I"⟩, prog_9_method_27_code, 4, (some .int), 6, 1)
def mX7_rocksAt : MU := (⟨"RockingGuard$Terrace", "rocksAt", "(II)Z"⟩, prog_9_method_28_code, 3, (some .boolean), 6, 2)
def mX7_canMount : MU := (⟨"RockingGuard$Terrace", "canMount", "(II)Z"⟩, prog_9_method_29_code, 3, (some .boolean), 6, 2)
def mX7_seat : MU := (⟨"RockingGuard$Terrace", "seat", "(II)V"⟩, prog_9_method_30_code, 3, none, 6, 2)
def mX7_unseat : MU := (⟨"RockingGuard$Terrace", "unseat", "(I)V"⟩, prog_9_method_31_code, 2, none, 6, 1)
def mX7_canOil : MU := (⟨"RockingGuard$Terrace", "canOil", "(I)Z"⟩, prog_9_method_32_code, 2, (some .boolean), 6, 1)
def mX7_grease : MU := (⟨"RockingGuard$Terrace", "grease", "(I)I"⟩, prog_9_method_33_code, 2, (some .int), 6, 1)
def mX7_canNail : MU := (⟨"RockingGuard$Terrace", "canNail", "(II)Z"⟩, prog_9_method_34_code, 3, (some .boolean), 6, 2)
def mX7_shiftTo : MU := (⟨"RockingGuard$Terrace", "shiftTo", "(II)V"⟩, prog_9_method_35_code, 3, none, 6, 2)
def mX7_canPass : MU := (⟨"RockingGuard$Terrace", "canPass", "()Z"⟩, prog_9_method_36_code, 1, (some .boolean), 6, 0)
def mX7_passMinute : MU := (⟨"RockingGuard$Terrace", "passMinute", "(LRockingGuard$Judge;LRockingGuard$Script;)Z"⟩, prog_9_method_37_code, 6, (some .boolean), 6, 2)
def mX7_beginDraws : MU := (⟨"RockingGuard$Terrace", "beginDraws", "(I)V"⟩, prog_9_method_38_code, 2, none, 6, 1)
def mX7_drawX : MU := (⟨"RockingGuard$Terrace", "drawX", "()I"⟩, prog_9_method_39_code, 2, (some .int), 6, 0)
def mX7_writeSlide : MU := (⟨"RockingGuard$Terrace", "writeSlide", "(I)V"⟩, prog_9_method_40_code, 4, none, 6, 1)
def mX8_init : MU := (⟨"RockingGuard$Told", "<init>", "(I)V"⟩, prog_10_method_1_code, 2, none, 7, 1)
def mX8_add : MU := (⟨"RockingGuard$Told", "add", "(III)I"⟩, prog_10_method_2_code, 4, (some .int), 7, 3)
def mX8_forget : MU := (⟨"RockingGuard$Told", "forget", "()I"⟩, prog_10_method_3_code, 1, (some .int), 7, 0)
def mX8_firstOf : MU := (⟨"RockingGuard$Told", "firstOf", "(I)I"⟩, prog_10_method_4_code, 2, (some .int), 7, 1)
def mX8_secondOf : MU := (⟨"RockingGuard$Told", "secondOf", "(I)I"⟩, prog_10_method_5_code, 2, (some .int), 7, 1)
def mX8_thirdOf : MU := (⟨"RockingGuard$Told", "thirdOf", "(I)I"⟩, prog_10_method_6_code, 2, (some .int), 7, 1)
def mX8_copyFrom : MU := (⟨"RockingGuard$Told", "copyFrom", "(LRockingGuard$Told;)V"⟩, prog_10_method_7_code, 2, none, 7, 1)
def mX9_init : MU := (⟨"RockingGuard$World", "<init>", "()V"⟩, prog_11_method_1_code, 1, none, 8, 0)
def mX9_copyFrom : MU := (⟨"RockingGuard$World", "copyFrom", "(LRockingGuard$World;)V"⟩, prog_11_method_2_code, 2, none, 8, 1)
def mX10_init : MU := (⟨"RockingGuard", "<init>", "()V"⟩, prog_1_method_1_code, 2, none, 9, 0)
def mX10_horse : MU := (⟨"RockingGuard", "horse", "(II)I"⟩, prog_1_method_2_code, 3, (some .int), 9, 2)
def mX10_boy : MU := (⟨"RockingGuard", "boy", "(I)I"⟩, prog_1_method_3_code, 2, (some .int), 9, 1)
def mX10_limit : MU := (⟨"RockingGuard", "limit", "(I)Z"⟩, prog_1_method_4_code, 2, (some .boolean), 9, 1)
def mX10_feed : MU := (⟨"RockingGuard", "feed", "(IIIII)I"⟩, prog_1_method_5_code, 6, (some .int), 9, 5)
def mX10_end : MU := (⟨"RockingGuard", "end", "(I)I"⟩, prog_1_method_6_code, 2, (some .int), 9, 1)
def mX10_text : MU := (⟨"RockingGuard", "text", "()I"⟩, prog_1_method_7_code, 3, (some .int), 9, 0)
def mX10_fault : MU := (⟨"RockingGuard", "fault", "(I)I"⟩, prog_1_method_8_code, 2, (some .int), 9, 1)
def mX10_by : MU := (⟨"RockingGuard", "by", "(I)Z"⟩, prog_1_method_9_code, 2, (some .boolean), 9, 1)
def mX10_mount : MU := (⟨"RockingGuard", "mount", "(II)Z"⟩, prog_1_method_10_code, 4, (some .boolean), 9, 2)
def mX10_off : MU := (⟨"RockingGuard", "off", "(I)I"⟩, prog_1_method_11_code, 4, (some .int), 9, 1)
def mX10_oil : MU := (⟨"RockingGuard", "oil", "(I)I"⟩, prog_1_method_12_code, 3, (some .int), 9, 1)
def mX10_nail : MU := (⟨"RockingGuard", "nail", "(II)Z"⟩, prog_1_method_13_code, 4, (some .boolean), 9, 2)
def mX10_minute : MU := (⟨"RockingGuard", "minute", "(I)I"⟩, prog_1_method_14_code, 4, (some .int), 9, 1)
def mX10_played : MU := (⟨"RockingGuard", "played", "(I)I"⟩, prog_1_method_15_code, 6, (some .int), 9, 1)
def mX10_winters : MU := (⟨"RockingGuard", "winters", "(II)I"⟩, prog_1_method_16_code, 4, (some .int), 9, 2)
def mX10_undo : MU := (⟨"RockingGuard", "undo", "()I"⟩, prog_1_method_17_code, 1, (some .int), 9, 0)
def mX10_ofHorse : MU := (⟨"RockingGuard", "ofHorse", "(II)I"⟩, prog_1_method_18_code, 5, (some .int), 9, 2)
def mX10_ofBoy : MU := (⟨"RockingGuard", "ofBoy", "(II)I"⟩, prog_1_method_19_code, 4, (some .int), 9, 2)
def mX10_is : MU := (⟨"RockingGuard", "is", "(I)I"⟩, prog_1_method_20_code, 4, (some .int), 9, 1)
def mX10_book : MU := (⟨"RockingGuard", "book", "(II)I"⟩, prog_1_method_21_code, 3, (some .int), 9, 2)
def mX10_rocking : MU := (⟨"RockingGuard", "rocking", "(I)I"⟩, prog_1_method_22_code, 2, (some .int), 9, 1)
def mX10_together : MU := (⟨"RockingGuard", "together", "(I)I"⟩, prog_1_method_23_code, 6, (some .int), 9, 1)
def mX10_foretold : MU := (⟨"RockingGuard", "foretold", "(III)I"⟩, prog_1_method_24_code, 6, (some .int), 9, 3)
def mX10_firstSlide : MU := (⟨"RockingGuard", "firstSlide", "()I"⟩, prog_1_method_25_code, 2, (some .int), 9, 0)
def mX10_unmanned : MU := (⟨"RockingGuard", "unmanned", "()I"⟩, prog_1_method_26_code, 2, (some .int), 9, 0)
def mX10_safe : MU := (⟨"RockingGuard", "safe", "(II)I"⟩, prog_1_method_27_code, 6, (some .int), 9, 2)
def mX10_heard : MU := (⟨"RockingGuard", "heard", "(II)I"⟩, prog_1_method_28_code, 3, (some .int), 9, 2)
def mX10_rode : MU := (⟨"RockingGuard", "rode", "(I)I"⟩, prog_1_method_29_code, 2, (some .int), 9, 1)
def mX10_listen : MU := (⟨"RockingGuard", "listen", "(I)I"⟩, prog_1_method_30_code, 6, (some .int), 9, 1)
def mX10_watch : MU := (⟨"RockingGuard", "watch", "(III)I"⟩, prog_1_method_31_code, 4, (some .int), 9, 3)
def mX10_manned : MU := (⟨"RockingGuard", "manned", "(I)I"⟩, prog_1_method_32_code, 3, (some .int), 9, 1)
def mX10_below : MU := (⟨"RockingGuard", "below", "(IIIZ)J"⟩, prog_1_method_33_code, 8, (some .long), 9, 4)
def mX10_gale : MU := (⟨"RockingGuard", "gale", "(IIIZ)J"⟩, prog_1_method_34_code, 9, (some .long), 9, 4)
def mX10_ropes : MU := (⟨"RockingGuard", "ropes", "(I)I"⟩, prog_1_method_35_code, 9, (some .int), 9, 1)
def mX10_haul : MU := (⟨"RockingGuard", "haul", "(I)I"⟩, prog_1_method_36_code, 2, (some .int), 9, 1)
def mX10_oilings : MU := (⟨"RockingGuard", "oilings", "(IZ)I"⟩, prog_1_method_37_code, 6, (some .int), 9, 2)
def mX10_show : MU := (⟨"RockingGuard", "show", "(I)I"⟩, prog_1_method_38_code, 6, (some .int), 9, 1)
def mX10_counted : MU := (⟨"RockingGuard", "counted", "(II)I"⟩, prog_1_method_39_code, 3, (some .int), 9, 2)
def mX10_whose : MU := (⟨"RockingGuard", "whose", "()I"⟩, prog_1_method_40_code, 3, (some .int), 9, 0)
def mX10_slid : MU := (⟨"RockingGuard", "slid", "(I)I"⟩, prog_1_method_41_code, 5, (some .int), 9, 1)
def mX10_inStep : MU := (⟨"RockingGuard", "inStep", "()I"⟩, prog_1_method_42_code, 5, (some .int), 9, 0)
def mX10_tiredest : MU := (⟨"RockingGuard", "tiredest", "()I"⟩, prog_1_method_43_code, 5, (some .int), 9, 0)
def mX10_veterans : MU := (⟨"RockingGuard", "veterans", "(I)I"⟩, prog_1_method_44_code, 4, (some .int), 9, 1)
def mX10_lonely : MU := (⟨"RockingGuard", "lonely", "()I"⟩, prog_1_method_45_code, 5, (some .int), 9, 0)
def mX10_image : MU := (⟨"RockingGuard", "image", "()I"⟩, prog_1_method_46_code, 1, (some .int), 9, 0)
def mX10_back : MU := (⟨"RockingGuard", "back", "()I"⟩, prog_1_method_47_code, 1, (some .int), 9, 0)
def mX10_about : MU := (⟨"RockingGuard", "about", "(I)I"⟩, prog_1_method_48_code, 2, (some .int), 9, 1)
def mX10_isWithin : MU := (⟨"RockingGuard", "isWithin", "(III)Z"⟩, prog_1_method_49_code, 3, (some .boolean), 9, 3)
def mX10_isText : MU := (⟨"RockingGuard", "isText", "(I)Z"⟩, prog_1_method_50_code, 2, (some .boolean), 9, 1)
def mX10_scriptAt : MU := (⟨"RockingGuard", "scriptAt", "(I)LRockingGuard$Script;"⟩, prog_1_method_51_code, 2, (some (.object "RockingGuard$Script")), 9, 1)
def mX10_ruling : MU := (⟨"RockingGuard", "ruling", "()LRockingGuard$Script;"⟩, prog_1_method_52_code, 1, (some (.object "RockingGuard$Script")), 9, 0)
def mX10_isDone : MU := (⟨"RockingGuard", "isDone", "(III)Z"⟩, prog_1_method_53_code, 4, (some .boolean), 9, 3)
def mX10_passAllThatCan : MU := (⟨"RockingGuard", "passAllThatCan", "(I)Z"⟩, prog_1_method_54_code, 3, (some .boolean), 9, 1)
def mX10_drawOne : MU := (⟨"RockingGuard", "drawOne", "()V"⟩, prog_1_method_55_code, 8, none, 9, 0)
def mX10_lastsAllWinter : MU := (⟨"RockingGuard", "lastsAllWinter", "(II)Z"⟩, prog_1_method_56_code, 5, (some .boolean), 9, 2)
def mX10_isLaterOrLess : MU := (⟨"RockingGuard", "isLaterOrLess", "(II)Z"⟩, prog_1_method_57_code, 5, (some .boolean), 9, 2)
def mX10_saysAllCounted : MU := (⟨"RockingGuard", "saysAllCounted", "(LRockingGuard$Script;)Z"⟩, prog_1_method_58_code, 3, (some .boolean), 9, 1)
def mX11_init : MU := (⟨"RockingGuardModel", "<init>", "()V"⟩, prog_13_method_1_code, 1, none, 10, 0)
def mX11_copy : MU := (⟨"RockingGuardModel", "copy", "([I[I)V"⟩, prog_13_method_2_code, 3, none, 10, 2)
def mX11_isIn : MU := (⟨"RockingGuardModel", "isIn", "(III)Z"⟩, prog_13_method_3_code, 3, (some .boolean), 10, 3)
def mX11_cut : MU := (⟨"RockingGuardModel", "cut", "(JII)I"⟩, prog_13_method_4_code, 4, (some .int), 10, 3)
def mX11_has : MU := (⟨"RockingGuardModel", "has", "(II)Z"⟩, prog_13_method_5_code, 2, (some .boolean), 10, 2)
def mX11_bits : MU := (⟨"RockingGuardModel", "bits", "(I)I"⟩, prog_13_method_6_code, 3, (some .int), 10, 1)
def mX11_isHorse : MU := (⟨"RockingGuardModel", "isHorse", "(I)Z"⟩, prog_13_method_7_code, 2, (some .boolean), 10, 1)
def mX11_isBoy : MU := (⟨"RockingGuardModel", "isBoy", "(I)Z"⟩, prog_13_method_8_code, 2, (some .boolean), 10, 1)
def mX11_get : MU := (⟨"RockingGuardModel", "get", "(II)I"⟩, prog_13_method_9_code, 3, (some .int), 10, 2)
def mX11_put : MU := (⟨"RockingGuardModel", "put", "(III)V"⟩, prog_13_method_10_code, 4, none, 10, 3)
def mX11_of : MU := (⟨"RockingGuardModel", "of", "(II)I"⟩, prog_13_method_11_code, 3, (some .int), 10, 2)
def mX11_lay : MU := (⟨"RockingGuardModel", "lay", "(III)V"⟩, prog_13_method_12_code, 4, none, 10, 3)
def mX11_riderOf : MU := (⟨"RockingGuardModel", "riderOf", "(I)I"⟩, prog_13_method_13_code, 3, (some .int), 10, 1)
def mX11_isDue : MU := (⟨"RockingGuardModel", "isDue", "(II)Z"⟩, prog_13_method_14_code, 3, (some .boolean), 10, 2)
def mX11_dueOf : MU := (⟨"RockingGuardModel", "dueOf", "(II)I"⟩, prog_13_method_15_code, 5, (some .int), 10, 2)
def mX11_fit : MU := (⟨"RockingGuardModel", "fit", "()I"⟩, prog_13_method_16_code, 3, (some .int), 10, 0)
def mX11_horse : MU := (⟨"RockingGuardModel", "horse", "(II)I"⟩, prog_13_method_17_code, 4, (some .int), 10, 2)
def mX11_boy : MU := (⟨"RockingGuardModel", "boy", "(I)I"⟩, prog_13_method_18_code, 3, (some .int), 10, 1)
def mX11_limit : MU := (⟨"RockingGuardModel", "limit", "(I)Z"⟩, prog_13_method_19_code, 2, (some .boolean), 10, 1)
def mX11_four : MU := (⟨"RockingGuardModel", "four", "(I)V"⟩, prog_13_method_20_code, 3, none, 10, 1)
def mX11_feed : MU := (⟨"RockingGuardModel", "feed", "(IIIII)I"⟩, prog_13_method_21_code, 6, (some .int), 10, 5)
def mX11_end : MU := (⟨"RockingGuardModel", "end", "(I)I"⟩, prog_13_method_22_code, 2, (some .int), 10, 1)
def mX11_byteAt : MU := (⟨"RockingGuardModel", "byteAt", "(I)I"⟩, prog_13_method_23_code, 2, (some .int), 10, 1)
def mX11_isLetterByte : MU := (⟨"RockingGuardModel", "isLetterByte", "(I)Z"⟩, prog_13_method_24_code, 1, (some .boolean), 10, 1)
def mX11_isFigure : MU := (⟨"RockingGuardModel", "isFigure", "(I)Z"⟩, prog_13_method_25_code, 1, (some .boolean), 10, 1)
def mX11_isSign : MU := (⟨"RockingGuardModel", "isSign", "(I)Z"⟩, prog_13_method_26_code, 1, (some .boolean), 10, 1)
def mX11_nextToken : MU := (⟨"RockingGuardModel", "nextToken", "()V"⟩, prog_13_method_27_code, 2, none, 10, 0)
def mX11_w2 : MU := (⟨"RockingGuardModel", "w2", "(II)J"⟩, prog_13_method_28_code, 2, (some .long), 10, 2)
def mX11_w3 : MU := (⟨"RockingGuardModel", "w3", "(III)J"⟩, prog_13_method_29_code, 3, (some .long), 10, 3)
def mX11_w4 : MU := (⟨"RockingGuardModel", "w4", "(IIII)J"⟩, prog_13_method_30_code, 4, (some .long), 10, 4)
def mX11_w5 : MU := (⟨"RockingGuardModel", "w5", "(IIIII)J"⟩, prog_13_method_31_code, 5, (some .long), 10, 5)
def mX11_w6 : MU := (⟨"RockingGuardModel", "w6", "(IIIIII)J"⟩, prog_13_method_32_code, 6, (some .long), 10, 6)
def mX11_isWord : MU := (⟨"RockingGuardModel", "isWord", "(J)Z"⟩, prog_13_method_33_code, 3, (some .boolean), 10, 1)
def mX11_emit : MU := (⟨"RockingGuardModel", "emit", "(II)V"⟩, prog_13_method_34_code, 3, none, 10, 2)
def mX11_isRocking : MU := (⟨"RockingGuardModel", "isRocking", "()Z"⟩, prog_13_method_35_code, 1, (some .boolean), 10, 0)
def mX11_nameOf : MU := (⟨"RockingGuardModel", "nameOf", "()I"⟩, prog_13_method_36_code, 1, (some .int), 10, 0)
def mX11_isOf : MU := (⟨"RockingGuardModel", "isOf", "(I)Z"⟩, prog_13_method_37_code, 2, (some .boolean), 10, 1)
def mX11_rank : MU := (⟨"RockingGuardModel", "rank", "(I)I"⟩, prog_13_method_38_code, 1, (some .int), 10, 1)
def mX11_settle : MU := (⟨"RockingGuardModel", "settle", "(I)V"⟩, prog_13_method_39_code, 2, none, 10, 1)
def mX11_openAt : MU := (⟨"RockingGuardModel", "openAt", "()I"⟩, prog_13_method_40_code, 2, (some .int), 10, 0)
def mX11_openNow : MU := (⟨"RockingGuardModel", "openNow", "()I"⟩, prog_13_method_41_code, 1, (some .int), 10, 0)
def mX11_isCompared : MU := (⟨"RockingGuardModel", "isCompared", "()Z"⟩, prog_13_method_42_code, 2, (some .boolean), 10, 0)
def mX11_isAskAhead : MU := (⟨"RockingGuardModel", "isAskAhead", "()Z"⟩, prog_13_method_43_code, 1, (some .boolean), 10, 0)
def mX11_opened : MU := (⟨"RockingGuardModel", "opened", "(I)I"⟩, prog_13_method_44_code, 2, (some .int), 10, 1)
def mX11_beginOne : MU := (⟨"RockingGuardModel", "beginOne", "()I"⟩, prog_13_method_45_code, 2, (some .int), 10, 0)
def mX11_compareOf : MU := (⟨"RockingGuardModel", "compareOf", "()I"⟩, prog_13_method_46_code, 1, (some .int), 10, 0)
def mX11_betweenOf : MU := (⟨"RockingGuardModel", "betweenOf", "()I"⟩, prog_13_method_47_code, 1, (some .int), 10, 0)
def mX11_partOf : MU := (⟨"RockingGuardModel", "partOf", "(I)I"⟩, prog_13_method_48_code, 2, (some .int), 10, 1)
def mX11_behindOne : MU := (⟨"RockingGuardModel", "behindOne", "()Z"⟩, prog_13_method_49_code, 4, (some .boolean), 10, 0)
def mX11_summed : MU := (⟨"RockingGuardModel", "summed", "()I"⟩, prog_13_method_50_code, 2, (some .int), 10, 0)
def mX11_figure : MU := (⟨"RockingGuardModel", "figure", "(III)I"⟩, prog_13_method_51_code, 4, (some .int), 10, 3)
def mX11_worded : MU := (⟨"RockingGuardModel", "worded", "(JII)I"⟩, prog_13_method_52_code, 5, (some .int), 10, 3)
def mX11_lawClause : MU := (⟨"RockingGuardModel", "lawClause", "(I)I"⟩, prog_13_method_53_code, 3, (some .int), 10, 1)
def mX11_body : MU := (⟨"RockingGuardModel", "body", "(II)I"⟩, prog_13_method_54_code, 4, (some .int), 10, 2)
def mX11_sortOf : MU := (⟨"RockingGuardModel", "sortOf", "()I"⟩, prog_13_method_55_code, 1, (some .int), 10, 0)
def mX11_clause : MU := (⟨"RockingGuardModel", "clause", "()I"⟩, prog_13_method_56_code, 5, (some .int), 10, 0)
def mX11_readText : MU := (⟨"RockingGuardModel", "readText", "()I"⟩, prog_13_method_57_code, 2, (some .int), 10, 0)
def mX11_text : MU := (⟨"RockingGuardModel", "text", "()I"⟩, prog_13_method_58_code, 1, (some .int), 10, 0)
def mX11_fault : MU := (⟨"RockingGuardModel", "fault", "(I)I"⟩, prog_13_method_59_code, 2, (some .int), 10, 1)
def mX11_by : MU := (⟨"RockingGuardModel", "by", "(I)Z"⟩, prog_13_method_60_code, 2, (some .boolean), 10, 1)
def mX11_clip : MU := (⟨"RockingGuardModel", "clip", "(J)J"⟩, prog_13_method_61_code, 2, (some .long), 10, 1)
def mX11_two : MU := (⟨"RockingGuardModel", "two", "(IJJ)J"⟩, prog_13_method_62_code, 5, (some .long), 10, 3)
def mX11_isAsked : MU := (⟨"RockingGuardModel", "isAsked", "(IJJ)Z"⟩, prog_13_method_63_code, 5, (some .boolean), 10, 3)
def mX11_common : MU := (⟨"RockingGuardModel", "common", "(JJ)J"⟩, prog_13_method_64_code, 10, (some .long), 10, 2)
def mX11_prefixed : MU := (⟨"RockingGuardModel", "prefixed", "(IJ)J"⟩, prog_13_method_65_code, 4, (some .long), 10, 2)
def mX11_joined : MU := (⟨"RockingGuardModel", "joined", "(IZZ)Z"⟩, prog_13_method_66_code, 3, (some .boolean), 10, 3)
def mX11_summedUp : MU := (⟨"RockingGuardModel", "summedUp", "(II)J"⟩, prog_13_method_67_code, 10, (some .long), 10, 2)
def mX11_says : MU := (⟨"RockingGuardModel", "says", "(IIII)I"⟩, prog_13_method_68_code, 6, (some .int), 10, 4)
def mX11_name : MU := (⟨"RockingGuardModel", "name", "(I)V"⟩, prog_13_method_69_code, 2, none, 10, 1)
def mX11_nameHorse : MU := (⟨"RockingGuardModel", "nameHorse", "(II)V"⟩, prog_13_method_70_code, 3, none, 10, 2)
def mX11_wearsOf : MU := (⟨"RockingGuardModel", "wearsOf", "(II)I"⟩, prog_13_method_71_code, 3, (some .int), 10, 2)
def mX11_tiresOf : MU := (⟨"RockingGuardModel", "tiresOf", "(II)I"⟩, prog_13_method_72_code, 3, (some .int), 10, 2)
def mX11_seenBy : MU := (⟨"RockingGuardModel", "seenBy", "(II)I"⟩, prog_13_method_73_code, 3, (some .int), 10, 2)
def mX11_rockingAt : MU := (⟨"RockingGuardModel", "rockingAt", "(I)I"⟩, prog_13_method_74_code, 2, (some .int), 10, 1)
def mX11_slide : MU := (⟨"RockingGuardModel", "slide", "(I)V"⟩, prog_13_method_75_code, 3, none, 10, 1)
def mX11_rest : MU := (⟨"RockingGuardModel", "rest", "(I)V"⟩, prog_13_method_76_code, 2, none, 10, 1)
def mX11_tire : MU := (⟨"RockingGuardModel", "tire", "(II)V"⟩, prog_13_method_77_code, 3, none, 10, 2)
def mX11_pass : MU := (⟨"RockingGuardModel", "pass", "()V"⟩, prog_13_method_78_code, 3, none, 10, 0)
def mX11_keep : MU := (⟨"RockingGuardModel", "keep", "()V"⟩, prog_13_method_79_code, 4, none, 10, 0)
def mX11_undo : MU := (⟨"RockingGuardModel", "undo", "()I"⟩, prog_13_method_80_code, 3, (some .int), 10, 0)
def mX11_canMount : MU := (⟨"RockingGuardModel", "canMount", "(II)Z"⟩, prog_13_method_81_code, 3, (some .boolean), 10, 2)
def mX11_mount : MU := (⟨"RockingGuardModel", "mount", "(II)Z"⟩, prog_13_method_82_code, 3, (some .boolean), 10, 2)
def mX11_canGetOff : MU := (⟨"RockingGuardModel", "canGetOff", "(I)Z"⟩, prog_13_method_83_code, 2, (some .boolean), 10, 1)
def mX11_off : MU := (⟨"RockingGuardModel", "off", "(I)I"⟩, prog_13_method_84_code, 3, (some .int), 10, 1)
def mX11_canOil : MU := (⟨"RockingGuardModel", "canOil", "(I)Z"⟩, prog_13_method_85_code, 2, (some .boolean), 10, 1)
def mX11_oilNow : MU := (⟨"RockingGuardModel", "oilNow", "(I)V"⟩, prog_13_method_86_code, 2, none, 10, 1)
def mX11_oil : MU := (⟨"RockingGuardModel", "oil", "(I)I"⟩, prog_13_method_87_code, 2, (some .int), 10, 1)
def mX11_nail : MU := (⟨"RockingGuardModel", "nail", "(II)Z"⟩, prog_13_method_88_code, 3, (some .boolean), 10, 2)
def mX11_arePassed : MU := (⟨"RockingGuardModel", "arePassed", "(I)Z"⟩, prog_13_method_89_code, 3, (some .boolean), 10, 1)
def mX11_minute : MU := (⟨"RockingGuardModel", "minute", "(I)I"⟩, prog_13_method_90_code, 2, (some .int), 10, 1)
def mX11_isPlayed : MU := (⟨"RockingGuardModel", "isPlayed", "(I)Z"⟩, prog_13_method_91_code, 4, (some .boolean), 10, 1)
def mX11_played : MU := (⟨"RockingGuardModel", "played", "(I)I"⟩, prog_13_method_92_code, 3, (some .int), 10, 1)
def mX11_happens : MU := (⟨"RockingGuardModel", "happens", "(I)V"⟩, prog_13_method_93_code, 3, none, 10, 1)
def mX11_winters : MU := (⟨"RockingGuardModel", "winters", "(II)I"⟩, prog_13_method_94_code, 5, (some .int), 10, 2)
def mX11_ofHorse : MU := (⟨"RockingGuardModel", "ofHorse", "(II)I"⟩, prog_13_method_95_code, 3, (some .int), 10, 2)
def mX11_ofBoy : MU := (⟨"RockingGuardModel", "ofBoy", "(II)I"⟩, prog_13_method_96_code, 3, (some .int), 10, 2)
def mX11_is : MU := (⟨"RockingGuardModel", "is", "(I)I"⟩, prog_13_method_97_code, 2, (some .int), 10, 1)
def mX11_shown : MU := (⟨"RockingGuardModel", "shown", "()I"⟩, prog_13_method_98_code, 1, (some .int), 10, 0)
def mX11_entry : MU := (⟨"RockingGuardModel", "entry", "(II)I"⟩, prog_13_method_99_code, 4, (some .int), 10, 2)
def mX11_book : MU := (⟨"RockingGuardModel", "book", "(II)I"⟩, prog_13_method_100_code, 3, (some .int), 10, 2)
def mX11_slid : MU := (⟨"RockingGuardModel", "slid", "(I)I"⟩, prog_13_method_101_code, 4, (some .int), 10, 1)
def mX11_inStep : MU := (⟨"RockingGuardModel", "inStep", "()I"⟩, prog_13_method_102_code, 4, (some .int), 10, 0)
def mX11_tiredest : MU := (⟨"RockingGuardModel", "tiredest", "()I"⟩, prog_13_method_103_code, 3, (some .int), 10, 0)
def mX11_veterans : MU := (⟨"RockingGuardModel", "veterans", "(I)I"⟩, prog_13_method_104_code, 4, (some .int), 10, 1)
def mX11_all : MU := (⟨"RockingGuardModel", "all", "()I"⟩, prog_13_method_105_code, 1, (some .int), 10, 0)
def mX11_lonely : MU := (⟨"RockingGuardModel", "lonely", "()I"⟩, prog_13_method_106_code, 4, (some .int), 10, 0)
def mX11_setAside : MU := (⟨"RockingGuardModel", "setAside", "()V"⟩, prog_13_method_107_code, 2, none, 10, 0)
def mX11_putBack : MU := (⟨"RockingGuardModel", "putBack", "()V"⟩, prog_13_method_108_code, 2, none, 10, 0)
def mX11_foretold : MU := (⟨"RockingGuardModel", "foretold", "(III)I"⟩, prog_13_method_109_code, 5, (some .int), 10, 3)
def mX11_firstSlide : MU := (⟨"RockingGuardModel", "firstSlide", "()I"⟩, prog_13_method_110_code, 3, (some .int), 10, 0)
def mX11_isManned : MU := (⟨"RockingGuardModel", "isManned", "()Z"⟩, prog_13_method_111_code, 2, (some .boolean), 10, 0)
def mX11_unmanned : MU := (⟨"RockingGuardModel", "unmanned", "()I"⟩, prog_13_method_112_code, 3, (some .int), 10, 0)
def mX11_rocking : MU := (⟨"RockingGuardModel", "rocking", "(I)I"⟩, prog_13_method_113_code, 2, (some .int), 10, 1)
def mX11_together : MU := (⟨"RockingGuardModel", "together", "(I)I"⟩, prog_13_method_114_code, 3, (some .int), 10, 1)
def mX11_isSafe : MU := (⟨"RockingGuardModel", "isSafe", "(III)Z"⟩, prog_13_method_115_code, 5, (some .boolean), 10, 3)
def mX11_safe : MU := (⟨"RockingGuardModel", "safe", "(II)I"⟩, prog_13_method_116_code, 5, (some .int), 10, 2)
def mX11_heard : MU := (⟨"RockingGuardModel", "heard", "(II)I"⟩, prog_13_method_117_code, 3, (some .int), 10, 2)
def mX11_layFits : MU := (⟨"RockingGuardModel", "layFits", "()I"⟩, prog_13_method_118_code, 4, (some .int), 10, 0)
def mX11_rode : MU := (⟨"RockingGuardModel", "rode", "(I)I"⟩, prog_13_method_119_code, 6, (some .int), 10, 1)
def mX11_countsAt : MU := (⟨"RockingGuardModel", "countsAt", "(I)I"⟩, prog_13_method_120_code, 4, (some .int), 10, 1)
def mX11_listen : MU := (⟨"RockingGuardModel", "listen", "(I)I"⟩, prog_13_method_121_code, 6, (some .int), 10, 1)
def mX11_watch : MU := (⟨"RockingGuardModel", "watch", "(III)I"⟩, prog_13_method_122_code, 5, (some .int), 10, 3)
def mX11_isAble : MU := (⟨"RockingGuardModel", "isAble", "(II)Z"⟩, prog_13_method_123_code, 3, (some .boolean), 10, 2)
def mX11_layWatches : MU := (⟨"RockingGuardModel", "layWatches", "()V"⟩, prog_13_method_124_code, 6, none, 10, 0)
def mX11_whoOf : MU := (⟨"RockingGuardModel", "whoOf", "(II)I"⟩, prog_13_method_125_code, 4, (some .int), 10, 2)
def mX11_manned : MU := (⟨"RockingGuardModel", "manned", "(I)I"⟩, prog_13_method_126_code, 5, (some .int), 10, 1)
def mX11_part : MU := (⟨"RockingGuardModel", "part", "(JJZ)J"⟩, prog_13_method_127_code, 5, (some .long), 10, 3)
def mX11_power : MU := (⟨"RockingGuardModel", "power", "(II)J"⟩, prog_13_method_128_code, 5, (some .long), 10, 2)
def mX11_ways : MU := (⟨"RockingGuardModel", "ways", "(II)J"⟩, prog_13_method_129_code, 5, (some .long), 10, 2)
def mX11_below : MU := (⟨"RockingGuardModel", "below", "(IIIZ)J"⟩, prog_13_method_130_code, 12, (some .long), 10, 4)
def mX11_gale : MU := (⟨"RockingGuardModel", "gale", "(IIIZ)J"⟩, prog_13_method_131_code, 9, (some .long), 10, 4)
def mX11_ropes : MU := (⟨"RockingGuardModel", "ropes", "(I)I"⟩, prog_13_method_132_code, 8, (some .int), 10, 1)
def mX11_haul : MU := (⟨"RockingGuardModel", "haul", "(I)I"⟩, prog_13_method_133_code, 2, (some .int), 10, 1)
def mX11_oilings : MU := (⟨"RockingGuardModel", "oilings", "(IZ)I"⟩, prog_13_method_134_code, 6, (some .int), 10, 2)
def mX11_show : MU := (⟨"RockingGuardModel", "show", "(I)I"⟩, prog_13_method_135_code, 4, (some .int), 10, 1)
def mX11_counted : MU := (⟨"RockingGuardModel", "counted", "(II)I"⟩, prog_13_method_136_code, 3, (some .int), 10, 2)
def mX11_whose : MU := (⟨"RockingGuardModel", "whose", "()I"⟩, prog_13_method_137_code, 5, (some .int), 10, 0)
def mX11_image : MU := (⟨"RockingGuardModel", "image", "()I"⟩, prog_13_method_138_code, 1, (some .int), 10, 0)
def mX11_back : MU := (⟨"RockingGuardModel", "back", "()I"⟩, prog_13_method_139_code, 1, (some .int), 10, 0)
def mX11_about : MU := (⟨"RockingGuardModel", "about", "(I)I"⟩, prog_13_method_140_code, 2, (some .int), 10, 1)
def mJ6_bitCount_0f7a4 : MU := (⟨"java/lang/Integer", "bitCount", "(I)I"⟩, prog_14_method_49_code, 1, (some .int), 0, 1)
def mJ9_abs_067f4 : MU := (⟨"java/lang/Math", "abs", "(J)J"⟩, prog_15_method_61_code, 2, (some .long), 0, 1)
def mJ9_max_7cf53 : MU := (⟨"java/lang/Math", "max", "(II)I"⟩, prog_15_method_65_code, 2, (some .int), 0, 2)
def mJ9_max_f86c9 : MU := (⟨"java/lang/Math", "max", "(JJ)J"⟩, prog_15_method_66_code, 4, (some .long), 0, 2)
def mJ9_min_7cf53 : MU := (⟨"java/lang/Math", "min", "(II)I"⟩, prog_15_method_69_code, 2, (some .int), 0, 2)
def mJ9_min_f86c9 : MU := (⟨"java/lang/Math", "min", "(JJ)J"⟩, prog_15_method_70_code, 4, (some .long), 0, 2)
def mJ0_length_8abf5 : MU := (⟨"java/lang/String", "length", "()I"⟩, prog_16_method_54_code, 1, (some .int), 0, 0)
def mJ0_charAt_5068e : MU := (⟨"java/lang/String", "charAt", "(I)C"⟩, prog_16_method_56_code, 2, (some .char), 0, 1)
def mJ0_coder_7d493 : MU := (⟨"java/lang/String", "coder", "()B"⟩, prog_16_method_152_code, 1, (some .byte), 0, 0)
def mJ0_isLatin1_aae02 : MU := (⟨"java/lang/String", "isLatin1", "()Z"⟩, prog_16_method_154_code, 1, (some .boolean), 0, 0)
def mJ0_checkIndex_df160 : MU := (⟨"java/lang/String", "checkIndex", "(II)V"⟩, prog_16_method_155_code, 2, none, 0, 2)
def mJ1_charAt_3b067 : MU := (⟨"java/lang/StringLatin1", "charAt", "([BI)C"⟩, prog_17_method_2_code, 2, (some .char), 0, 2)
def mJ2_getChar_3b067 : MU := (⟨"java/lang/StringUTF16", "getChar", "([BI)C"⟩, prog_18_method_5_code, 2, (some .char), 0, 2)
def mJ2_length_9d52b : MU := (⟨"java/lang/StringUTF16", "length", "([B)I"⟩, prog_18_method_6_code, 1, (some .int), 0, 1)
def mJ2_charAt_3b067 : MU := (⟨"java/lang/StringUTF16", "charAt", "([BI)C"⟩, prog_18_method_83_code, 2, (some .char), 0, 2)
def mJ2_checkIndex_2214a : MU := (⟨"java/lang/StringUTF16", "checkIndex", "(I[B)V"⟩, prog_18_method_91_code, 2, none, 0, 2)
def mJ7_fill_53178 : MU := (⟨"java/util/Arrays", "fill", "([II)V"⟩, prog_20_method_103_code, 4, none, 0, 2)
def mJ3_checkIndex_8e157 : MU := (⟨"jdk/internal/util/Preconditions", "checkIndex", "(IILjava/util/function/BiFunction;)I"⟩, prog_21_method_11_code, 3, (some .int), 0, 3)
