/-- all good words of the tables, one list for every method -/
def al : List Cond := lw_tbl.filter goodWord
theorem mem_al {w : Cond} (h : w ∈ lw_tbl) (g : goodWord w = true) : w ∈ al := List.mem_filter.mpr ⟨h, g⟩
theorem al_good {w : Cond} (h : w ∈ al) : (w.onTables && w.keeps) = true ∨ ∃ ty, w = .arrayClass ty := good_of_word (List.mem_filter.mp h).2
theorem gd_al {c w : Cond} (h : w ∈ al) : w ∈ c :: al ∧ ((w.onTables && w.keeps) = true ∨ ∃ ty, w = .arrayClass ty) := ⟨List.mem_cons_of_mem _ h, al_good h⟩
theorem gd {c c' : Cond} (h : c' ∈ al) : GoodIn (c :: al) (c' :: al) := fun w hw => (List.mem_cons.mp hw).elim (fun e => e ▸ gd_al h) (fun hw => gd_al hw)
theorem gdV {c c' : Cond} {own C : String} {idx : Nat} {y : MethodName} (h1 : Cond.methodLink own idx y ∈ al) (h2 : Cond.instanceMethod y ∈ al) (h3 : Cond.selects C y y ∈ al) (h4 : Cond.initialized C ∈ al) (h5 : c' ∈ al) : GoodIn (c :: al) (wsV own idx C y (c' :: al)) := by
  intro w hw
  unfold wsV at hw
  rcases List.mem_append.mp hw with hw | hw
  · simp only [List.mem_cons, List.not_mem_nil, or_false] at hw
    rcases hw with rfl | rfl | rfl | rfl
    · exact gd_al h1
    · exact gd_al h2
    · exact gd_al h3
    · exact gd_al h4
  · exact gd h5 w hw
theorem gdS {c c' : Cond} {own : String} {idx : Nat} {y : MethodName} (h1 : Cond.methodLink own idx y ∈ al) (h2 : Cond.static y ∈ al) (h3 : Cond.initialized y.cls ∈ al) (h5 : c' ∈ al) : GoodIn (c :: al) (va_wsS own idx y (c' :: al)) := by
  intro w hw
  unfold va_wsS at hw
  rcases List.mem_append.mp hw with hw | hw
  · simp only [List.mem_cons, List.not_mem_nil, or_false] at hw
    rcases hw with rfl | rfl | rfl
    · exact gd_al h1
    · exact gd_al h2
    · exact gd_al h3
  · exact gd h5 w hw
theorem al_tbl {w : Cond} (h : w ∈ al) : w ∈ lw_tbl := (List.mem_filter.mp h).1
theorem gl {c' : Cond} (h : c' ∈ al) : GoodIn lw_tbl (c' :: al) := fun w hw => (List.mem_cons.mp hw).elim (fun e => e ▸ ⟨al_tbl h, al_good h⟩) (fun hw => ⟨al_tbl hw, al_good hw⟩)
theorem glV {c' : Cond} {own C : String} {idx : Nat} {y : MethodName} (h1 : Cond.methodLink own idx y ∈ al) (h2 : Cond.instanceMethod y ∈ al) (h3 : Cond.selects C y y ∈ al) (h4 : Cond.initialized C ∈ al) (h5 : c' ∈ al) : GoodIn lw_tbl (wsV own idx C y (c' :: al)) := by
  intro w hw
  unfold wsV at hw
  rcases List.mem_append.mp hw with hw | hw
  · simp only [List.mem_cons, List.not_mem_nil, or_false] at hw
    rcases hw with rfl | rfl | rfl | rfl
    · exact ⟨al_tbl h1, al_good h1⟩
    · exact ⟨al_tbl h2, al_good h2⟩
    · exact ⟨al_tbl h3, al_good h3⟩
    · exact ⟨al_tbl h4, al_good h4⟩
  · exact gl h5 w hw
theorem glS {c' : Cond} {own : String} {idx : Nat} {y : MethodName} (h1 : Cond.methodLink own idx y ∈ al) (h2 : Cond.static y ∈ al) (h3 : Cond.initialized y.cls ∈ al) (h5 : c' ∈ al) : GoodIn lw_tbl (va_wsS own idx y (c' :: al)) := by
  intro w hw
  unfold va_wsS at hw
  rcases List.mem_append.mp hw with hw | hw
  · simp only [List.mem_cons, List.not_mem_nil, or_false] at hw
    rcases hw with rfl | rfl | rfl
    · exact ⟨al_tbl h1, al_good h1⟩
    · exact ⟨al_tbl h2, al_good h2⟩
    · exact ⟨al_tbl h3, al_good h3⟩
  · exact gl h5 w hw
/-- the class of int arrays is one; of boolean arrays; of long arrays -/
theorem ar_I {D : va_G} {cl : List vw_C} {U : State} {tys : List (ClassId × FieldType)} {c0 c : ClassId} (i : Nat) (h0 : tys[i]? = some (c0, .int)) (h : va_K D cl (tys ++ [(c, .int)]) U) : c = c0 := by
  have h1 : U.vm.findClass ("[" ++ FieldType.int.toString) = some c0 := (h.2 i (c0, .int) (by rw [List.getElem?_append_left (List.getElem?_eq_some_iff.mp h0).1]; exact h0)).2
  have h2 : U.vm.findClass ("[" ++ FieldType.int.toString) = some c := (h.2 tys.length (c, .int) (by simp)).2
  exact Option.some.inj (h2.symm.trans h1)
theorem ar_Z {D : va_G} {cl : List vw_C} {U : State} {tys : List (ClassId × FieldType)} {c0 c : ClassId} (i : Nat) (h0 : tys[i]? = some (c0, .boolean)) (h : va_K D cl (tys ++ [(c, .boolean)]) U) : c = c0 := by
  have h1 : U.vm.findClass ("[" ++ FieldType.boolean.toString) = some c0 := (h.2 i (c0, .boolean) (by rw [List.getElem?_append_left (List.getElem?_eq_some_iff.mp h0).1]; exact h0)).2
  have h2 : U.vm.findClass ("[" ++ FieldType.boolean.toString) = some c := (h.2 tys.length (c, .boolean) (by simp)).2
  exact Option.some.inj (h2.symm.trans h1)
theorem ar_J {D : va_G} {cl : List vw_C} {U : State} {tys : List (ClassId × FieldType)} {c0 c : ClassId} (i : Nat) (h0 : tys[i]? = some (c0, .long)) (h : va_K D cl (tys ++ [(c, .long)]) U) : c = c0 := by
  have h1 : U.vm.findClass ("[" ++ FieldType.long.toString) = some c0 := (h.2 i (c0, .long) (by rw [List.getElem?_append_left (List.getElem?_eq_some_iff.mp h0).1]; exact h0)).2
  have h2 : U.vm.findClass ("[" ++ FieldType.long.toString) = some c := (h.2 tys.length (c, .long) (by simp)).2
  exact Option.some.inj (h2.symm.trans h1)
/-- the exceptions' names -/
def ex_n (k : Nat) : String := match k with
  | 1 => "java/lang/IllegalArgumentException"
  | 2 => "java/lang/IllegalStateException"
  | _ => "java/util/NoSuchElementException"
def TT_0 : u_T := fun k => match k with
  | 0 => ("ClaimSources$Claims", "sourceSets", "[I", true)
  | 1 => ("ClaimSources$Claims", "otherSets", "[I", true)
  | 2 => ("ClaimSources$Claims", "rules", "[I", true)
  | 3 => ("ClaimSources$Claims", "ringClaims", "[I", true)
  | 4 => ("ClaimSources$Claims", "steps", "[I", true)
  | 5 => ("ClaimSources$Claims", "made", "I", false)
  | _ => ("ClaimSources$Claims", "ringLength", "I", false)
def ty_0 : Nat → FieldType := fun k => match k with
  | 0 => .array .int
  | 1 => .array .int
  | 2 => .array .int
  | 3 => .array .int
  | 4 => .array .int
  | 5 => .int
  | _ => .int
theorem nn_0 : ∀ a, a < 7 → ∀ b, b < 7 → a ≠ b → (TT_0 a).2.1 ≠ (TT_0 b).2.1 := by decide +kernel
theorem tyok_0 : ∀ k, k < 7 → parseFieldDescriptor (TT_0 k).2.2.1 = some (ty_0 k) := by decide +kernel
theorem ia_0 : ∀ w ∈ u_ws "ClaimSources$Claims" TT_0 7, w ∈ al := fun w h => mem_al ((by decide +kernel : ∀ w ∈ u_ws "ClaimSources$Claims" TT_0 7, w ∈ lw_tbl) w h) ((by decide +kernel : ∀ w ∈ u_ws "ClaimSources$Claims" TT_0 7, goodWord w = true) w h)
def TT_1 : u_T := fun k => match k with
  | 0 => ("ClaimSources$Opinions", "persons", "[I", true)
  | 1 => ("ClaimSources$Opinions", "claimNumbers", "[I", true)
  | 2 => ("ClaimSources$Opinions", "days", "[I", true)
  | 3 => ("ClaimSources$Opinions", "values", "[I", true)
  | 4 => ("ClaimSources$Opinions", "ranks", "[I", true)
  | 5 => ("ClaimSources$Opinions", "known", "[I", true)
  | 6 => ("ClaimSources$Opinions", "tally", "[I", true)
  | _ => ("ClaimSources$Opinions", "made", "I", false)
def ty_1 : Nat → FieldType := fun k => match k with
  | 0 => .array .int
  | 1 => .array .int
  | 2 => .array .int
  | 3 => .array .int
  | 4 => .array .int
  | 5 => .array .int
  | 6 => .array .int
  | _ => .int
theorem nn_1 : ∀ a, a < 8 → ∀ b, b < 8 → a ≠ b → (TT_1 a).2.1 ≠ (TT_1 b).2.1 := by decide +kernel
theorem tyok_1 : ∀ k, k < 8 → parseFieldDescriptor (TT_1 k).2.2.1 = some (ty_1 k) := by decide +kernel
theorem ia_1 : ∀ w ∈ u_ws "ClaimSources$Opinions" TT_1 8, w ∈ al := fun w h => mem_al ((by decide +kernel : ∀ w ∈ u_ws "ClaimSources$Opinions" TT_1 8, w ∈ lw_tbl) w h) ((by decide +kernel : ∀ w ∈ u_ws "ClaimSources$Opinions" TT_1 8, goodWord w = true) w h)
def TT_2 : u_T := fun k => match k with
  | 0 => ("ClaimSources$Sources", "kinds", "[I", true)
  | 1 => ("ClaimSources$Sources", "days", "[I", true)
  | 2 => ("ClaimSources$Sources", "withdrawals", "[I", true)
  | _ => ("ClaimSources$Sources", "made", "I", false)
def ty_2 : Nat → FieldType := fun k => match k with
  | 0 => .array .int
  | 1 => .array .int
  | 2 => .array .int
  | _ => .int
theorem nn_2 : ∀ a, a < 4 → ∀ b, b < 4 → a ≠ b → (TT_2 a).2.1 ≠ (TT_2 b).2.1 := by decide +kernel
theorem tyok_2 : ∀ k, k < 4 → parseFieldDescriptor (TT_2 k).2.2.1 = some (ty_2 k) := by decide +kernel
theorem ia_2 : ∀ w ∈ u_ws "ClaimSources$Sources" TT_2 4, w ∈ al := fun w h => mem_al ((by decide +kernel : ∀ w ∈ u_ws "ClaimSources$Sources" TT_2 4, w ∈ lw_tbl) w h) ((by decide +kernel : ∀ w ∈ u_ws "ClaimSources$Sources" TT_2 4, goodWord w = true) w h)
def TT_3 : u_T := fun k => match k with
  | 0 => ("ClaimSources$Texts", "signs", "[I", true)
  | _ => ("ClaimSources$Texts", "lengths", "[I", true)
def ty_3 : Nat → FieldType := fun k => match k with
  | 0 => .array .int
  | _ => .array .int
theorem nn_3 : ∀ a, a < 2 → ∀ b, b < 2 → a ≠ b → (TT_3 a).2.1 ≠ (TT_3 b).2.1 := by decide +kernel
theorem tyok_3 : ∀ k, k < 2 → parseFieldDescriptor (TT_3 k).2.2.1 = some (ty_3 k) := by decide +kernel
theorem ia_3 : ∀ w ∈ u_ws "ClaimSources$Texts" TT_3 2, w ∈ al := fun w h => mem_al ((by decide +kernel : ∀ w ∈ u_ws "ClaimSources$Texts" TT_3 2, w ∈ lw_tbl) w h) ((by decide +kernel : ∀ w ∈ u_ws "ClaimSources$Texts" TT_3 2, goodWord w = true) w h)
def TT_4 : u_T := fun k => match k with
  | 0 => ("ClaimSources", "texts", "LClaimSources$Texts;", true)
  | 1 => ("ClaimSources", "sources", "LClaimSources$Sources;", true)
  | 2 => ("ClaimSources", "claims", "LClaimSources$Claims;", true)
  | _ => ("ClaimSources", "opinions", "LClaimSources$Opinions;", true)
def ty_4 : Nat → FieldType := fun k => match k with
  | 0 => .object "ClaimSources$Texts"
  | 1 => .object "ClaimSources$Sources"
  | 2 => .object "ClaimSources$Claims"
  | _ => .object "ClaimSources$Opinions"
theorem nn_4 : ∀ a, a < 4 → ∀ b, b < 4 → a ≠ b → (TT_4 a).2.1 ≠ (TT_4 b).2.1 := by decide +kernel
theorem tyok_4 : ∀ k, k < 4 → parseFieldDescriptor (TT_4 k).2.2.1 = some (ty_4 k) := by decide +kernel
theorem ia_4 : ∀ w ∈ u_ws "ClaimSources" TT_4 4, w ∈ al := fun w h => mem_al ((by decide +kernel : ∀ w ∈ u_ws "ClaimSources" TT_4 4, w ∈ lw_tbl) w h) ((by decide +kernel : ∀ w ∈ u_ws "ClaimSources" TT_4 4, goodWord w = true) w h)
def TT_5 : u_T := fun k => match k with
  | 0 => ("ClaimSourcesModel", "thrown", "I", false)
  | 1 => ("ClaimSourcesModel", "padded", "I", false)
  | 2 => ("ClaimSourcesModel", "pad", "[I", true)
  | 3 => ("ClaimSourcesModel", "sources", "I", false)
  | 4 => ("ClaimSourcesModel", "kinds", "[I", true)
  | 5 => ("ClaimSourcesModel", "days", "[I", true)
  | 6 => ("ClaimSourcesModel", "withdrawn", "[I", true)
  | 7 => ("ClaimSourcesModel", "lengths", "[I", true)
  | 8 => ("ClaimSourcesModel", "texts", "[I", true)
  | 9 => ("ClaimSourcesModel", "formLengths", "[I", true)
  | 10 => ("ClaimSourcesModel", "forms", "[I", true)
  | 11 => ("ClaimSourcesModel", "claims", "I", false)
  | 12 => ("ClaimSourcesModel", "onSource", "[Z", true)
  | 13 => ("ClaimSourcesModel", "onClaim", "[Z", true)
  | 14 => ("ClaimSourcesModel", "rules", "[I", true)
  | 15 => ("ClaimSourcesModel", "rings", "I", false)
  | 16 => ("ClaimSourcesModel", "ring", "[I", true)
  | 17 => ("ClaimSourcesModel", "far", "[I", true)
  | 18 => ("ClaimSourcesModel", "held", "[Z", true)
  | 19 => ("ClaimSourcesModel", "heldBefore", "[Z", true)
  | 20 => ("ClaimSourcesModel", "opinions", "I", false)
  | 21 => ("ClaimSourcesModel", "persons", "[I", true)
  | 22 => ("ClaimSourcesModel", "ofClaims", "[I", true)
  | 23 => ("ClaimSourcesModel", "values", "[I", true)
  | 24 => ("ClaimSourcesModel", "when", "[I", true)
  | 25 => ("ClaimSourcesModel", "ranks", "[I", true)
  | 26 => ("ClaimSourcesModel", "known", "[I", true)
  | _ => ("ClaimSourcesModel", "counts", "[I", true)
def ty_5 : Nat → FieldType := fun k => match k with
  | 0 => .int
  | 1 => .int
  | 2 => .array .int
  | 3 => .int
  | 4 => .array .int
  | 5 => .array .int
  | 6 => .array .int
  | 7 => .array .int
  | 8 => .array .int
  | 9 => .array .int
  | 10 => .array .int
  | 11 => .int
  | 12 => .array .boolean
  | 13 => .array .boolean
  | 14 => .array .int
  | 15 => .int
  | 16 => .array .int
  | 17 => .array .int
  | 18 => .array .boolean
  | 19 => .array .boolean
  | 20 => .int
  | 21 => .array .int
  | 22 => .array .int
  | 23 => .array .int
  | 24 => .array .int
  | 25 => .array .int
  | 26 => .array .int
  | _ => .array .int
theorem nn_5 : ∀ a, a < 28 → ∀ b, b < 28 → a ≠ b → (TT_5 a).2.1 ≠ (TT_5 b).2.1 := by decide +kernel
theorem tyok_5 : ∀ k, k < 28 → parseFieldDescriptor (TT_5 k).2.2.1 = some (ty_5 k) := by decide +kernel
theorem ia_5 : ∀ w ∈ u_ws "ClaimSourcesModel" TT_5 28, w ∈ al := fun w h => mem_al ((by decide +kernel : ∀ w ∈ u_ws "ClaimSourcesModel" TT_5 28, w ∈ lw_tbl) w h) ((by decide +kernel : ∀ w ∈ u_ws "ClaimSourcesModel" TT_5 28, goodWord w = true) w h)
abbrev vwCl : List vw_C := [("ClaimSources$Claims", TT_0, 7), ("ClaimSources$Opinions", TT_1, 8), ("ClaimSources$Sources", TT_2, 4), ("ClaimSources$Texts", TT_3, 2), ("ClaimSources", TT_4, 4), ("ClaimSourcesModel", TT_5, 28)]
