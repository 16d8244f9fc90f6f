/-! NAMES (mine, by a text program): the classes whose objects the memory holds, the words that stay true as the machine warms -/
def am_tw : Cond → Bool
  | .arrayClass _ => true
  | .fieldLinkNest .. => true
  | .methodLinkNest .. => true
  | .declares _ => true
  | .castable .. => true
  | w => w.onTables && w.keeps
theorem am_warm {s0 s : State} {A A' : Array Value} (hW : s0.WarmedH s.vm) {w : Cond} (h : am_tw w = true) (hb : w.before A s0 = true) : w.before A' s = true := by
  by_cases hg : goodWord w = true
  · exact word_at hW (good_of_word hg) hb
  · cases w <;> first
      | exact absurd h hg
      | exact absurd rfl hg
      | exact va_Nw.use rfl (va_Nw.warmF hW (va_Nw.of rfl hb))
      | exact va_Nw.use rfl (va_Nw.warmM hW (va_Nw.of rfl hb))
      | exact va_Nw.use rfl (va_Nw.warmD hW (va_Nw.of rfl hb))
      | exact va_Nw.use rfl (va_Nw.warmC hW (va_Nw.of rfl hb))
def am_has (w : Cond) : Prop := w ∈ lw_tbl ∧ am_tw w = true
theorem am_at {k : Nat} {w : Cond} (h : tables_1[k]? = some w) (h2 : am_tw w = true) : am_has w := ⟨List.mem_append_right _ (List.mem_of_getElem? h), h2⟩
theorem am_atp {k : Nat} {w : Cond} (h : (k2_sels lw_privs)[k]? = some w) (h2 : am_tw w = true) : am_has w := ⟨List.mem_append_left _ (List.mem_of_getElem? h), h2⟩

def cq_T0 : u_T := fun k => match k with
  | 0 => ("ValueReckoner", "tape", "LValueReckoner$Tape;", true)
  | 1 => ("ValueReckoner", "variables", "LValueReckoner$Variables;", true)
  | 2 => ("ValueReckoner", "reader", "LValueReckoner$Reader;", true)
  | 3 => ("ValueReckoner", "place", "I", false)
  | _ => ("ValueReckoner", "error", "I", false)
def cq_t0 : Nat → FieldType := fun k => match k with
  | 0 => .object "ValueReckoner$Tape"
  | 1 => .object "ValueReckoner$Variables"
  | 2 => .object "ValueReckoner$Reader"
  | 3 => .int
  | _ => .int
def cq_T1 : u_T := fun k => match k with
  | 0 => ("ValueReckoner$Tape", "bytes", "[B", true)
  | _ => ("ValueReckoner$Tape", "length", "I", false)
def cq_t1 : Nat → FieldType := fun k => match k with
  | 0 => .array .byte
  | _ => .int
def cq_T2 : u_T := fun k => match k with
  | _ => ("ValueReckoner$Variables", "held", "Ljava/util/ArrayList;", true)
def cq_t2 : Nat → FieldType := fun k => match k with
  | _ => .object "java/util/ArrayList"
def cq_T3 : u_T := fun k => match k with
  | 0 => ("java/util/AbstractList", "modCount", "I", false)
  | 1 => ("java/util/ArrayList", "elementData", "[Ljava/lang/Object;", false)
  | _ => ("java/util/ArrayList", "size", "I", false)
def cq_t3 : Nat → FieldType := fun k => match k with
  | 0 => .int
  | 1 => .array (.object "java/lang/Object")
  | _ => .int
def cq_T4 : u_T := fun k => match k with
  | 0 => ("ValueReckoner$Variable", "name", "[B", true)
  | _ => ("ValueReckoner$Variable", "number", "J", false)
def cq_t4 : Nat → FieldType := fun k => match k with
  | 0 => .array .byte
  | _ => .long
def cq_T5 : u_T := fun k => match k with
  | 0 => ("ValueReckoner$Reader", "tape", "LValueReckoner$Tape;", true)
  | 1 => ("ValueReckoner$Reader", "variables", "LValueReckoner$Variables;", true)
  | 2 => ("ValueReckoner$Reader", "sign", "LValueReckoner$Sign;", true)
  | 3 => ("ValueReckoner$Reader", "open", "[LValueReckoner$OpenTerm;", true)
  | 4 => ("ValueReckoner$Reader", "depth", "I", false)
  | 5 => ("ValueReckoner$Reader", "isOperandDue", "Z", false)
  | 6 => ("ValueReckoner$Reader", "isDone", "Z", false)
  | 7 => ("ValueReckoner$Reader", "symbols", "I", false)
  | 8 => ("ValueReckoner$Reader", "place", "I", false)
  | 9 => ("ValueReckoner$Reader", "outermost", "LValueReckoner$Name;", false)
  | 10 => ("ValueReckoner$Reader", "left", "LValueReckoner$Operand;", true)
  | 11 => ("ValueReckoner$Reader", "right", "LValueReckoner$Operand;", true)
  | _ => ("ValueReckoner$Reader", "latest", "LValueReckoner$Operand;", true)
def cq_t5 : Nat → FieldType := fun k => match k with
  | 0 => .object "ValueReckoner$Tape"
  | 1 => .object "ValueReckoner$Variables"
  | 2 => .object "ValueReckoner$Sign"
  | 3 => .array (.object "ValueReckoner$OpenTerm")
  | 4 => .int
  | 5 => .boolean
  | 6 => .boolean
  | 7 => .int
  | 8 => .int
  | 9 => .object "ValueReckoner$Name"
  | 10 => .object "ValueReckoner$Operand"
  | 11 => .object "ValueReckoner$Operand"
  | _ => .object "ValueReckoner$Operand"
def cq_T6 : u_T := fun k => match k with
  | 0 => ("ValueReckoner$Sign", "tape", "LValueReckoner$Tape;", true)
  | 1 => ("ValueReckoner$Sign", "kind", "LValueReckoner$Kind;", false)
  | 2 => ("ValueReckoner$Sign", "place", "I", false)
  | 3 => ("ValueReckoner$Sign", "after", "I", false)
  | 4 => ("ValueReckoner$Sign", "number", "J", false)
  | 5 => ("ValueReckoner$Sign", "name", "LValueReckoner$Name;", false)
  | 6 => ("ValueReckoner$Sign", "nameFrom", "I", false)
  | _ => ("ValueReckoner$Sign", "nameTo", "I", false)
def cq_t6 : Nat → FieldType := fun k => match k with
  | 0 => .object "ValueReckoner$Tape"
  | 1 => .object "ValueReckoner$Kind"
  | 2 => .int
  | 3 => .int
  | 4 => .long
  | 5 => .object "ValueReckoner$Name"
  | 6 => .int
  | _ => .int
def cq_T7 : u_T := fun k => match k with
  | 0 => ("ValueReckoner$OpenTerm", "role", "LValueReckoner$Role;", false)
  | 1 => ("ValueReckoner$OpenTerm", "name", "LValueReckoner$Name;", false)
  | 2 => ("ValueReckoner$OpenTerm", "most", "I", false)
  | 3 => ("ValueReckoner$OpenTerm", "priority", "I", false)
  | 4 => ("ValueReckoner$OpenTerm", "arguments", "I", false)
  | _ => ("ValueReckoner$OpenTerm", "first", "LValueReckoner$Operand;", true)
def cq_t7 : Nat → FieldType := fun k => match k with
  | 0 => .object "ValueReckoner$Role"
  | 1 => .object "ValueReckoner$Name"
  | 2 => .int
  | 3 => .int
  | 4 => .int
  | _ => .object "ValueReckoner$Operand"
def cq_T8 : u_T := fun k => match k with
  | 0 => ("ValueReckoner$Operand", "error", "I", false)
  | 1 => ("ValueReckoner$Operand", "number", "J", false)
  | 2 => ("ValueReckoner$Operand", "nameFrom", "I", false)
  | _ => ("ValueReckoner$Operand", "nameTo", "I", false)
def cq_t8 : Nat → FieldType := fun k => match k with
  | 0 => .int
  | 1 => .long
  | 2 => .int
  | _ => .int
def cq_T9 : u_T := fun k => match k with
  | 0 => ("ValueReckonerModel", "thrown", "I", false)
  | 1 => ("ValueReckonerModel", "taped", "I", false)
  | 2 => ("ValueReckonerModel", "place", "I", false)
  | 3 => ("ValueReckonerModel", "error", "I", false)
  | 4 => ("ValueReckonerModel", "valued", "I", false)
  | 5 => ("ValueReckonerModel", "tape", "[B", true)
  | 6 => ("ValueReckonerModel", "terms", "LValueReckonerModel$Terms;", true)
  | 7 => ("ValueReckonerModel", "names", "LValueReckonerModel$Names;", true)
  | 8 => ("ValueReckonerModel", "reader", "LValueReckonerModel$Reader;", true)
  | 9 => ("ValueReckonerModel", "spelled", "[B", true)
  | 10 => ("ValueReckonerModel", "spelledFrom", "[I", true)
  | 11 => ("ValueReckonerModel", "valueOf", "[J", true)
  | 12 => ("ValueReckonerModel", "walk", "[I", true)
  | 13 => ("ValueReckonerModel", "stage", "[I", true)
  | 14 => ("ValueReckonerModel", "left", "[J", true)
  | _ => ("ValueReckonerModel", "result", "J", false)
def cq_t9 : Nat → FieldType := fun k => match k with
  | 0 => .int
  | 1 => .int
  | 2 => .int
  | 3 => .int
  | 4 => .int
  | 5 => .array .byte
  | 6 => .object "ValueReckonerModel$Terms"
  | 7 => .object "ValueReckonerModel$Names"
  | 8 => .object "ValueReckonerModel$Reader"
  | 9 => .array .byte
  | 10 => .array .int
  | 11 => .array .long
  | 12 => .array .int
  | 13 => .array .int
  | 14 => .array .long
  | _ => .long
def cq_T10 : u_T := fun k => match k with
  | 0 => ("ValueReckonerModel$Terms", "kind", "[I", true)
  | 1 => ("ValueReckonerModel$Terms", "name", "[I", true)
  | 2 => ("ValueReckonerModel$Terms", "first", "[I", true)
  | 3 => ("ValueReckonerModel$Terms", "many", "[I", true)
  | 4 => ("ValueReckonerModel$Terms", "part", "[I", true)
  | 5 => ("ValueReckonerModel$Terms", "number", "[J", true)
  | 6 => ("ValueReckonerModel$Terms", "size", "I", false)
  | _ => ("ValueReckonerModel$Terms", "parts", "I", false)
def cq_t10 : Nat → FieldType := fun k => match k with
  | 0 => .array .int
  | 1 => .array .int
  | 2 => .array .int
  | 3 => .array .int
  | 4 => .array .int
  | 5 => .array .long
  | 6 => .int
  | _ => .int
def cq_T11 : u_T := fun k => match k with
  | 0 => ("ValueReckonerModel$Names", "text", "[B", true)
  | 1 => ("ValueReckonerModel$Names", "from", "[I", true)
  | 2 => ("ValueReckonerModel$Names", "next", "[I", true)
  | 3 => ("ValueReckonerModel$Names", "first", "[I", true)
  | 4 => ("ValueReckonerModel$Names", "size", "I", false)
  | _ => ("ValueReckonerModel$Names", "texted", "I", false)
def cq_t11 : Nat → FieldType := fun k => match k with
  | 0 => .array .byte
  | 1 => .array .int
  | 2 => .array .int
  | 3 => .array .int
  | 4 => .int
  | _ => .int
def cq_T12 : u_T := fun k => match k with
  | 0 => ("ValueReckonerModel$Reader", "sides", "[Ljava/lang/String;", true)
  | 1 => ("ValueReckonerModel$Reader", "ranks", "[I", true)
  | 2 => ("ValueReckonerModel$Reader", "stop", "Ljava/lang/IllegalStateException;", true)
  | 3 => ("ValueReckonerModel$Reader", "terms", "LValueReckonerModel$Terms;", true)
  | 4 => ("ValueReckonerModel$Reader", "names", "LValueReckonerModel$Names;", true)
  | 5 => ("ValueReckonerModel$Reader", "s", "[B", false)
  | 6 => ("ValueReckonerModel$Reader", "n", "I", false)
  | 7 => ("ValueReckonerModel$Reader", "at", "I", false)
  | 8 => ("ValueReckonerModel$Reader", "behind", "I", false)
  | 9 => ("ValueReckonerModel$Reader", "token", "I", false)
  | 10 => ("ValueReckonerModel$Reader", "open", "I", false)
  | 11 => ("ValueReckonerModel$Reader", "number", "J", false)
  | 12 => ("ValueReckonerModel$Reader", "word", "[B", true)
  | 13 => ("ValueReckonerModel$Reader", "letters", "I", false)
  | 14 => ("ValueReckonerModel$Reader", "stack", "[I", true)
  | 15 => ("ValueReckonerModel$Reader", "top", "I", false)
  | 16 => ("ValueReckonerModel$Reader", "place", "I", false)
  | 17 => ("ValueReckonerModel$Reader", "variables", "[I", true)
  | 18 => ("ValueReckonerModel$Reader", "variabled", "I", false)
  | 19 => ("ValueReckonerModel$Reader", "known", "I", false)
  | 20 => ("ValueReckonerModel$Reader", "rank", "I", false)
  | _ => ("ValueReckonerModel$Reader", "kept", "[B", true)
def cq_t12 : Nat → FieldType := fun k => match k with
  | 0 => .array (.object "java/lang/String")
  | 1 => .array .int
  | 2 => .object "java/lang/IllegalStateException"
  | 3 => .object "ValueReckonerModel$Terms"
  | 4 => .object "ValueReckonerModel$Names"
  | 5 => .array .byte
  | 6 => .int
  | 7 => .int
  | 8 => .int
  | 9 => .int
  | 10 => .int
  | 11 => .long
  | 12 => .array .byte
  | 13 => .int
  | 14 => .array .int
  | 15 => .int
  | 16 => .int
  | 17 => .array .int
  | 18 => .int
  | 19 => .int
  | 20 => .int
  | _ => .array .byte
def cq_T13 : u_T := fun k => match k with
  | _ => ("", "", "", false)
def cq_t13 : Nat → FieldType := fun k => match k with
  | _ => .int
def cq_T14 : u_T := fun k => match k with
  | _ => ("", "", "", false)
def cq_t14 : Nat → FieldType := fun k => match k with
  | _ => .int
def cq_T15 : u_T := fun k => match k with
  | _ => ("", "", "", false)
def cq_t15 : Nat → FieldType := fun k => match k with
  | _ => .int
def cq_T16 : u_T := fun k => match k with
  | _ => ("", "", "", false)
def cq_t16 : Nat → FieldType := fun k => match k with
  | _ => .int
def cq_T17 : u_T := fun k => match k with
  | _ => ("", "", "", false)
def cq_t17 : Nat → FieldType := fun k => match k with
  | _ => .int
def am_cl : List vw_C := [("ValueReckoner", cq_T0, 5), ("ValueReckoner$Tape", cq_T1, 2), ("ValueReckoner$Variables", cq_T2, 1), ("java/util/ArrayList", cq_T3, 3), ("ValueReckoner$Variable", cq_T4, 2), ("ValueReckoner$Reader", cq_T5, 13), ("ValueReckoner$Sign", cq_T6, 8), ("ValueReckoner$OpenTerm", cq_T7, 6), ("ValueReckoner$Operand", cq_T8, 4), ("ValueReckonerModel", cq_T9, 16), ("ValueReckonerModel$Terms", cq_T10, 8), ("ValueReckonerModel$Names", cq_T11, 6), ("ValueReckonerModel$Reader", cq_T12, 22), ("java/lang/IndexOutOfBoundsException", cq_T13, 0), ("java/lang/IllegalArgumentException", cq_T14, 0), ("java/lang/ArithmeticException", cq_T15, 0), ("java/lang/UnsupportedOperationException", cq_T16, 0), ("java/lang/IllegalStateException", cq_T17, 0)]
def am_clP (ci : Nat) (C : String) (T : u_T) (N : Nat) (ty : Nat → FieldType) : Prop := am_cl[ci]? = some (C, T, N) ∧ (∀ w ∈ u_ws C T N, am_has w) ∧ (∀ k, k < N → parseFieldDescriptor (T k).2.2.1 = some (ty k)) ∧ ∀ a, a < N → ∀ b, b < N → a ≠ b → (T a).2.1 ≠ (T b).2.1
theorem cq_w0 : ∀ w ∈ u_ws "ValueReckoner" cq_T0 5, am_has w := by
  show ∀ w ∈ [u_lay "ValueReckoner" cq_T0 0, u_lay "ValueReckoner" cq_T0 1, u_lay "ValueReckoner" cq_T0 2, u_lay "ValueReckoner" cq_T0 3, u_lay "ValueReckoner" cq_T0 4], am_has w
  exact List.forall_mem_cons.mpr ⟨am_at (k := 256) (by decide +kernel) (by decide +kernel), List.forall_mem_cons.mpr ⟨am_at (k := 258) (by decide +kernel) (by decide +kernel), List.forall_mem_cons.mpr ⟨am_at (k := 260) (by decide +kernel) (by decide +kernel), List.forall_mem_cons.mpr ⟨am_at (k := 262) (by decide +kernel) (by decide +kernel), List.forall_mem_cons.mpr ⟨am_at (k := 264) (by decide +kernel) (by decide +kernel), fun _ h => absurd h List.not_mem_nil⟩⟩⟩⟩⟩
theorem cq_ok0 : am_clP 0 "ValueReckoner" cq_T0 5 cq_t0 := ⟨rfl, cq_w0, by decide +kernel, by decide +kernel⟩
theorem cq_w1 : ∀ w ∈ u_ws "ValueReckoner$Tape" cq_T1 2, am_has w := by
  show ∀ w ∈ [u_lay "ValueReckoner$Tape" cq_T1 0, u_lay "ValueReckoner$Tape" cq_T1 1], am_has w
  exact List.forall_mem_cons.mpr ⟨am_at (k := 59) (by decide +kernel) (by decide +kernel), List.forall_mem_cons.mpr ⟨am_at (k := 61) (by decide +kernel) (by decide +kernel), fun _ h => absurd h List.not_mem_nil⟩⟩
theorem cq_ok1 : am_clP 1 "ValueReckoner$Tape" cq_T1 2 cq_t1 := ⟨rfl, cq_w1, by decide +kernel, by decide +kernel⟩
theorem cq_w2 : ∀ w ∈ u_ws "ValueReckoner$Variables" cq_T2 1, am_has w := by
  show ∀ w ∈ [u_lay "ValueReckoner$Variables" cq_T2 0], am_has w
  exact List.forall_mem_cons.mpr ⟨am_at (k := 99) (by decide +kernel) (by decide +kernel), fun _ h => absurd h List.not_mem_nil⟩
theorem cq_ok2 : am_clP 2 "ValueReckoner$Variables" cq_T2 1 cq_t2 := ⟨rfl, cq_w2, by decide +kernel, by decide +kernel⟩
theorem cq_w3 : ∀ w ∈ u_ws "java/util/ArrayList" cq_T3 3, am_has w := by
  show ∀ w ∈ [u_lay "java/util/ArrayList" cq_T3 0, u_lay "java/util/ArrayList" cq_T3 1, u_lay "java/util/ArrayList" cq_T3 2], am_has w
  exact List.forall_mem_cons.mpr ⟨am_at (k := 94) (by decide +kernel) (by decide +kernel), List.forall_mem_cons.mpr ⟨am_at (k := 90) (by decide +kernel) (by decide +kernel), List.forall_mem_cons.mpr ⟨am_at (k := 92) (by decide +kernel) (by decide +kernel), fun _ h => absurd h List.not_mem_nil⟩⟩⟩
theorem cq_ok3 : am_clP 3 "java/util/ArrayList" cq_T3 3 cq_t3 := ⟨rfl, cq_w3, by decide +kernel, by decide +kernel⟩
theorem cq_w4 : ∀ w ∈ u_ws "ValueReckoner$Variable" cq_T4 2, am_has w := by
  show ∀ w ∈ [u_lay "ValueReckoner$Variable" cq_T4 0, u_lay "ValueReckoner$Variable" cq_T4 1], am_has w
  exact List.forall_mem_cons.mpr ⟨am_at (k := 836) (by decide +kernel) (by decide +kernel), List.forall_mem_cons.mpr ⟨am_at (k := 838) (by decide +kernel) (by decide +kernel), fun _ h => absurd h List.not_mem_nil⟩⟩
theorem cq_ok4 : am_clP 4 "ValueReckoner$Variable" cq_T4 2 cq_t4 := ⟨rfl, cq_w4, by decide +kernel, by decide +kernel⟩
theorem cq_w5 : ∀ w ∈ u_ws "ValueReckoner$Reader" cq_T5 13, am_has w := by
  show ∀ w ∈ [u_lay "ValueReckoner$Reader" cq_T5 0, u_lay "ValueReckoner$Reader" cq_T5 1, u_lay "ValueReckoner$Reader" cq_T5 2, u_lay "ValueReckoner$Reader" cq_T5 3, u_lay "ValueReckoner$Reader" cq_T5 4, u_lay "ValueReckoner$Reader" cq_T5 5, u_lay "ValueReckoner$Reader" cq_T5 6, u_lay "ValueReckoner$Reader" cq_T5 7, u_lay "ValueReckoner$Reader" cq_T5 8, u_lay "ValueReckoner$Reader" cq_T5 9, u_lay "ValueReckoner$Reader" cq_T5 10, u_lay "ValueReckoner$Reader" cq_T5 11, u_lay "ValueReckoner$Reader" cq_T5 12], am_has w
  exact List.forall_mem_cons.mpr ⟨am_at (k := 224) (by decide +kernel) (by decide +kernel), List.forall_mem_cons.mpr ⟨am_at (k := 226) (by decide +kernel) (by decide +kernel), List.forall_mem_cons.mpr ⟨am_at (k := 228) (by decide +kernel) (by decide +kernel), List.forall_mem_cons.mpr ⟨am_at (k := 230) (by decide +kernel) (by decide +kernel), List.forall_mem_cons.mpr ⟨am_at (k := 232) (by decide +kernel) (by decide +kernel), List.forall_mem_cons.mpr ⟨am_at (k := 234) (by decide +kernel) (by decide +kernel), List.forall_mem_cons.mpr ⟨am_at (k := 236) (by decide +kernel) (by decide +kernel), List.forall_mem_cons.mpr ⟨am_at (k := 238) (by decide +kernel) (by decide +kernel), List.forall_mem_cons.mpr ⟨am_at (k := 240) (by decide +kernel) (by decide +kernel), List.forall_mem_cons.mpr ⟨am_at (k := 242) (by decide +kernel) (by decide +kernel), List.forall_mem_cons.mpr ⟨am_at (k := 244) (by decide +kernel) (by decide +kernel), List.forall_mem_cons.mpr ⟨am_at (k := 246) (by decide +kernel) (by decide +kernel), List.forall_mem_cons.mpr ⟨am_at (k := 248) (by decide +kernel) (by decide +kernel), fun _ h => absurd h List.not_mem_nil⟩⟩⟩⟩⟩⟩⟩⟩⟩⟩⟩⟩⟩
theorem cq_ok5 : am_clP 5 "ValueReckoner$Reader" cq_T5 13 cq_t5 := ⟨rfl, cq_w5, by decide +kernel, by decide +kernel⟩
theorem cq_w6 : ∀ w ∈ u_ws "ValueReckoner$Sign" cq_T6 8, am_has w := by
  show ∀ w ∈ [u_lay "ValueReckoner$Sign" cq_T6 0, u_lay "ValueReckoner$Sign" cq_T6 1, u_lay "ValueReckoner$Sign" cq_T6 2, u_lay "ValueReckoner$Sign" cq_T6 3, u_lay "ValueReckoner$Sign" cq_T6 4, u_lay "ValueReckoner$Sign" cq_T6 5, u_lay "ValueReckoner$Sign" cq_T6 6, u_lay "ValueReckoner$Sign" cq_T6 7], am_has w
  exact List.forall_mem_cons.mpr ⟨am_at (k := 131) (by decide +kernel) (by decide +kernel), List.forall_mem_cons.mpr ⟨am_at (k := 133) (by decide +kernel) (by decide +kernel), List.forall_mem_cons.mpr ⟨am_at (k := 135) (by decide +kernel) (by decide +kernel), List.forall_mem_cons.mpr ⟨am_at (k := 137) (by decide +kernel) (by decide +kernel), List.forall_mem_cons.mpr ⟨am_at (k := 139) (by decide +kernel) (by decide +kernel), List.forall_mem_cons.mpr ⟨am_at (k := 141) (by decide +kernel) (by decide +kernel), List.forall_mem_cons.mpr ⟨am_at (k := 143) (by decide +kernel) (by decide +kernel), List.forall_mem_cons.mpr ⟨am_at (k := 145) (by decide +kernel) (by decide +kernel), fun _ h => absurd h List.not_mem_nil⟩⟩⟩⟩⟩⟩⟩⟩
theorem cq_ok6 : am_clP 6 "ValueReckoner$Sign" cq_T6 8 cq_t6 := ⟨rfl, cq_w6, by decide +kernel, by decide +kernel⟩
theorem cq_w7 : ∀ w ∈ u_ws "ValueReckoner$OpenTerm" cq_T7 6, am_has w := by
  show ∀ w ∈ [u_lay "ValueReckoner$OpenTerm" cq_T7 0, u_lay "ValueReckoner$OpenTerm" cq_T7 1, u_lay "ValueReckoner$OpenTerm" cq_T7 2, u_lay "ValueReckoner$OpenTerm" cq_T7 3, u_lay "ValueReckoner$OpenTerm" cq_T7 4, u_lay "ValueReckoner$OpenTerm" cq_T7 5], am_has w
  exact List.forall_mem_cons.mpr ⟨am_at (k := 190) (by decide +kernel) (by decide +kernel), List.forall_mem_cons.mpr ⟨am_at (k := 192) (by decide +kernel) (by decide +kernel), List.forall_mem_cons.mpr ⟨am_at (k := 194) (by decide +kernel) (by decide +kernel), List.forall_mem_cons.mpr ⟨am_at (k := 196) (by decide +kernel) (by decide +kernel), List.forall_mem_cons.mpr ⟨am_at (k := 198) (by decide +kernel) (by decide +kernel), List.forall_mem_cons.mpr ⟨am_at (k := 200) (by decide +kernel) (by decide +kernel), fun _ h => absurd h List.not_mem_nil⟩⟩⟩⟩⟩⟩
theorem cq_ok7 : am_clP 7 "ValueReckoner$OpenTerm" cq_T7 6 cq_t7 := ⟨rfl, cq_w7, by decide +kernel, by decide +kernel⟩
theorem cq_w8 : ∀ w ∈ u_ws "ValueReckoner$Operand" cq_T8 4, am_has w := by
  show ∀ w ∈ [u_lay "ValueReckoner$Operand" cq_T8 0, u_lay "ValueReckoner$Operand" cq_T8 1, u_lay "ValueReckoner$Operand" cq_T8 2, u_lay "ValueReckoner$Operand" cq_T8 3], am_has w
  exact List.forall_mem_cons.mpr ⟨am_at (k := 169) (by decide +kernel) (by decide +kernel), List.forall_mem_cons.mpr ⟨am_at (k := 171) (by decide +kernel) (by decide +kernel), List.forall_mem_cons.mpr ⟨am_at (k := 173) (by decide +kernel) (by decide +kernel), List.forall_mem_cons.mpr ⟨am_at (k := 175) (by decide +kernel) (by decide +kernel), fun _ h => absurd h List.not_mem_nil⟩⟩⟩⟩
theorem cq_ok8 : am_clP 8 "ValueReckoner$Operand" cq_T8 4 cq_t8 := ⟨rfl, cq_w8, by decide +kernel, by decide +kernel⟩
theorem cq_w9 : ∀ w ∈ u_ws "ValueReckonerModel" cq_T9 16, am_has w := by
  show ∀ w ∈ [u_lay "ValueReckonerModel" cq_T9 0, u_lay "ValueReckonerModel" cq_T9 1, u_lay "ValueReckonerModel" cq_T9 2, u_lay "ValueReckonerModel" cq_T9 3, u_lay "ValueReckonerModel" cq_T9 4, u_lay "ValueReckonerModel" cq_T9 5, u_lay "ValueReckonerModel" cq_T9 6, u_lay "ValueReckonerModel" cq_T9 7, u_lay "ValueReckonerModel" cq_T9 8, u_lay "ValueReckonerModel" cq_T9 9, u_lay "ValueReckonerModel" cq_T9 10, u_lay "ValueReckonerModel" cq_T9 11, u_lay "ValueReckonerModel" cq_T9 12, u_lay "ValueReckonerModel" cq_T9 13, u_lay "ValueReckonerModel" cq_T9 14, u_lay "ValueReckonerModel" cq_T9 15], am_has w
  exact List.forall_mem_cons.mpr ⟨am_at (k := 1142) (by decide +kernel) (by decide +kernel), List.forall_mem_cons.mpr ⟨am_at (k := 1144) (by decide +kernel) (by decide +kernel), List.forall_mem_cons.mpr ⟨am_at (k := 1146) (by decide +kernel) (by decide +kernel), List.forall_mem_cons.mpr ⟨am_at (k := 1148) (by decide +kernel) (by decide +kernel), List.forall_mem_cons.mpr ⟨am_at (k := 1150) (by decide +kernel) (by decide +kernel), List.forall_mem_cons.mpr ⟨am_at (k := 1152) (by decide +kernel) (by decide +kernel), List.forall_mem_cons.mpr ⟨am_at (k := 1154) (by decide +kernel) (by decide +kernel), List.forall_mem_cons.mpr ⟨am_at (k := 1156) (by decide +kernel) (by decide +kernel), List.forall_mem_cons.mpr ⟨am_at (k := 1158) (by decide +kernel) (by decide +kernel), List.forall_mem_cons.mpr ⟨am_at (k := 1160) (by decide +kernel) (by decide +kernel), List.forall_mem_cons.mpr ⟨am_at (k := 1162) (by decide +kernel) (by decide +kernel), List.forall_mem_cons.mpr ⟨am_at (k := 1164) (by decide +kernel) (by decide +kernel), List.forall_mem_cons.mpr ⟨am_at (k := 1166) (by decide +kernel) (by decide +kernel), List.forall_mem_cons.mpr ⟨am_at (k := 1168) (by decide +kernel) (by decide +kernel), List.forall_mem_cons.mpr ⟨am_at (k := 1170) (by decide +kernel) (by decide +kernel), List.forall_mem_cons.mpr ⟨am_at (k := 1172) (by decide +kernel) (by decide +kernel), fun _ h => absurd h List.not_mem_nil⟩⟩⟩⟩⟩⟩⟩⟩⟩⟩⟩⟩⟩⟩⟩⟩
theorem cq_ok9 : am_clP 9 "ValueReckonerModel" cq_T9 16 cq_t9 := ⟨rfl, cq_w9, by decide +kernel, by decide +kernel⟩
theorem cq_w10 : ∀ w ∈ u_ws "ValueReckonerModel$Terms" cq_T10 8, am_has w := by
  show ∀ w ∈ [u_lay "ValueReckonerModel$Terms" cq_T10 0, u_lay "ValueReckonerModel$Terms" cq_T10 1, u_lay "ValueReckonerModel$Terms" cq_T10 2, u_lay "ValueReckonerModel$Terms" cq_T10 3, u_lay "ValueReckonerModel$Terms" cq_T10 4, u_lay "ValueReckonerModel$Terms" cq_T10 5, u_lay "ValueReckonerModel$Terms" cq_T10 6, u_lay "ValueReckonerModel$Terms" cq_T10 7], am_has w
  exact List.forall_mem_cons.mpr ⟨am_at (k := 968) (by decide +kernel) (by decide +kernel), List.forall_mem_cons.mpr ⟨am_at (k := 970) (by decide +kernel) (by decide +kernel), List.forall_mem_cons.mpr ⟨am_at (k := 972) (by decide +kernel) (by decide +kernel), List.forall_mem_cons.mpr ⟨am_at (k := 974) (by decide +kernel) (by decide +kernel), List.forall_mem_cons.mpr ⟨am_at (k := 976) (by decide +kernel) (by decide +kernel), List.forall_mem_cons.mpr ⟨am_at (k := 978) (by decide +kernel) (by decide +kernel), List.forall_mem_cons.mpr ⟨am_at (k := 980) (by decide +kernel) (by decide +kernel), List.forall_mem_cons.mpr ⟨am_at (k := 982) (by decide +kernel) (by decide +kernel), fun _ h => absurd h List.not_mem_nil⟩⟩⟩⟩⟩⟩⟩⟩
theorem cq_ok10 : am_clP 10 "ValueReckonerModel$Terms" cq_T10 8 cq_t10 := ⟨rfl, cq_w10, by decide +kernel, by decide +kernel⟩
theorem cq_w11 : ∀ w ∈ u_ws "ValueReckonerModel$Names" cq_T11 6, am_has w := by
  show ∀ w ∈ [u_lay "ValueReckonerModel$Names" cq_T11 0, u_lay "ValueReckonerModel$Names" cq_T11 1, u_lay "ValueReckonerModel$Names" cq_T11 2, u_lay "ValueReckonerModel$Names" cq_T11 3, u_lay "ValueReckonerModel$Names" cq_T11 4, u_lay "ValueReckonerModel$Names" cq_T11 5], am_has w
  exact List.forall_mem_cons.mpr ⟨am_at (k := 1000) (by decide +kernel) (by decide +kernel), List.forall_mem_cons.mpr ⟨am_at (k := 1002) (by decide +kernel) (by decide +kernel), List.forall_mem_cons.mpr ⟨am_at (k := 1004) (by decide +kernel) (by decide +kernel), List.forall_mem_cons.mpr ⟨am_at (k := 1006) (by decide +kernel) (by decide +kernel), List.forall_mem_cons.mpr ⟨am_at (k := 1008) (by decide +kernel) (by decide +kernel), List.forall_mem_cons.mpr ⟨am_at (k := 1010) (by decide +kernel) (by decide +kernel), fun _ h => absurd h List.not_mem_nil⟩⟩⟩⟩⟩⟩
theorem cq_ok11 : am_clP 11 "ValueReckonerModel$Names" cq_T11 6 cq_t11 := ⟨rfl, cq_w11, by decide +kernel, by decide +kernel⟩
theorem cq_w12 : ∀ w ∈ u_ws "ValueReckonerModel$Reader" cq_T12 22, am_has w := by
  show ∀ w ∈ [u_lay "ValueReckonerModel$Reader" cq_T12 0, u_lay "ValueReckonerModel$Reader" cq_T12 1, u_lay "ValueReckonerModel$Reader" cq_T12 2, u_lay "ValueReckonerModel$Reader" cq_T12 3, u_lay "ValueReckonerModel$Reader" cq_T12 4, u_lay "ValueReckonerModel$Reader" cq_T12 5, u_lay "ValueReckonerModel$Reader" cq_T12 6, u_lay "ValueReckonerModel$Reader" cq_T12 7, u_lay "ValueReckonerModel$Reader" cq_T12 8, u_lay "ValueReckonerModel$Reader" cq_T12 9, u_lay "ValueReckonerModel$Reader" cq_T12 10, u_lay "ValueReckonerModel$Reader" cq_T12 11, u_lay "ValueReckonerModel$Reader" cq_T12 12, u_lay "ValueReckonerModel$Reader" cq_T12 13, u_lay "ValueReckonerModel$Reader" cq_T12 14, u_lay "ValueReckonerModel$Reader" cq_T12 15, u_lay "ValueReckonerModel$Reader" cq_T12 16, u_lay "ValueReckonerModel$Reader" cq_T12 17, u_lay "ValueReckonerModel$Reader" cq_T12 18, u_lay "ValueReckonerModel$Reader" cq_T12 19, u_lay "ValueReckonerModel$Reader" cq_T12 20, u_lay "ValueReckonerModel$Reader" cq_T12 21], am_has w
  exact List.forall_mem_cons.mpr ⟨am_at (k := 1080) (by decide +kernel) (by decide +kernel), List.forall_mem_cons.mpr ⟨am_at (k := 1082) (by decide +kernel) (by decide +kernel), List.forall_mem_cons.mpr ⟨am_at (k := 1084) (by decide +kernel) (by decide +kernel), List.forall_mem_cons.mpr ⟨am_at (k := 1086) (by decide +kernel) (by decide +kernel), List.forall_mem_cons.mpr ⟨am_at (k := 1088) (by decide +kernel) (by decide +kernel), List.forall_mem_cons.mpr ⟨am_at (k := 1090) (by decide +kernel) (by decide +kernel), List.forall_mem_cons.mpr ⟨am_at (k := 1092) (by decide +kernel) (by decide +kernel), List.forall_mem_cons.mpr ⟨am_at (k := 1094) (by decide +kernel) (by decide +kernel), List.forall_mem_cons.mpr ⟨am_at (k := 1096) (by decide +kernel) (by decide +kernel), List.forall_mem_cons.mpr ⟨am_at (k := 1098) (by decide +kernel) (by decide +kernel), List.forall_mem_cons.mpr ⟨am_at (k := 1100) (by decide +kernel) (by decide +kernel), List.forall_mem_cons.mpr ⟨am_at (k := 1102) (by decide +kernel) (by decide +kernel), List.forall_mem_cons.mpr ⟨am_at (k := 1104) (by decide +kernel) (by decide +kernel), List.forall_mem_cons.mpr ⟨am_at (k := 1106) (by decide +kernel) (by decide +kernel), List.forall_mem_cons.mpr ⟨am_at (k := 1108) (by decide +kernel) (by decide +kernel), List.forall_mem_cons.mpr ⟨am_at (k := 1110) (by decide +kernel) (by decide +kernel), List.forall_mem_cons.mpr ⟨am_at (k := 1112) (by decide +kernel) (by decide +kernel), List.forall_mem_cons.mpr ⟨am_at (k := 1114) (by decide +kernel) (by decide +kernel), List.forall_mem_cons.mpr ⟨am_at (k := 1116) (by decide +kernel) (by decide +kernel), List.forall_mem_cons.mpr ⟨am_at (k := 1118) (by decide +kernel) (by decide +kernel), List.forall_mem_cons.mpr ⟨am_at (k := 1120) (by decide +kernel) (by decide +kernel), List.forall_mem_cons.mpr ⟨am_at (k := 1122) (by decide +kernel) (by decide +kernel), fun _ h => absurd h List.not_mem_nil⟩⟩⟩⟩⟩⟩⟩⟩⟩⟩⟩⟩⟩⟩⟩⟩⟩⟩⟩⟩⟩⟩
theorem cq_ok12 : am_clP 12 "ValueReckonerModel$Reader" cq_T12 22 cq_t12 := ⟨rfl, cq_w12, by decide +kernel, by decide +kernel⟩
theorem cq_w13 : ∀ w ∈ u_ws "java/lang/IndexOutOfBoundsException" cq_T13 0, am_has w := by
  show ∀ w ∈ [], am_has w
  exact fun _ h => absurd h List.not_mem_nil
theorem cq_ok13 : am_clP 13 "java/lang/IndexOutOfBoundsException" cq_T13 0 cq_t13 := ⟨rfl, cq_w13, by decide +kernel, by decide +kernel⟩
theorem cq_w14 : ∀ w ∈ u_ws "java/lang/IllegalArgumentException" cq_T14 0, am_has w := by
  show ∀ w ∈ [], am_has w
  exact fun _ h => absurd h List.not_mem_nil
theorem cq_ok14 : am_clP 14 "java/lang/IllegalArgumentException" cq_T14 0 cq_t14 := ⟨rfl, cq_w14, by decide +kernel, by decide +kernel⟩
theorem cq_w15 : ∀ w ∈ u_ws "java/lang/ArithmeticException" cq_T15 0, am_has w := by
  show ∀ w ∈ [], am_has w
  exact fun _ h => absurd h List.not_mem_nil
theorem cq_ok15 : am_clP 15 "java/lang/ArithmeticException" cq_T15 0 cq_t15 := ⟨rfl, cq_w15, by decide +kernel, by decide +kernel⟩
theorem cq_w16 : ∀ w ∈ u_ws "java/lang/UnsupportedOperationException" cq_T16 0, am_has w := by
  show ∀ w ∈ [], am_has w
  exact fun _ h => absurd h List.not_mem_nil
theorem cq_ok16 : am_clP 16 "java/lang/UnsupportedOperationException" cq_T16 0 cq_t16 := ⟨rfl, cq_w16, by decide +kernel, by decide +kernel⟩
theorem cq_w17 : ∀ w ∈ u_ws "java/lang/IllegalStateException" cq_T17 0, am_has w := by
  show ∀ w ∈ [], am_has w
  exact fun _ h => absurd h List.not_mem_nil
theorem cq_ok17 : am_clP 17 "java/lang/IllegalStateException" cq_T17 0 cq_t17 := ⟨rfl, cq_w17, by decide +kernel, by decide +kernel⟩
