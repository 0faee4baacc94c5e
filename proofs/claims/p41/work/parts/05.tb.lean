/-- the tables' words that a call carries on -/
def z_ok (w : Cond) : Bool := match w with
  | .fieldLinkNest _ _ _ _ _ _ => true
  | .methodLinkNest _ _ _ _ => true
  | .castable _ _ => true
  | .declares _ => true
  | .arrayOver (.object _) => true
  | w => goodWord w
def z_TB : List Cond := lw_tbl.filter z_ok

def z_TW (U : State) : Prop := ∀ w ∈ z_TB, w.before #[] U = true
theorem z_ok_warm {w : Cond} {s U : State} (hW : s.WarmedH U.vm) (hok : z_ok w = true) (hb : w.before #[] s = true) : w.before #[] U = true := by
  cases w <;> first
    | exact va_Nw.warmF hW hb
    | exact va_Nw.warmM hW hb
    | exact va_Nw.warmC hW hb
    | exact va_Nw.warmD hW hb
    | exact word_at hW (good_of_word hok) hb
    | (rename_i ty; cases ty <;> first | exact va_AO.moved hW.alike hb | exact absurd hok (by decide) | exact absurd hok (fun h => Bool.noConfusion h))
theorem z_TW.warm {s U : State} (hW : s.WarmedH U.vm) (h : z_TW s) : z_TW U := fun w hw => z_ok_warm hW (List.mem_filter.mp hw).2 (h w hw)
theorem z_TW.same {s U : State} (hv : s.vm = U.vm) (h : z_TW s) : z_TW U := h.warm (by rw [← hv]; exact State.WarmedH.refl s)
theorem z_ok_use {w : Cond} {s : State} {args : Array Value} (hok : z_ok w = true) (hb : w.before #[] s = true) : w.before args s = true := by
  cases w <;> first
    | exact vx_ot_at (State.WarmedH.refl s) rfl rfl hb
    | exact vx_ot_at (State.WarmedH.refl s) rfl ((Bool.or_eq_true _ _).mpr (Or.inr hok)) hb
    | exact hb
theorem z_TW.use {s : State} (h : z_TW s) {w : Cond} (hw : w ∈ z_TB) {args : Array Value} : w.before args s = true := z_ok_use (List.mem_filter.mp hw).2 (h w hw)
theorem z_in {w : Cond} (k : Nat) (h : lw_tbl[k]? = some w) (hok : z_ok w = true) : w ∈ z_TB := List.mem_filter.mpr ⟨List.mem_of_getElem? h, hok⟩
/-- what the tables say of a method that is called -/
def z_Y (y : MethodName) (bytes : ByteArray) (maxL : Nat) (ret : Option FieldType) (n : Nat) : Prop := (y.cls ≠ "java/lang/invoke/MethodHandle" ∧ y.cls ≠ "java/lang/invoke/VarHandle" ∧ (parseMethodDescriptor y.desc).map (fun d => d.parameters.length) = some n) ∧ Cond.initialized y.cls ∈ z_TB ∧ Cond.code y bytes maxL ret ∈ z_TB
def z_YV (y : MethodName) : Prop := Cond.instanceMethod y ∈ z_TB ∧ Cond.selects y.cls y y ∈ z_TB
/-- a class that is thrown from Cowmeadow, by the entries that make it -/
def z_E (ik ic : Nat) (E : String) : Prop := Bundle.fit E = true ∧ Cond.classLink RX6 ik E ∈ z_TB ∧ Cond.initialized E ∈ z_TB ∧ (∀ w ∈ vx_atS RX6 ic E ["java/lang/RuntimeException", "java/lang/Exception"], w ∈ z_TB) ∧ ∀ w ∈ Cond.classLink RX6 ik E :: Cond.initialized E :: vx_atS RX6 ic E ["java/lang/RuntimeException", "java/lang/Exception"], vx_ot w = true
