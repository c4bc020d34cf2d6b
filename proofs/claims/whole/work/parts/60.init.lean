/-! ===== the memory behind the two constructors ===== -/
def ME : mM := (0, fun _ => (0, 0), fun _ _ => 0, fun _ _ => none)
def MA : mM := nwC ME (0, 6)
def MB : mM := (m_X6_init MA 0).getD ME
def MC : mM := nwC MB (0, 7)
def M0 : mM := (m_X7_init MC 231).getD ME
theorem op_get {α : Type} {o : Option α} {d : α} (h : o.isSome = true) : o = some (o.getD d) := by
  cases o with
  | none => cases h
  | some v => rfl
theorem mB_ok : m_X6_init MA 0 = some MB := op_get (by decide +kernel)
theorem mB_z : mz MB = 231 := by decide +kernel
theorem mD_ok : m_X7_init MC 231 = some M0 := op_get (by decide +kernel)
theorem m0_z : mz M0 = 246 := by decide +kernel
