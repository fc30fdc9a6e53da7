/-! The runs of the calls, from the switch to the end. -/
def zi_any : zi_V := .inr (-2147483648, 2147483647)
/-- comes to the law's return with 1 on the stack -/
noncomputable def zi_fin (sl : List zi_V) (n : Nat) (f : zi_F) : Bool := match zi_run zi_call sl zi_mlaw n f with
  | some g => Nat.beq g.1 1433 && zi_lb zi_vb g.2.2.1 [.inl (.int 1)] && Nat.ble g.2.2.2.2.1 600002 && Nat.ble g.2.2.2.2.2 7302232
  | none => false
