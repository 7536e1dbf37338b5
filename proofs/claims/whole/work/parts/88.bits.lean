/-! sets of corners as masks: both, one without the other -/
theorem jp_an_f : ∀ (y z : Fin 128), jw_iand ((y : Nat) : Int) (jw_ixor ((z : Nat) : Int) (-1)) = (((y : Nat) - ((y : Nat) &&& (z : Nat)) : Nat) : Int) := by decide +kernel
theorem jp_or2_f : ∀ (y z : Fin 128), jw_ior ((y : Nat) : Int) ((z : Nat) : Int) = (((y : Nat) ||| (z : Nat) : Nat) : Int) := by decide +kernel
theorem jp_sub_f : ∀ (y z : Fin 128), (y : Nat) - ((y : Nat) &&& (z : Nat)) = (y : Nat) &&& (127 - (z : Nat)) ∧ (y : Nat) &&& (127 - (z : Nat)) < 128 := by decide +kernel
