theorem z_pure : ∃ P : Nat → zM → Prop, z_Inv P := sorry
