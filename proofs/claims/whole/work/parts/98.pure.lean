theorem z_pure : ∃ P : zM → Prop, z_Inv P := sorry
