theorem z_pure : ∃ P : Nat → zM → Prop, z_Inv P := ⟨z_P, P_0, fun n k a1 a2 a3 a4 a5 a6 M hn hk h => y_all hn h a1 a2 a3 a4 a5 a6 k hk⟩
