/-! ===== null in locals ===== -/
theorem r_aload_nN {Γ : zC} {G : zG} {b nL cs ss pc : Nat} {cc : ByteArray} {own : String} {rm : Room} {M : zM} {lv : List (Nat × Value)} {st : List Value} {f : Fin 4} (X : z_CX Γ G b nL cc own rm) (n : Nat) (hn : lv[n]? = some ((f : Nat), .null)) (hd : decode cc pc = .ok (.aload_n f, 1)) (pc' : Nat) (hp : pc + 1 = pc') (k : GW Γ G b cs ss M pc' lv (.null :: st)) : GW Γ G b cs ss M pc lv st := by
  obtain ⟨p, l, e, R, s, m, args, below, meth, c, Q⟩ := Γ
  subst hp
  exact fun H locs ls hW hS hl => lv_aload_nN X.1 X.2.1 hd rfl (lv_at hl n hn) (k H locs ls hW hS hl)
theorem r_aloadN {Γ : zC} {G : zG} {b nL cs ss pc : Nat} {cc : ByteArray} {own : String} {rm : Room} {M : zM} {lv : List (Nat × Value)} {st : List Value} {i : Nat} (X : z_CX Γ G b nL cc own rm) (n : Nat) (hn : lv[n]? = some (i, .null)) (hd : decode cc pc = .ok (.aload i, 2)) (pc' : Nat) (hp : pc + 2 = pc') (k : GW Γ G b cs ss M pc' lv (.null :: st)) : GW Γ G b cs ss M pc lv st := by
  obtain ⟨p, l, e, R, s, m, args, below, meth, c, Q⟩ := Γ
  subst hp
  exact fun H locs ls hW hS hl => lv_aloadN X.1 X.2.1 hd (lv_at hl n hn) (k H locs ls hW hS hl)
theorem r_astore_nN {Γ : zC} {G : zG} {b nL cs ss pc : Nat} {cc : ByteArray} {own : String} {rm : Room} {M : zM} {lv : List (Nat × Value)} {st : List Value} {f : Fin 4} (X : z_CX Γ G b nL cc own rm) (hd : decode cc pc = .ok (.astore_n f, 1)) (pc' : Nat) (hp : pc + 1 = pc') (lv' : List (Nat × Value)) (hi : (f : Nat) < nL) (ks : List Nat) (hv : lv_pick (((f : Nat), Value.null) :: lv.filter (fun q => !(q.1 == (f : Nat)) && !(q.1 + 1 == (f : Nat) && q.2.category == 2))) ks = lv') (k : GW Γ G b cs ss M pc' lv' st) : GW Γ G b cs ss M pc lv (.null :: st) := by
  obtain ⟨p, l, e, R, s, m, args, below, meth, c, Q⟩ := Γ
  subst hp
  exact fun H locs ls hW hS hl => lv_astore_nN X.1 X.2.1 hd rfl hl (Nat.lt_of_lt_of_eq hi (X.2.2.1).symm) rfl (fun ls' hl' => k H locs ls' hW hS (lv_sub hl' ks hv))
theorem r_astoreN {Γ : zC} {G : zG} {b nL cs ss pc : Nat} {cc : ByteArray} {own : String} {rm : Room} {M : zM} {lv : List (Nat × Value)} {st : List Value} {i : Nat} (X : z_CX Γ G b nL cc own rm) (hd : decode cc pc = .ok (.astore i, 2)) (pc' : Nat) (hp : pc + 2 = pc') (lv' : List (Nat × Value)) (hi : i < nL) (ks : List Nat) (hv : lv_pick ((i, Value.null) :: lv.filter (fun q => !(q.1 == i) && !(q.1 + 1 == i && q.2.category == 2))) ks = lv') (k : GW Γ G b cs ss M pc' lv' st) : GW Γ G b cs ss M pc lv (.null :: st) := by
  obtain ⟨p, l, e, R, s, m, args, below, meth, c, Q⟩ := Γ
  subst hp
  exact fun H locs ls hW hS hl => lv_astoreN X.1 X.2.1 hd hl (Nat.lt_of_lt_of_eq hi (X.2.2.1).symm) rfl (fun ls' hl' => k H locs ls' hW hS (lv_sub hl' ks hv))
