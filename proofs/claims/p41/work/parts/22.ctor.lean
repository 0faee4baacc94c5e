/-! ===== constructors: a world that grows: the cells 0 to N - 1 from b on, each with its entry ===== -/
def z_WE (G : zG) (b N : Nat) (E : Nat → va_E) (H : Heap) : Prop := ∀ k : Nat, k < N → va_at (G.1, G.2.1) vwCl (b + k, E k) H
def GE (Γ : zC) (G : zG) (b cs ss N : Nat) (E : Nat → va_E) (pc : Nat) (lv : List (Nat × Value)) (st : List Value) : Prop :=
  ∀ (H : Heap) (locs : List Loc) (ls : Array Slot), z_WE G b N E H → va_S (fun q => b ≤ q) (z_s Γ).heap H locs → lv_has ls (z_c Γ).maxLocals lv → z_Go Γ H locs cs ss pc ls st
def z_up (E : Nat → va_E) (k : Nat) (e : va_E) : Nat → va_E := fun j => if j = k then e else E j
theorem z_up_s {E : Nat → va_E} {k : Nat} {e : va_E} : z_up E k e k = e := if_pos rfl
theorem z_up_n {E : Nat → va_E} {k j : Nat} {e : va_E} (h : j ≠ k) : z_up E k e j = E j := if_neg h
def z_el (b N : Nat) (E : Nat → va_E) : va_W := (List.range N).map (fun k => (b + k, E k))
theorem z_el_get {b N k : Nat} {E : Nat → va_E} (hk : k < N) : (z_el b N E)[k]? = some (b + k, E k) := by
  unfold z_el
  rw [List.getElem?_map, List.getElem?_range hk]
  rfl
theorem z_el_at {b N k : Nat} {E : Nat → va_E} {q : Nat × va_E} (h : (z_el b N E)[k]? = some q) : k < N ∧ q = (b + k, E k) := by
  have hl : k < (z_el b N E).length := (List.getElem?_eq_some_iff.mp h).1
  have hk : k < N := by simpa [z_el] using hl
  rw [z_el_get hk] at h
  exact ⟨hk, (Option.some.inj h).symm⟩
theorem z_EP {G : zG} {b N : Nat} {E : Nat → va_E} {H : Heap} (h : z_WE G b N E H) : va_P (G.1, G.2.1) vwCl (z_el b N E) H := fun k q hk => by
  obtain ⟨h1, h2⟩ := z_el_at hk
  rw [h2]
  exact h k h1
theorem z_ED {b N : Nat} {E : Nat → va_E} : va_D (fun q => b ≤ q) (z_el b N E) := by
  refine ⟨fun i j p q hi hj hpq => ?_, fun k q hk => ?_⟩
  · have h1 := (z_el_at hi).2
    have h2 := (z_el_at hj).2
    rw [h1, h2] at hpq
    exact Nat.add_left_cancel hpq
  · rw [(z_el_at hk).2]
    exact Nat.le_add_right b k
theorem z_Eset {G : zG} {b N : Nat} {E : Nat → va_E} {H1 : Heap} {k : Nat} {e : va_E} (hk : k < N) (h : va_P (G.1, G.2.1) vwCl ((z_el b N E).set k (b + k, e)) H1) : z_WE G b N (z_up E k e) H1 := by
  intro j hj
  by_cases hjk : j = k
  · subst hjk
    rw [z_up_s]
    refine h j _ ?_
    rw [List.getElem?_set_self]
    rw [(by simp [z_el] : (z_el b N E).length = N)]
    exact hj
  · rw [z_up_n hjk]
    refine h j _ ?_
    rw [List.getElem?_set_ne (Ne.symm hjk)]
    exact z_el_get hj
theorem z_Epush {G : zG} {b N : Nat} {E : Nat → va_E} {H H1 : Heap} {e : va_E} (h : z_WE G b N E H) (o1 : ∀ q : Nat, q < H.size → H1[q]? = H[q]?) (he : va_at (G.1, G.2.1) vwCl (b + N, e) H1) : z_WE G b (N + 1) (z_up E N e) H1 := by
  intro j hj
  by_cases hjk : j = N
  · subst hjk
    rw [z_up_s]
    exact he
  · rw [z_up_n hjk]
    have hl : j < N := by omega
    exact (h j hl).kept (o1 _ (h j hl).lt)
/-- what a walk knows of the heap's size: no more than its room's cells have come -/
theorem z_size {Γ : zC} {H : Heap} {locs : List Loc} {cs ss pc : Nat} {ls : Array Slot} {st : List Value} (k : H.size ≤ (z_s Γ).heap.size + cs → z_Go Γ H locs cs ss pc ls st) : z_Go Γ H locs cs ss pc ls st := by
  obtain ⟨p, l, e, R, s, m, args, below, meth, c, Q⟩ := Γ
  exact fun T hT X => k (by rw [← hT]; exact X.heapSize) T hT X
theorem z_next {G : zG} {b N N0 cs : Nat} {E : Nat → va_E} {H H0 : Heap} (h : z_WE G b N E H) (h0 : H0.size = b + N0) (hN : N = N0 + cs) (h1 : H0.size ≤ H.size) (h2 : H.size ≤ H0.size + cs) : H.size = b + N := by
  rcases Nat.eq_zero_or_pos cs with q | q
  · omega
  · have := (h (N - 1) (by omega)).lt
    have h3 : b + (N - 1) < H.size := this
    omega
theorem e_iconst {Γ : zC} {G : zG} {b nL cs ss pc : Nat} {cc : ByteArray} {own : String} {rm : Room} {N : Nat} {E : Nat → va_E} {lv : List (Nat × Value)} {st : List Value} {n : Int} {v : Int32} (X : z_CX Γ G b nL cc own rm) (hv : Int32.ofInt n = v) (hd : decode cc pc = .ok (.iconst n, 1)) (pc' : Nat) (hp : pc + 1 = pc') (k : GE Γ G b cs ss N E pc' lv (.int v :: st)) : GE Γ G b cs ss N E pc lv (st) := by
  obtain ⟨p, l, e, R, s, m, args, below, meth, c, Q⟩ := Γ
  subst hp
  exact fun H locs ls hW hS hl => lv_iconst X.1 X.2.1 hd hv (k H locs ls hW hS hl)
theorem e_bipush {Γ : zC} {G : zG} {b nL cs ss pc : Nat} {cc : ByteArray} {own : String} {rm : Room} {N : Nat} {E : Nat → va_E} {lv : List (Nat × Value)} {st : List Value} {n : Int} {v : Int32} (X : z_CX Γ G b nL cc own rm) (hv : (Int8.ofInt n).toInt32 = v) (hd : decode cc pc = .ok (.bipush n, 2)) (pc' : Nat) (hp : pc + 2 = pc') (k : GE Γ G b cs ss N E pc' lv (.int v :: st)) : GE Γ G b cs ss N E pc lv (st) := by
  obtain ⟨p, l, e, R, s, m, args, below, meth, c, Q⟩ := Γ
  subst hp
  exact fun H locs ls hW hS hl => lv_bipush X.1 X.2.1 hd hv (k H locs ls hW hS hl)
theorem e_sipush {Γ : zC} {G : zG} {b nL cs ss pc : Nat} {cc : ByteArray} {own : String} {rm : Room} {N : Nat} {E : Nat → va_E} {lv : List (Nat × Value)} {st : List Value} {n : Int} {v : Int32} (X : z_CX Γ G b nL cc own rm) (hv : (Int16.ofInt n).toInt32 = v) (hd : decode cc pc = .ok (.sipush n, 3)) (pc' : Nat) (hp : pc + 3 = pc') (k : GE Γ G b cs ss N E pc' lv (.int v :: st)) : GE Γ G b cs ss N E pc lv (st) := by
  obtain ⟨p, l, e, R, s, m, args, below, meth, c, Q⟩ := Γ
  subst hp
  exact fun H locs ls hW hS hl => lv_sipush X.1 X.2.1 hd hv (k H locs ls hW hS hl)
theorem e_imul {Γ : zC} {G : zG} {b nL cs ss pc : Nat} {cc : ByteArray} {own : String} {rm : Room} {N : Nat} {E : Nat → va_E} {lv : List (Nat × Value)} {st : List Value} {x y : Int32} (X : z_CX Γ G b nL cc own rm)  (hd : decode cc pc = .ok (.imul, 1)) (pc' : Nat) (hp : pc + 1 = pc') (k : GE Γ G b cs ss N E pc' lv (.int (x * y) :: st)) : GE Γ G b cs ss N E pc lv (.int y :: .int x :: st) := by
  obtain ⟨p, l, e, R, s, m, args, below, meth, c, Q⟩ := Γ
  subst hp
  exact fun H locs ls hW hS hl => lv_imul X.1 X.2.1 hd (k H locs ls hW hS hl)
theorem e_dup {Γ : zC} {G : zG} {b nL cs ss pc : Nat} {cc : ByteArray} {own : String} {rm : Room} {N : Nat} {E : Nat → va_E} {lv : List (Nat × Value)} {st : List Value} {v : Value} (X : z_CX Γ G b nL cc own rm) (hv : v.category = 1) (hd : decode cc pc = .ok (.dup, 1)) (pc' : Nat) (hp : pc + 1 = pc') (k : GE Γ G b cs ss N E pc' lv (v :: v :: st)) : GE Γ G b cs ss N E pc lv (v :: st) := by
  obtain ⟨p, l, e, R, s, m, args, below, meth, c, Q⟩ := Γ
  subst hp
  exact fun H locs ls hW hS hl => lv_dup X.1 X.2.1 hd hv (k H locs ls hW hS hl)
theorem e_iload_n {Γ : zC} {G : zG} {b nL cs ss pc : Nat} {cc : ByteArray} {own : String} {rm : Room} {N : Nat} {E : Nat → va_E} {lv : List (Nat × Value)} {st : List Value} {f : Fin 4} {x : Int32} (X : z_CX Γ G b nL cc own rm) (n : Nat) (hn : lv[n]? = some ((f : Nat), .int x)) (hd : decode cc pc = .ok (.iload_n f, 1)) (pc' : Nat) (hp : pc + 1 = pc') (k : GE Γ G b cs ss N E pc' lv (.int x :: st)) : GE Γ G b cs ss N E pc lv (st) := by
  obtain ⟨p, l, e, R, s, m, args, below, meth, c, Q⟩ := Γ
  subst hp
  exact fun H locs ls hW hS hl => lv_iload_n X.1 X.2.1 hd rfl (lv_at hl n hn) (k H locs ls hW hS hl)
theorem e_aload_n {Γ : zC} {G : zG} {b nL cs ss pc : Nat} {cc : ByteArray} {own : String} {rm : Room} {N : Nat} {E : Nat → va_E} {lv : List (Nat × Value)} {st : List Value} {f : Fin 4} {x : Nat} (X : z_CX Γ G b nL cc own rm) (n : Nat) (hn : lv[n]? = some ((f : Nat), .ref x)) (hd : decode cc pc = .ok (.aload_n f, 1)) (pc' : Nat) (hp : pc + 1 = pc') (k : GE Γ G b cs ss N E pc' lv (.ref x :: st)) : GE Γ G b cs ss N E pc lv (st) := by
  obtain ⟨p, l, e, R, s, m, args, below, meth, c, Q⟩ := Γ
  subst hp
  exact fun H locs ls hW hS hl => lv_aload_n X.1 X.2.1 hd rfl (lv_at hl n hn) (k H locs ls hW hS hl)
theorem e_istore_n {Γ : zC} {G : zG} {b nL cs ss pc : Nat} {cc : ByteArray} {own : String} {rm : Room} {N : Nat} {E : Nat → va_E} {lv : List (Nat × Value)} {st : List Value} {f : Fin 4} {x : Int32} (X : z_CX Γ G b nL cc own rm) (hd : decode cc pc = .ok (.istore_n f, 1)) (pc' : Nat) (hp : pc + 1 = pc') (lv' : List (Nat × Value)) (hi : (f : Nat) < nL) (ks : List Nat) (hv : lv_pick (((f : Nat), Value.int x) :: lv.filter (fun q => !(q.1 == (f : Nat)) && !(q.1 + 1 == (f : Nat) && q.2.category == 2))) ks = lv') (k : GE Γ G b cs ss N E pc' lv' st) : GE Γ G b cs ss N E pc lv (.int x :: st) := by
  obtain ⟨p, l, e, R, s, m, args, below, meth, c, Q⟩ := Γ
  subst hp
  exact fun H locs ls hW hS hl => lv_istore_n X.1 X.2.1 hd rfl hl (Nat.lt_of_lt_of_eq hi (X.2.2.1).symm) rfl (fun ls' hl' => k H locs ls' hW hS (lv_sub hl' ks hv))
theorem e_iinc {Γ : zC} {G : zG} {b nL cs ss pc : Nat} {cc : ByteArray} {own : String} {rm : Room} {N : Nat} {E : Nat → va_E} {lv : List (Nat × Value)} {st : List Value} {i : Nat} {n : Int} {x : Int32} (X : z_CX Γ G b nL cc own rm) (hd : decode cc pc = .ok (.iinc i n, 3)) (pc' : Nat) (hp : pc + 3 = pc') (lv' : List (Nat × Value)) (hi : i < nL) (j : Nat) (hj : lv[j]? = some (i, .int x)) (v : Int32) (hx : x + Int32.ofInt n = v) (ks : List Nat) (hv : lv_pick ((i, Value.int v) :: lv.filter (fun q => !(q.1 == i) && !(q.1 + 1 == i && q.2.category == 2))) ks = lv') (k : GE Γ G b cs ss N E pc' lv' st) : GE Γ G b cs ss N E pc lv st := by
  obtain ⟨p, l, e, R, s, m, args, below, meth, c, Q⟩ := Γ
  subst hp
  exact fun H locs ls hW hS hl => lv_iinc X.1 X.2.1 hd hl hj hx (Nat.lt_of_lt_of_eq hi (X.2.2.1).symm) rfl (fun ls' hl' => k H locs ls' hW hS (lv_sub hl' ks hv))
theorem e_sub {Γ : zC} {G : zG} {b cs ss pc : Nat} {N : Nat} {E : Nat → va_E} {lv : List (Nat × Value)} {st : List Value} (lv' : List (Nat × Value)) (ks : List Nat) (hv : lv_pick lv ks = lv') (k : GE Γ G b cs ss N E pc lv' st) : GE Γ G b cs ss N E pc lv st := fun H locs ls hW hS hl => k H locs ls hW hS (lv_sub hl ks hv)
theorem e_if_ne {Γ : zC} {G : zG} {b nL cs ss pc : Nat} {cc : ByteArray} {own : String} {rm : Room} {N : Nat} {E : Nat → va_E} {lv : List (Nat × Value)} {st : List Value} {x : Int32} {off : Int} (X : z_CX Γ G b nL cc own rm) (hd : decode cc pc = .ok (.ifCond .ne off, 3)) (tgt : Nat) (ht : (pc : Int) + off = (tgt : Int)) (pc' : Nat) (hp : pc + 3 = pc') (kt : ¬ x = 0 → GE Γ G b cs ss N E tgt lv st) (kf : x = 0 → GE Γ G b cs ss N E pc' lv st) : GE Γ G b cs ss N E pc lv (.int x :: st) := by
  obtain ⟨p, l, e, R, s, m, args, below, meth, c, Q⟩ := Γ
  subst hp
  exact fun H locs ls hW hS hl => lv_if_ne X.1 X.2.1 hd ht (fun q => kt q H locs ls hW hS hl) (fun q => kf q H locs ls hW hS hl)
theorem e_icmp_ge {Γ : zC} {G : zG} {b nL cs ss pc : Nat} {cc : ByteArray} {own : String} {rm : Room} {N : Nat} {E : Nat → va_E} {lv : List (Nat × Value)} {st : List Value} {x y : Int32} {off : Int} (X : z_CX Γ G b nL cc own rm) (hd : decode cc pc = .ok (.if_icmp .ge off, 3)) (tgt : Nat) (ht : (pc : Int) + off = (tgt : Int)) (pc' : Nat) (hp : pc + 3 = pc') (kt : y ≤ x → GE Γ G b cs ss N E tgt lv st) (kf : ¬ (y ≤ x) → GE Γ G b cs ss N E pc' lv st) : GE Γ G b cs ss N E pc lv (.int y :: .int x :: st) := by
  obtain ⟨p, l, e, R, s, m, args, below, meth, c, Q⟩ := Γ
  subst hp
  exact fun H locs ls hW hS hl => lv_icmp_ge X.1 X.2.1 hd ht (fun q => kt q H locs ls hW hS hl) (fun q => kf q H locs ls hW hS hl)
theorem e_goto {Γ : zC} {G : zG} {b nL cs ss pc : Nat} {cc : ByteArray} {own : String} {rm : Room} {N : Nat} {E : Nat → va_E} {lv : List (Nat × Value)} {st : List Value} {off : Int} (X : z_CX Γ G b nL cc own rm) (hd : decode cc pc = .ok (.goto off, 3)) (tgt : Nat) (ht : (pc : Int) + off = (tgt : Int)) (k : GE Γ G b cs ss N E tgt lv st) : GE Γ G b cs ss N E pc lv st := by
  obtain ⟨p, l, e, R, s, m, args, below, meth, c, Q⟩ := Γ
  exact fun H locs ls hW hS hl => lv_goto X.1 X.2.1 hd ht (k H locs ls hW hS hl)
def z_init (Γ : zC) : Prop := match Γ with
  | (_, _, _, _, _, _, _, _, meth, _, _) => meth.name = "<init>"
theorem zo_in : Cond.instanceMethod objectInit ∈ z_TB := z_in 94 (by decide +kernel) rfl
theorem zo_co : Cond.code objectInit ⟨#[0xb1]⟩ 1 none ∈ z_TB := z_in 95 (by decide +kernel) rfl

theorem e_obj {Γ : zC} {G : zG} {b nL cs ss pc N : Nat} {cc : ByteArray} {own : String} {rm : Room} {E : Nat → va_E} {lv : List (Nat × Value)} {st : List Value} {idx : Nat} {a : Nat} (X : z_CX Γ G b nL cc own rm) (hl : Cond.methodLink own idx objectInit ∈ z_TB) (hfr : (1 : Nat).ble rm.frames = true ∧ ((st.map fun v => v.category).sum + 12).ble rm.locals = true) (hd : decode cc pc = .ok (.invokespecial idx, 3)) (pc' : Nat) (hp : pc + 3 = pc') (K : GE Γ G b cs ss N E pc' lv st) : GE Γ G b cs ss N E pc lv (.ref a :: st) := by
  obtain ⟨p, l, e, R, s, m, args, below, meth, c0, Q⟩ := Γ
  subst hp
  obtain ⟨hx, hb, hml, hown, hT, hK, hX, hRm, -⟩ := X
  exact fun H locs ls hW hS hl9 => W.objInit hx hb hown (hT.use hl) (hT.use zo_in) (hT.use zo_co) rfl hl9.1 rfl hd (by rw [hRm]; exact Nat.le_of_ble_eq_true hfr.1) (by show 2 * (F0 m pc ls (.ref a :: st)).monitorRoom + (st.map fun v => v.category).sum + 12 ≤ R.locals; rw [hRm]; have h9 := Nat.le_of_ble_eq_true hfr.2; have h8 : (F0 m pc ls (.ref a :: st)).monitorRoom = 0 := rfl; omega) (K H locs ls hW hS hl9)
theorem e_get {Γ : zC} {G : zG} {b nL cs ss pc N : Nat} {cc : ByteArray} {own : String} {rm : Room} {E : Nat → va_E} {lv : List (Nat × Value)} {st : List Value} {k c j Nf idx : Nat} {C ref : String} {T : u_T} {fs : List Value} {v : Value} (X : z_CX Γ G b nL cc own rm) (hk : k < N) (hE : E k = .inr (c, fs)) (hc : vwCl[c]? = some (C, T, Nf)) (hin : ∀ w ∈ u_ws C T Nf, w ∈ z_TB) (hj : Nat.blt j Nf = true) (hl : Cond.fieldLink own idx ref (T j).2.1 (T j).2.2.1 ∈ z_TB) (href : (T j).1 = ref) (hv : fs[j]? = some v) (hd : decode cc pc = .ok (.getfield idx, 3)) (pc' : Nat) (hp : pc + 3 = pc') (K : GE Γ G b cs ss N E pc' lv (v :: st)) : GE Γ G b cs ss N E pc lv (.ref (b + k) :: st) := by
  obtain ⟨p, l, e, R, s, m, args, below, meth, c0, Q⟩ := Γ
  subst hp
  obtain ⟨hx, hb, hml, hown, hT, hK, hX, -⟩ := X
  exact fun H locs ls hW hS hl9 => va_get (D := (G.1, G.2.1)) (cl := vwCl) (ci := c) (C := C) (T := T) (N := Nf) hx hb (fun w hw => hT.use hw) hin hown hK (z_EP hW) k ((z_el_get hk).trans (by rw [hE])) hc j (Nat.le_of_ble_eq_true hj) (hT.use hl) (fun x h9 => by rw [← href]; exact h9) hv hd (K H locs ls hW hS hl9)
theorem e_put {Γ : zC} {G : zG} {b nL cs ss pc N : Nat} {cc : ByteArray} {own : String} {rm : Room} {E : Nat → va_E} {lv : List (Nat × Value)} {st : List Value} {k c j Nf idx : Nat} {C ref : String} {T : u_T} {fs : List Value} {x : Int32} {ty0 : Nat → FieldType} {ty : FieldType} (X : z_CX Γ G b nL cc own rm) (hk : k < N) (hE : E k = .inr (c, fs)) (hc : vwCl[c]? = some (C, T, Nf)) (hin : ∀ w ∈ u_ws C T Nf, w ∈ z_TB) (hj : Nat.blt j Nf = true) (hl : Cond.fieldLink own idx ref (T j).2.1 (T j).2.2.1 ∈ z_TB) (href : (T j).1 = ref) (hty : ∀ k, k < Nf → parseFieldDescriptor (T k).2.2.1 = some (ty0 k)) (hnm : ∀ a, a < Nf → ∀ b, b < Nf → a ≠ b → (T a).2.1 ≠ (T b).2.1) (hfin : (T j).2.2.2 = false) (htj : ty0 j = ty) (hn : narrow ty (.int x) = .int x) (hfit : fits ty (.int x) = true) (hlen : Nat.blt j fs.length = true) (fs1 : List Value) (hf1 : fs.set j (.int x) = fs1) (hd : decode cc pc = .ok (.putfield idx, 3)) (pc' : Nat) (hp : pc + 3 = pc') (K : GE Γ G b cs ss N (z_up E k (.inr (c, fs1))) pc' lv st) : GE Γ G b cs ss N E pc lv (.int x :: .ref (b + k) :: st) := by
  obtain ⟨p, l, e, R, s, m, args, below, meth, c0, Q⟩ := Γ
  subst hp
  subst hf1
  obtain ⟨hx, hb, hml, hown, hT, hK, hX, -⟩ := X
  exact fun H locs ls hW hS hl9 => va_put (D := (G.1, G.2.1)) (cl := vwCl) (ci := c) (C := C) (T := T) (N := Nf) hx hb (fun w hw => hT.use hw) hin ty0 hty hnm hown hK (z_EP hW) z_ED hS k ((z_el_get hk).trans (by rw [hE])) hc j (Nat.le_of_ble_eq_true hj) (hT.use hl) (fun x h9 => by rw [← href]; exact h9) hfin ((hty j (Nat.le_of_ble_eq_true hj)).trans (by rw [htj])) hn hfit (Nat.le_of_ble_eq_true hlen) hd (fun H1 locs1 hP1 _ hS1 => K H1 locs1 ls (z_Eset hk hP1) hS1 hl9)
theorem e_putF {Γ : zC} {G : zG} {b nL cs ss pc N : Nat} {cc : ByteArray} {own : String} {rm : Room} {E : Nat → va_E} {lv : List (Nat × Value)} {st : List Value} {k c j Nf idx a : Nat} {C ref : String} {T : u_T} {fs : List Value} {ty0 : Nat → FieldType} {ty : FieldType} (X : z_CX Γ G b nL cc own rm) (hin2 : z_init Γ) (hk : k < N) (hE : E k = .inr (c, fs)) (hc : vwCl[c]? = some (C, T, Nf)) (hin : ∀ w ∈ u_ws C T Nf, w ∈ z_TB) (hj : Nat.blt j Nf = true) (hl : Cond.fieldLink own idx ref (T j).2.1 (T j).2.2.1 ∈ z_TB) (href : (T j).1 = ref) (hown9 : (T j).1 = own) (hty : ∀ k, k < Nf → parseFieldDescriptor (T k).2.2.1 = some (ty0 k)) (hnm : ∀ a, a < Nf → ∀ b, b < Nf → a ≠ b → (T a).2.1 ≠ (T b).2.1) (hfin : (T j).2.2.2 = true) (htj : ty0 j = ty) (hn : narrow ty (.ref a) = .ref a) (hfit : fits ty (.ref a) = true) (hlen : Nat.blt j fs.length = true) (fs1 : List Value) (hf1 : fs.set j (.ref a) = fs1) (hd : decode cc pc = .ok (.putfield idx, 3)) (pc' : Nat) (hp : pc + 3 = pc') (K : GE Γ G b cs ss N (z_up E k (.inr (c, fs1))) pc' lv st) : GE Γ G b cs ss N E pc lv (.ref a :: .ref (b + k) :: st) := by
  obtain ⟨p, l, e, R, s, m, args, below, meth, c0, Q⟩ := Γ
  subst hp
  subst hf1
  obtain ⟨hx, hb, hml, hown, hT, hK, hX, -⟩ := X
  exact fun H locs ls hW hS hl9 => va_putF (D := (G.1, G.2.1)) (cl := vwCl) (ci := c) (C := C) (T := T) (N := Nf) hx hb (fun w hw => hT.use hw) hin ty0 hty hnm hown hK (z_EP hW) z_ED hS k ((z_el_get hk).trans (by rw [hE])) hc j (Nat.le_of_ble_eq_true hj) (hT.use hl) (fun x h9 => by rw [← href]; exact h9) hfin hin2 hown9 ((hty j (Nat.le_of_ble_eq_true hj)).trans (by rw [htj])) hn hfit (Nat.le_of_ble_eq_true hlen) hd (fun H1 locs1 hP1 _ hS1 => K H1 locs1 ls (z_Eset hk hP1) hS1 hl9)
theorem e_putFi {Γ : zC} {G : zG} {b nL cs ss pc N : Nat} {cc : ByteArray} {own : String} {rm : Room} {E : Nat → va_E} {lv : List (Nat × Value)} {st : List Value} {k c j Nf idx : Nat} {a : Int32} {C ref : String} {T : u_T} {fs : List Value} {ty0 : Nat → FieldType} {ty : FieldType} (X : z_CX Γ G b nL cc own rm) (hin2 : z_init Γ) (hk : k < N) (hE : E k = .inr (c, fs)) (hc : vwCl[c]? = some (C, T, Nf)) (hin : ∀ w ∈ u_ws C T Nf, w ∈ z_TB) (hj : Nat.blt j Nf = true) (hl : Cond.fieldLink own idx ref (T j).2.1 (T j).2.2.1 ∈ z_TB) (href : (T j).1 = ref) (hown9 : (T j).1 = own) (hty : ∀ k, k < Nf → parseFieldDescriptor (T k).2.2.1 = some (ty0 k)) (hnm : ∀ a, a < Nf → ∀ b, b < Nf → a ≠ b → (T a).2.1 ≠ (T b).2.1) (hfin : (T j).2.2.2 = true) (htj : ty0 j = ty) (hn : narrow ty (.int a) = .int a) (hfit : fits ty (.int a) = true) (hlen : Nat.blt j fs.length = true) (fs1 : List Value) (hf1 : fs.set j (.int a) = fs1) (hd : decode cc pc = .ok (.putfield idx, 3)) (pc' : Nat) (hp : pc + 3 = pc') (K : GE Γ G b cs ss N (z_up E k (.inr (c, fs1))) pc' lv st) : GE Γ G b cs ss N E pc lv (.int a :: .ref (b + k) :: st) := by
  obtain ⟨p, l, e, R, s, m, args, below, meth, c0, Q⟩ := Γ
  subst hp
  subst hf1
  obtain ⟨hx, hb, hml, hown, hT, hK, hX, -⟩ := X
  exact fun H locs ls hW hS hl9 => va_putF (D := (G.1, G.2.1)) (cl := vwCl) (ci := c) (C := C) (T := T) (N := Nf) hx hb (fun w hw => hT.use hw) hin ty0 hty hnm hown hK (z_EP hW) z_ED hS k ((z_el_get hk).trans (by rw [hE])) hc j (Nat.le_of_ble_eq_true hj) (hT.use hl) (fun x h9 => by rw [← href]; exact h9) hfin hin2 hown9 ((hty j (Nat.le_of_ble_eq_true hj)).trans (by rw [htj])) hn hfit (Nat.le_of_ble_eq_true hlen) hd (fun H1 locs1 hP1 _ hS1 => K H1 locs1 ls (z_Eset hk hP1) hS1 hl9)
theorem e_new {Γ : zC} {G : zG} {b nL cs ss pc N : Nat} {cc : ByteArray} {own : String} {rm : Room} {E : Nat → va_E} {lv : List (Nat × Value)} {st : List Value} {c Nf idx N0 : Nat} {C : String} {T : u_T} {fs : List Value} {ty0 : Nat → FieldType} (X : z_CX Γ G b nL cc own rm) (h0 : (z_s Γ).heap.size = b + N0) (hN : N = N0 + cs) (hin : ∀ w ∈ u_ws C T Nf, w ∈ z_TB) (hty : ∀ k, k < Nf → parseFieldDescriptor (T k).2.2.1 = some (ty0 k)) (hcl : Cond.classLink own idx C ∈ z_TB) (hi1 : Cond.instantiable C Nf ∈ z_TB) (hi2 : Cond.initialized C ∈ z_TB) (hc : vwCl[c]? = some (C, T, Nf)) (hfs : ∀ j, j < Nf → defaultValue (ty0 j) = vp_V fs j) (hro : cs + 1 ≤ rm.cells ∧ ss + Nf ≤ rm.slots) (hd : decode cc pc = .ok (.new idx, 3)) (pc' : Nat) (hp : pc + 3 = pc') (K : GE Γ G b (cs + 1) (ss + Nf) (N + 1) (z_up E N (.inr (c, fs))) pc' lv (.ref (b + N) :: st)) : GE Γ G b cs ss N E pc lv st := by
  obtain ⟨p, l, e, R, s, m, args, below, meth, c0, Q⟩ := Γ
  subst hp
  obtain ⟨hx, hb, hml, hown, hT, hK, hX, hRm, -⟩ := X
  intro H locs ls hW hS hl9
  refine z_size (fun hz => ?_)
  have hsz : H.size = b + N := z_next hW h0 hN hS.1 hz
  have hKn := hK.1 c _ hc
  refine W.newcK hx hb hown (hT.use hcl) (hT.use hi1) (hT.use hi2) rfl hd (by rw [hRm]; exact hro.1) (by rw [hRm]; exact hro.2) hKn.2.1 rfl (fun H1 kC hkC e1 z1 o1 => ?_)
  rw [hsz] at e1
  rw [hsz]
  refine K H1 locs ls (z_Epush hW o1 ?_) ⟨Nat.le_trans hS.1 (by omega), fun q h1 h2 => (o1 q (Nat.lt_of_lt_of_le h1 hS.1)).trans (hS.2.1 q h1 h2), hS.2.2⟩ hl9
  exact ⟨_, hc, (u_born (args := #[]) ty0 (fun w hw => hT.use hw) hin hKn hkC e1 hty).to hfs⟩
theorem e_newa {Γ : zC} {G : zG} {b nL cs ss pc N : Nat} {cc : ByteArray} {own : String} {rm : Room} {E : Nat → va_E} {lv : List (Nat × Value)} {st : List Value} {nn N0 t9 c : Nat} {n : Int32} {at9 : ArrayType} {ty : FieldType} {a0 : vp_A} (X : z_CX Γ G b nL cc own rm) (h0 : (z_s Γ).heap.size = b + N0) (hN : N = N0 + cs) (har : Cond.arrayClass ty ∈ z_TB) (hty : newarray.typeOf at9 = ty) (htt : (z_tys G)[t9]? = some (G.2.2 c, ty)) (hre : ∀ C, ty ≠ .object C) (ha : ∀ cA : ClassId, vp_cell cA a0 = arrV cA nn (fun _ => defaultValue ty)) (hn : ¬ n < 0) (hnn : n.toNatClampNeg = nn) (hby : (nn * componentBytes ty).ble 536870912 = true) (hro : cs + 1 ≤ rm.cells ∧ ss + nn ≤ rm.slots) (hd : decode cc pc = .ok (.newarray at9, 2)) (pc' : Nat) (hp : pc + 2 = pc') (K : GE Γ G b (cs + 1) (ss + nn) (N + 1) (z_up E N (.inl (G.2.2 c, a0))) pc' lv (.ref (b + N) :: st)) : GE Γ G b cs ss N E pc lv (.int n :: st) := by
  obtain ⟨p, l, e, R, s, m, args, below, meth, c0, Q⟩ := Γ
  subst hp
  subst hty
  obtain ⟨hx, hb, hml, hown, hT, hK, hX, hRm, -⟩ := X
  intro H locs ls hW hS hl9
  refine z_size (fun hz => ?_)
  have hsz : H.size = b + N := z_next hW h0 hN hS.1 hz
  refine va_newaK hx hb (hT.use har) rfl hd rfl hn hnn (Nat.le_of_ble_eq_true hby) (by rw [hRm]; exact hro.1) (by rw [hRm]; exact hro.2) hsz (fun H1 cA e1 z1 o1 hAr hNm => ?_)
  have hcA : cA = G.2.2 c := by
    have h9 := (hK.2 t9 _ htt).2
    unfold va_RA at h9
    revert h9 hre
    generalize newarray.typeOf at9 = ty9 at hNm ⊢
    intro hre h9
    cases ty9 with
    | object C => exact absurd rfl (hre C)
    | _ => exact Option.some.inj (hNm.symm.trans h9)
  subst hcA
  refine K H1 locs ls (z_Epush hW (fun q hq => o1 q (by omega)) ?_) ⟨Nat.le_trans hS.1 (by omega), fun q h1 h2 => (o1 q (by have := hS.1; omega)).trans (hS.2.1 q h1 h2), hS.2.2⟩ hl9
  show H1[b + N]? = some (vp_cell _ _)
  rw [ha]
  exact e1
theorem e_newq {Γ : zC} {G : zG} {b nL cs ss pc N : Nat} {cc : ByteArray} {own : String} {rm : Room} {E : Nat → va_E} {lv : List (Nat × Value)} {st : List Value} {nn N0 t9 c idx : Nat} {n : Int32} {C : String} (X : z_CX Γ G b nL cc own rm) (h0 : (z_s Γ).heap.size = b + N0) (hN : N = N0 + cs) (hcl : Cond.classLink own idx C ∈ z_TB) (hov : Cond.arrayOver (.object C) ∈ z_TB) (htt : (z_tys G)[t9]? = some (G.2.2 c, .object C)) (hn : ¬ n < 0) (hnn : n.toNatClampNeg = nn) (hby : (nn * 4).ble 536870912 = true) (hro : cs + 1 ≤ rm.cells ∧ ss + nn ≤ rm.slots) (hd : decode cc pc = .ok (.anewarray idx, 3)) (pc' : Nat) (hp : pc + 3 = pc') (K : GE Γ G b (cs + 1) (ss + nn) (N + 1) (z_up E N (.inl (G.2.2 c, nn, .inr (.inr (.inr (.inr (fun _ => none))))))) pc' lv (.ref (b + N) :: st)) : GE Γ G b cs ss N E pc lv (.int n :: st) := by
  obtain ⟨p, l, e, R, s, m, args, below, meth, c0, Q⟩ := Γ
  subst hp
  subst hnn
  obtain ⟨hx, hb, hml, hown, hT, hK, hX, hRm, -⟩ := X
  intro H locs ls hW hS hl9
  refine z_size (fun hz => ?_)
  have hsz : H.size = b + N := z_next hW h0 hN hS.1 hz
  refine W.anew hx hb hown (hT.use hcl) (hT.use hov) rfl hd rfl hn (Nat.le_of_ble_eq_true hby) (by rw [hRm]; exact hro.1) (by rw [hRm]; exact hro.2) (fun cA kA comp f1 f2 f3 f4 => ?_)
  generalize hH1 : H.push ({ cls := cA, slots := Array.replicate n.toNatClampNeg .null, vm := .none } : Cell) = H1
  have z1 : H1.size = H.size + 1 := by rw [← hH1, Array.size_push]
  have e1 : H1[H.size]? = some (arrV cA n.toNatClampNeg (fun _ => .null)) := by rw [← hH1, Array.getElem?_push_size, ← arrV_new]
  have o1 : ∀ q : Nat, q < H.size → H1[q]? = H[q]? := fun q hq => by rw [← hH1, Array.getElem?_push, if_neg (Nat.ne_of_lt hq)]
  have hcA : cA = G.2.2 c := by
    obtain ⟨kA9, comp9, g1, g2, g3, g4⟩ := (hK.2 t9 _ htt).2
    exact Option.some.inj (f1.symm.trans g4)
  subst hcA
  rw [hsz] at e1
  rw [hsz]
  refine K H1 locs ls (z_Epush hW o1 ?_) ⟨Nat.le_trans hS.1 (by omega), fun q h1 h2 => (o1 q (Nat.lt_of_lt_of_le h1 hS.1)).trans (hS.2.1 q h1 h2), hS.2.2⟩ hl9
  show H1[b + N]? = some (vp_cell _ _)
  rw [vp_cell_q]
  exact e1
theorem e_aast {Γ : zC} {G : zG} {b nL cs ss pc N : Nat} {cc : ByteArray} {own : String} {rm : Room} {E : Nat → va_E} {lv : List (Nat × Value)} {st : List Value} {k nn k1 ci t9 c : Nat} {f : Nat → Option Nat} {vs : List Value} {r : vw_C} {i : Int32} (X : z_CX Γ G b nL cc own rm) (hk : k < N) (hE : E k = .inl (G.2.2 c, nn, .inr (.inr (.inr (.inr f))))) (htt : (z_tys G)[t9]? = some (G.2.2 c, .object r.1)) (hk1 : k1 < N) (hE1 : E k1 = .inr (ci, vs)) (hc : vwCl[ci]? = some r) (hin9 : vp_in i nn) (hd : decode cc pc = .ok (.aastore, 1)) (pc' : Nat) (hp : pc + 1 = pc') (K : GE Γ G b cs ss N (z_up E k (.inl (G.2.2 c, nn, .inr (.inr (.inr (.inr (va_up f i.toNatClampNeg (some (b + k1)))))))) ) pc' lv st) : GE Γ G b cs ss N E pc lv (.ref (b + k1) :: .int i :: .ref (b + k) :: st) := by
  obtain ⟨p, l, e, R, s, m, args, below, meth, c0, Q⟩ := Γ
  subst hp
  obtain ⟨hx, hb, hml, hown, hT, hK, hX, -⟩ := X
  exact fun H locs ls hW hS hl9 => va_astq (D := (G.1, G.2.1)) (cl := vwCl) (r := r) (ci := ci) hx hb hK (z_EP hW) z_ED hS k t9 k1 ((z_el_get hk).trans (by rw [hE])) htt ((z_el_get hk1).trans (by rw [hE1])) hc hin9 hd (fun H1 locs1 hP1 _ hS1 => K H1 locs1 ls (z_Eset hk hP1) hS1 hl9)
theorem e_iast {Γ : zC} {G : zG} {b nL cs ss pc N : Nat} {cc : ByteArray} {own : String} {rm : Room} {E : Nat → va_E} {lv : List (Nat × Value)} {st : List Value} {k nn : Nat} {f : Nat → Int32} {i x : Int32} (X : z_CX Γ G b nL cc own rm) (hk : k < N) (hE : E k = .inl (G.2.2 8, nn, .inl f)) (hin9 : vp_in i nn) (hd : decode cc pc = .ok (.iastore, 1)) (pc' : Nat) (hp : pc + 1 = pc') (K : GE Γ G b cs ss N (z_up E k (.inl (G.2.2 8, nn, .inl (upd f i.toNatClampNeg x)))) pc' lv st) : GE Γ G b cs ss N E pc lv (.int x :: .int i :: .ref (b + k) :: st) := by
  obtain ⟨p, l, e, R, s, m, args, below, meth, c0, Q⟩ := Γ
  subst hp
  obtain ⟨hx, hb, hml, hown, hT, hK, hX, -⟩ := X
  exact fun H locs ls hW hS hl9 => va_iast (D := (G.1, G.2.1)) (cl := vwCl) hx hb hK (z_EP hW) z_ED hS k 0 ((z_el_get hk).trans (by rw [hE])) rfl hin9 hd (fun H1 locs1 hP1 _ hS1 => K H1 locs1 ls (z_Eset hk hP1) hS1 hl9)
theorem e_iald {Γ : zC} {G : zG} {b nL cs ss pc N : Nat} {cc : ByteArray} {own : String} {rm : Room} {E : Nat → va_E} {lv : List (Nat × Value)} {st : List Value} {k nn : Nat} {f : Nat → Int32} {i : Int32} (X : z_CX Γ G b nL cc own rm) (hk : k < N) (hE : E k = .inl (G.2.2 8, nn, .inl f)) (hin9 : vp_in i nn) (hd : decode cc pc = .ok (.iaload, 1)) (pc' : Nat) (hp : pc + 1 = pc') (K : GE Γ G b cs ss N E pc' lv (.int (f i.toNatClampNeg) :: st)) : GE Γ G b cs ss N E pc lv (.int i :: .ref (b + k) :: st) := by
  obtain ⟨p, l, e, R, s, m, args, below, meth, c0, Q⟩ := Γ
  subst hp
  obtain ⟨hx, hb, hml, hown, hT, hK, hX, -⟩ := X
  exact fun H locs ls hW hS hl9 => va_iald (D := (G.1, G.2.1)) (cl := vwCl) hx hb hK (z_EP hW) k 0 ((z_el_get hk).trans (by rw [hE])) rfl hin9 hd (K H locs ls hW hS hl9)
theorem e_eq {Γ : zC} {G : zG} {b cs ss pc N : Nat} {E : Nat → va_E} {lv : List (Nat × Value)} {st : List Value} {E1 : Nat → va_E} (h : ∀ k, k < N → E k = E1 k) (K : GE Γ G b cs ss N E1 pc lv st) : GE Γ G b cs ss N E pc lv st := fun H locs ls hW hS hl9 => K H locs ls (fun k hk => by rw [← h k hk]; exact hW k hk) hS hl9
