/-! ===== calls and ends: a method's contract is of one answer and one world behind it ===== -/
def z_Q (v : Option Value) (B : State → Prop) (b : Nat) : Array Value → State → Outcome → State → Prop := fun _ st oc t => oc = .returned v ∧ B t ∧ va_F (fun q => b ≤ q) st t
def z_MN (l : Launch) (y : MethodName) (bytes : ByteArray) (maxL : Nat) (ret : Option FieldType) (rm : Room) (G : zG) (b : Nat) (As : List Value) (M : zM) (v : Option Value) (M1 : zM) : Prop :=
  Met l y [.code y bytes maxL ret] rm (va_Pc As (z_B G b M)) (z_Q v (fun t => z_W G b M1 t.heap) b) 0 0 (fun q => b ≤ q)
theorem z_run {p : Program} {l : Launch} {e : Env} {R : Room} {s : State} {m : MethodId} {args : Array Value} {below : List Frame} {meth : Method} {c : Code} {H : Heap} {locs : List Loc} {cs ss : Nat} {Q : State → Prop} {pc : Nat} {ls : Array Slot} {rest st0 : List Value} {a : Array Value} {G : zG} {b : Nat} {M1 : zM} {v : Option Value} (hr : va_Run p l e R s m args below meth c H locs cs ss 0 0 (F0 m pc ls st0) rest (z_Q v (fun t => z_W G b M1 t.heap) b a) (fun q => b ≤ q)) (hS : va_S (fun q => b ≤ q) s.heap H locs)
    (K : ∀ (H1 : Heap) (locs1 : List Loc), z_W G b M1 H1 → va_S (fun q => b ≤ q) s.heap H1 locs1 → W p l e R s m args below meth c H1 locs1 cs ss Q (F0 m (pc + 3) ls (v.toList ++ rest))) : W p l e R s m args below meth c H locs cs ss Q (F0 m pc ls st0) := by
  intro T hT X
  obtain ⟨v', st₀, t, T', L, h0, X', hL, e1, e2, ⟨hv, hB, hz, hk⟩, st⟩ := hr T hT X
  cases hv
  rw [h0] at hz hk
  obtain ⟨t2, a1, b1⟩ := K T'.heap (locs ++ L) (by show z_W G b _ T'.heap; rw [e1]; exact hB)
    ⟨Nat.le_trans hS.1 (by rw [e1]; exact hz), fun q h1 h2 => by rw [e1, hk q (Nat.lt_of_lt_of_le h1 hS.1) h2]; exact hS.2.1 q h1 h2, fun q hq => by
      rcases List.mem_append.mp hq with h | h
      · exact hS.2.2 q h
      · exact hL q h⟩ T' rfl X'
  exact ⟨t2, st t2 a1, b1⟩
theorem z_Y1 {y : MethodName} {bytes : ByteArray} {maxL : Nat} {ret : Option FieldType} (h : Cond.code y bytes maxL ret ∈ z_TB) : GoodIn z_TB [.code y bytes maxL ret] := by
  intro w hw
  rw [List.mem_singleton.mp hw]
  exact ⟨h, good_of_word rfl⟩
theorem z_recv {G : zG} {b : Nat} {M : zM} {s : State} {H : Heap} {k c N : Nat} {C : String} {T : u_T} (hK : z_K G s) (hW : z_W G b M H) (hk : z_kd k = c) (hc8 : Nat.blt c 8 = true) (hc : vwCl[c]? = some (C, T, N)) : ∃ cell : Cell, H[b + k]? = some cell ∧ cell.vm.isStatics = false ∧ s.vm.findClass C = some cell.cls := by
  have hc9 : c < 8 := Nat.le_of_ble_eq_true hc8
  have hlt : k < 176 := z_lt (by cases h9 : (c == 99) with | false => rfl | true => rw [beq_iff_eq.mp h9] at hc9; omega) hk
  exact va_recv (q := (C, T, N)) hK (z_WP hW) hc ((z_wl_get hlt).trans (by rw [z_ent_o hk hc9]))
theorem r_callVN {Γ : zC} {G : zG} {b nL cs ss pc : Nat} {cc : ByteArray} {own : String} {rm : Room} {M : zM} {lv : List (Nat × Value)} {st : List Value} {M1 : zM} {rest : List Value} {idx k c maxL n N : Nat} {C host : String} {T : u_T} {y : MethodName} {bytes : ByteArray} {ret : Option FieldType} {rm1 : Room} {As : List Value} {v : Option Value} (X : z_CX Γ G b nL cc own rm) (hM : z_MN Γ.2.1 y bytes maxL ret rm1 G b (.ref (b + k) :: As) M v M1) (hY : z_Y y bytes maxL ret n) (hV : z_YV y) (hl : Cond.methodLinkNest own idx y host ∈ z_TB) (hk : z_kd k = c) (hc8 : Nat.blt c 8 = true) (hc : vwCl[c]? = some (C, T, N)) (hC : y.cls = C) (hr0 : rm1.cells = 0 ∧ rm1.slots = 0) (hR : (rm1.frames + 1).ble rm.frames = true ∧ (8 + (maxL + 11) + rm1.locals).ble rm.locals = true) (hst : st = As.reverse ++ .ref (b + k) :: rest) (hn : As.length = n) (hrs : (rest.map fun v => v.category).sum ≤ 8) (hro : cs ≤ rm.cells ∧ ss ≤ rm.slots) (hd : decode cc pc = .ok (.invokevirtual idx, 3)) (pc' : Nat) (hp : pc + 3 = pc') (st' : List Value) (hst' : v.toList ++ rest = st') (K : GW Γ G b cs ss M1 pc' lv st') : GW Γ G b cs ss M pc lv st := by
  subst hst'
  obtain ⟨p, l, e, R, s, m, args, below, meth, c0, Q⟩ := Γ
  subst hp
  obtain ⟨hx, hb, hml, hown, hT, hK, hX, hRm, -⟩ := X
  intro H locs ls hW hS hl9
  have hsz : ls.size = nL := hl9.1.trans hml
  refine z_run (va_runVN (cc := cc) (nL := nL) (C := C) (As := As) (rest := rest) ⟨hx, hb, hml, hown, fun w (hw : w ∈ z_TB) => hT.use hw⟩ hM ⟨va_cnB n (fun w (hw : w ∈ z_TB) => hT.use hw) (z_Y1 hY.2.2) rfl hr0.1 hr0.2 (va_Nw.of rfl (hT.use (args := #[]) hl)) (hT.use hY.2.1) hY.1 (by rw [hRm]; exact ⟨Nat.le_of_ble_eq_true hR.1, Nat.le_of_ble_eq_true hR.2⟩), hT.use hV.1, by rw [← hC]; exact hT.use hV.2⟩ ⟨z_blind, z_recv hK hW hk hc8 hc, fun U hU hw => ⟨rfl, z_pre hT hK hX hW hS hU hw⟩⟩ rfl hn hsz hst (lv_room hrs) hd (by rw [hRm]; exact hro)) hS (fun H1 locs1 hW1 hS1 => K H1 locs1 ls hW1 hS1 hl9)
theorem r_callV {Γ : zC} {G : zG} {b nL cs ss pc : Nat} {cc : ByteArray} {own : String} {rm : Room} {M : zM} {lv : List (Nat × Value)} {st : List Value} {M1 : zM} {rest : List Value} {idx k c maxL n N : Nat} {C : String} {T : u_T} {y : MethodName} {bytes : ByteArray} {ret : Option FieldType} {rm1 : Room} {As : List Value} {v : Option Value} (X : z_CX Γ G b nL cc own rm) (hM : z_MN Γ.2.1 y bytes maxL ret rm1 G b (.ref (b + k) :: As) M v M1) (hY : z_Y y bytes maxL ret n) (hV : z_YV y) (hl : Cond.methodLink own idx y ∈ z_TB) (hk : z_kd k = c) (hc8 : Nat.blt c 8 = true) (hc : vwCl[c]? = some (C, T, N)) (hC : y.cls = C) (hr0 : rm1.cells = 0 ∧ rm1.slots = 0) (hR : (rm1.frames + 1).ble rm.frames = true ∧ (8 + (maxL + 11) + rm1.locals).ble rm.locals = true) (hst : st = As.reverse ++ .ref (b + k) :: rest) (hn : As.length = n) (hrs : (rest.map fun v => v.category).sum ≤ 8) (hro : cs ≤ rm.cells ∧ ss ≤ rm.slots) (hd : decode cc pc = .ok (.invokevirtual idx, 3)) (pc' : Nat) (hp : pc + 3 = pc') (st' : List Value) (hst' : v.toList ++ rest = st') (K : GW Γ G b cs ss M1 pc' lv st') : GW Γ G b cs ss M pc lv st := by
  subst hst'
  obtain ⟨p, l, e, R, s, m, args, below, meth, c0, Q⟩ := Γ
  subst hp
  obtain ⟨hx, hb, hml, hown, hT, hK, hX, hRm, -⟩ := X
  intro H locs ls hW hS hl9
  have hsz : ls.size = nL := hl9.1.trans hml
  have hG : GoodIn z_TB (wsV own idx C y [.code y bytes maxL ret]) := by
    intro w hw
    simp only [wsV, List.cons_append, List.nil_append, List.mem_cons, List.not_mem_nil, or_false] at hw
    rcases hw with rfl | rfl | rfl | rfl | rfl
    · exact ⟨hl, good_of_word rfl⟩
    · exact ⟨hV.1, good_of_word rfl⟩
    · exact ⟨by rw [← hC]; exact hV.2, good_of_word rfl⟩
    · exact ⟨by rw [← hC]; exact hY.2.1, good_of_word rfl⟩
    · exact ⟨hY.2.2, good_of_word rfl⟩
  refine z_run (va_runV (cc := cc) (nL := nL) (C := C) (As := As) (rest := rest) ⟨hx, hb, hml, hown, fun w (hw : w ∈ z_TB) => hT.use hw⟩ hM (cwV n (fun w (hw : w ∈ z_TB) => hT.use hw) hG rfl hr0.1 hr0.2 ⟨hC, hY.1⟩ (by rw [hRm]; exact ⟨Nat.le_of_ble_eq_true hR.1, Nat.le_of_ble_eq_true hR.2⟩)) ⟨z_blind, z_recv hK hW hk hc8 hc, fun U hU hw => ⟨rfl, z_pre hT hK hX hW hS hU hw⟩⟩ rfl hn hsz hst (lv_room hrs) hd (by rw [hRm]; exact hro)) hS (fun H1 locs1 hW1 hS1 => K H1 locs1 ls hW1 hS1 hl9)
theorem r_callS {Γ : zC} {G : zG} {b nL cs ss pc : Nat} {cc : ByteArray} {own : String} {rm : Room} {M : zM} {lv : List (Nat × Value)} {st : List Value} {M1 : zM} {rest : List Value} {idx maxL n : Nat} {y : MethodName} {bytes : ByteArray} {ret : Option FieldType} {rm1 : Room} {As : List Value} {v : Option Value} (X : z_CX Γ G b nL cc own rm) (hM : z_MN Γ.2.1 y bytes maxL ret rm1 G b As M v M1) (hY : z_Y y bytes maxL ret n) (hV : Cond.static y ∈ z_TB) (hl : Cond.methodLink own idx y ∈ z_TB) (hC : y.cls = own) (hr0 : rm1.cells = 0 ∧ rm1.slots = 0) (hR : (rm1.frames + 1).ble rm.frames = true ∧ (8 + (maxL + 11) + rm1.locals).ble rm.locals = true) (hst : st = As.reverse ++ rest) (hn : As.length = n) (hrs : (rest.map fun v => v.category).sum ≤ 8) (hro : cs ≤ rm.cells ∧ ss ≤ rm.slots) (hd : decode cc pc = .ok (.invokestatic idx, 3)) (pc' : Nat) (hp : pc + 3 = pc') (st' : List Value) (hst' : v.toList ++ rest = st') (K : GW Γ G b cs ss M1 pc' lv st') : GW Γ G b cs ss M pc lv st := by
  subst hst'
  obtain ⟨p, l, e, R, s, m, args, below, meth, c0, Q⟩ := Γ
  subst hp
  obtain ⟨hx, hb, hml, hown, hT, hK, hX, hRm, -⟩ := X
  intro H locs ls hW hS hl9
  have hsz : ls.size = nL := hl9.1.trans hml
  have hG : GoodIn z_TB (wsS own idx y [.code y bytes maxL ret]) := by
    intro w hw
    simp only [wsS, List.cons_append, List.nil_append, List.mem_cons, List.not_mem_nil, or_false] at hw
    rcases hw with rfl | rfl | rfl | rfl
    · exact ⟨hl, good_of_word rfl⟩
    · exact ⟨hV, good_of_word rfl⟩
    · exact ⟨by rw [← hC]; exact hY.2.1, good_of_word rfl⟩
    · exact ⟨hY.2.2, good_of_word rfl⟩
  refine z_run (va_runS (cc := cc) (nL := nL) (As := As) (rest := rest) ⟨hx, hb, hml, hown, fun w (hw : w ∈ z_TB) => hT.use hw⟩ hM (cwS n (fun w (hw : w ∈ z_TB) => hT.use hw) hG rfl hr0.1 hr0.2 ⟨hC, hY.1⟩ (by rw [hRm]; exact ⟨Nat.le_of_ble_eq_true hR.1, Nat.le_of_ble_eq_true hR.2⟩)) ⟨z_blind, fun U hU hw => ⟨rfl, z_pre hT hK hX hW hS hU hw⟩⟩ rfl hn hsz hst (lv_room hrs) hd (by rw [hRm]; exact hro)) hS (fun H1 locs1 hW1 hS1 => K H1 locs1 ls hW1 hS1 hl9)
/-- leave to end, with this answer and this world -/
def z_R (Γ : zC) (G : zG) (b : Nat) (v : Option Value) (M1 : zM) (ret : Option FieldType) : Prop := match Γ with
  | (_, _, _, _, s, _, args, below, meth, _, Q) => Q = MQ below (z_Q v (fun t => z_W G b M1 t.heap) b) args s 0 0 (fun q => b ≤ q) ∧ meth.sig.returnType = ret
theorem z_met {l : Launch} {y : MethodName} {own : String} {cc : ByteArray} {maxL : Nat} {ret : Option FieldType} {rm : Room} {G : zG} {b : Nat} {As : List Value} {M : zM} {v : Option Value} {M1 : zM} (hl : l.stackTraces = false) (hy : plainName y.cls = true) (hlen : Nat.ble (lg_sl As).length maxL = true)
    (ho : y.cls = own) (body : ∀ Γ : zC, Γ.2.1 = l → z_CX Γ G b maxL cc own rm → z_R Γ G b v M1 ret → GW Γ G b 0 0 M 0 (lv_args 0 As) []) : z_MN l y cc maxL ret rm G b As M v M1 := by
  refine Met.ofW (cc := cc) (maxL := maxL) (ret := ret) hy rfl ?_
  intro p e s m args below meth c s₁ B hml hv
  obtain ⟨rfl, hW, hK, hT, hX⟩ := hv
  have h := body (p, l, e, rm, s, m, As.toArray, below, meth, c, MQ below (z_Q v (fun t => z_W G b M1 t.heap) b) As.toArray s 0 0 (fun q => b ≤ q)) rfl ⟨B.exec, B.bytes, hml, (by rw [← ho]; exact findClass_of_methodNamed B.named), hT, hK, hX, rfl, B.notSynchronized, hl⟩ ⟨rfl, B.returns⟩
  rw [lg_entry_eq]
  exact h s.heap [] _ hW va_S.rf (by rw [show (z_c (p, l, e, rm, s, m, As.toArray, below, meth, c, MQ below (z_Q v (fun t => z_W G b M1 t.heap) b) As.toArray s 0 0 (fun q => b ≤ q))).maxLocals = maxL from hml]; exact lv_entry As (Nat.le_of_ble_eq_true hlen))
theorem r_iret {Γ : zC} {G : zG} {b nL pc : Nat} {cc : ByteArray} {own : String} {rm : Room} {M : zM} {lv : List (Nat × Value)} {x : Int32} {ty : FieldType} (X : z_CX Γ G b nL cc own rm) (hR : z_R Γ G b (some (.int x)) M (some ty)) (hn : narrow ty (.int x) = .int x) (hd : decode cc pc = .ok (.ireturn, 1)) : GW Γ G b 0 0 M pc lv [.int x] := by
  obtain ⟨p, l, e, R, s, m, args, below, meth, c, Q⟩ := Γ
  obtain ⟨hx, hb, hml, hown, hT, hK, hX, hRm, hlocks, -⟩ := X
  obtain ⟨rfl, hr⟩ := hR
  exact fun H locs ls hW hS hl => W.zret hx hb hr hn (fun t ht hw => ⟨rfl, by show z_W G b _ t.heap; rw [ht]; exact hW, hS.F ht⟩) hS.2.2 hd hlocks
theorem r_vret {Γ : zC} {G : zG} {b nL pc : Nat} {cc : ByteArray} {own : String} {rm : Room} {M : zM} {lv : List (Nat × Value)} (X : z_CX Γ G b nL cc own rm) (hR : z_R Γ G b none M none) (hd : decode cc pc = .ok (.return_, 1)) : GW Γ G b 0 0 M pc lv [] := by
  obtain ⟨p, l, e, R, s, m, args, below, meth, c, Q⟩ := Γ
  obtain ⟨hx, hb, hml, hown, hT, hK, hX, hRm, hlocks, -⟩ := X
  obtain ⟨rfl, hr⟩ := hR
  exact fun H locs ls hW hS hl => W.vret hx hb hr (fun t ht hw => ⟨rfl, by show z_W G b _ t.heap; rw [ht]; exact hW, hS.F ht⟩) hS.2.2 hd hlocks
theorem r_aret {Γ : zC} {G : zG} {b nL pc : Nat} {cc : ByteArray} {own : String} {rm : Room} {M : zM} {lv : List (Nat × Value)} {v : Value} {C : String} (X : z_CX Γ G b nL cc own rm) (hR : z_R Γ G b (some v) M (some (.object C))) (hv : v = .null ∨ ∃ a, v = .ref a) (hd : decode cc pc = .ok (.areturn, 1)) : GW Γ G b 0 0 M pc lv [v] := by
  obtain ⟨p, l, e, R, s, m, args, below, meth, c, Q⟩ := Γ
  obtain ⟨hx, hb, hml, hown, hT, hK, hX, hRm, hlocks, -⟩ := X
  obtain ⟨rfl, hr⟩ := hR
  exact fun H locs ls hW hS hl => W.aret hx hb hr (Or.inl ⟨C, rfl⟩) hv (fun t ht hw => ⟨rfl, by show z_W G b _ t.heap; rw [ht]; exact hW, hS.F ht⟩) hS.2.2 hd hlocks
/-! ===== loops, as the functions have them ===== -/
def z_loop {σ ρ : Type} (f : σ → Option (σ ⊕ ρ)) : Nat → σ → Option ρ
  | 0, _ => none
  | n + 1, s => (f s).bind fun q => match q with
    | .inl s' => z_loop f n s'
    | .inr r => some r
theorem z_loopP {σ ρ : Type} {f : σ → Option (σ ⊕ ρ)} (P : σ → Prop) {r : ρ} (h : ∀ s q, f s = some q → (∀ s', q = .inl s' → P s') → (∀ r', q = .inr r' → r' = r) → P s) : ∀ (n : Nat) (s : σ), z_loop f n s = some r → P s := by
  intro n
  induction n with
  | zero =>
    intro s hs
    cases hs
  | succ n ih =>
    intro s hs
    obtain ⟨q, h1, h2⟩ := Option.bind_eq_some_iff.mp hs
    refine h s q h1 (fun s' e => ?_) (fun r' e => ?_)
    · subst e
      exact ih s' h2
    · subst e
      exact Option.some.inj h2
theorem z_bd {α β : Type} {o : Option α} {f : α → Option β} {r : β} (h : o.bind f = some r) : ∃ a, o = some a ∧ f a = some r := Option.bind_eq_some_iff.mp h
theorem z_it {α : Type} {c : Prop} {i : Decidable c} {a d : Option α} {r : α} (hc : c) (h : (if c then a else d) = some r) : a = some r := by
  rw [if_pos hc] at h
  exact h
theorem z_ie {α : Type} {c : Prop} {i : Decidable c} {a d : Option α} {r : α} (hc : ¬ c) (h : (if c then a else d) = some r) : d = some r := by
  rw [if_neg hc] at h
  exact h
def z_FU : Nat := 4000
def z_oc {α : Type} (q : Option Nat) (a : Option α) (f : Nat → Option α) : Option α := match q with
  | none => a
  | some x => f x
theorem z_ocn {α : Type} {a : Option α} {f : Nat → Option α} {r : α} (h : z_oc none a f = some r) : a = some r := h
theorem z_ocs {α : Type} {a : Option α} {f : Nat → Option α} {r : α} {x : Nat} (h : z_oc (some x) a f = some r) : f x = some r := h
def z_ox {τ α : Type} (o : String ⊕ τ) (g : String → Option α) (f : τ → Option α) : Option α := match o with
  | .inl E => g E
  | .inr x => f x
theorem z_oxl {τ α : Type} {g : String → Option α} {f : τ → Option α} {r : α} {E : String} (h : z_ox (.inl E) g f = some r) : g E = some r := h
theorem z_oxr {τ α : Type} {g : String → Option α} {f : τ → Option α} {r : α} {x : τ} (h : z_ox (.inr x) g f = some r) : f x = some r := h
def z_sc {ξ ρ α : Type} (z : ξ ⊕ ρ) (f : ξ → Option α) (g : ρ → Option α) : Option α := match z with
  | .inl x => f x
  | .inr r => g r
theorem z_scl {ξ ρ α : Type} {f : ξ → Option α} {g : ρ → Option α} {r : α} {x : ξ} (h : z_sc (.inl x) f g = some r) : f x = some r := h
theorem z_scr {ξ ρ α : Type} {f : ξ → Option α} {g : ρ → Option α} {r : α} {x : ρ} (h : z_sc (.inr x) f g = some r) : g x = some r := h
def z_gd {α : Type} (x c : Nat) (o : Option α) : Option α := if z_kd x = c then o else none
theorem z_gd_of {α : Type} {x c : Nat} {o : Option α} {r : α} (h : z_gd x c o = some r) : z_kd x = c ∧ o = some r := by
  unfold z_gd at h
  split at h
  · rename_i q
    exact ⟨q, h⟩
  · cases h
def z_v (b : Nat) (r : Option Nat) : Value := match r with
  | none => .null
  | some c => .ref (b + c)
def z_b2 {A1 A2 γ : Type} (o : Option (A1 × A2)) (f : A1 → A2 → Option γ) : Option γ := o.bind fun q => f q.1 q.2
theorem z_bd2 {A1 A2 γ : Type} {o : Option (A1 × A2)} {f : A1 → A2 → Option γ} {r : γ} (h : z_b2 o f = some r) : ∃ x1 x2, o = some (x1, x2) ∧ f x1 x2 = some r := by
  obtain ⟨q, h1, h2⟩ := Option.bind_eq_some_iff.mp h
  exact ⟨q.1, q.2, h1, h2⟩
def z_b3 {A1 A2 A3 γ : Type} (o : Option (A1 × A2 × A3)) (f : A1 → A2 → A3 → Option γ) : Option γ := o.bind fun q => f q.1 q.2.1 q.2.2
theorem z_bd3 {A1 A2 A3 γ : Type} {o : Option (A1 × A2 × A3)} {f : A1 → A2 → A3 → Option γ} {r : γ} (h : z_b3 o f = some r) : ∃ x1 x2 x3, o = some (x1, x2, x3) ∧ f x1 x2 x3 = some r := by
  obtain ⟨q, h1, h2⟩ := Option.bind_eq_some_iff.mp h
  exact ⟨q.1, q.2.1, q.2.2, h1, h2⟩
def z_b4 {A1 A2 A3 A4 γ : Type} (o : Option (A1 × A2 × A3 × A4)) (f : A1 → A2 → A3 → A4 → Option γ) : Option γ := o.bind fun q => f q.1 q.2.1 q.2.2.1 q.2.2.2
theorem z_bd4 {A1 A2 A3 A4 γ : Type} {o : Option (A1 × A2 × A3 × A4)} {f : A1 → A2 → A3 → A4 → Option γ} {r : γ} (h : z_b4 o f = some r) : ∃ x1 x2 x3 x4, o = some (x1, x2, x3, x4) ∧ f x1 x2 x3 x4 = some r := by
  obtain ⟨q, h1, h2⟩ := Option.bind_eq_some_iff.mp h
  exact ⟨q.1, q.2.1, q.2.2.1, q.2.2.2, h1, h2⟩
def z_b5 {A1 A2 A3 A4 A5 γ : Type} (o : Option (A1 × A2 × A3 × A4 × A5)) (f : A1 → A2 → A3 → A4 → A5 → Option γ) : Option γ := o.bind fun q => f q.1 q.2.1 q.2.2.1 q.2.2.2.1 q.2.2.2.2
theorem z_bd5 {A1 A2 A3 A4 A5 γ : Type} {o : Option (A1 × A2 × A3 × A4 × A5)} {f : A1 → A2 → A3 → A4 → A5 → Option γ} {r : γ} (h : z_b5 o f = some r) : ∃ x1 x2 x3 x4 x5, o = some (x1, x2, x3, x4, x5) ∧ f x1 x2 x3 x4 x5 = some r := by
  obtain ⟨q, h1, h2⟩ := Option.bind_eq_some_iff.mp h
  exact ⟨q.1, q.2.1, q.2.2.1, q.2.2.2.1, q.2.2.2.2, h1, h2⟩
def z_b6 {A1 A2 A3 A4 A5 A6 γ : Type} (o : Option (A1 × A2 × A3 × A4 × A5 × A6)) (f : A1 → A2 → A3 → A4 → A5 → A6 → Option γ) : Option γ := o.bind fun q => f q.1 q.2.1 q.2.2.1 q.2.2.2.1 q.2.2.2.2.1 q.2.2.2.2.2
theorem z_bd6 {A1 A2 A3 A4 A5 A6 γ : Type} {o : Option (A1 × A2 × A3 × A4 × A5 × A6)} {f : A1 → A2 → A3 → A4 → A5 → A6 → Option γ} {r : γ} (h : z_b6 o f = some r) : ∃ x1 x2 x3 x4 x5 x6, o = some (x1, x2, x3, x4, x5, x6) ∧ f x1 x2 x3 x4 x5 x6 = some r := by
  obtain ⟨q, h1, h2⟩ := Option.bind_eq_some_iff.mp h
  exact ⟨q.1, q.2.1, q.2.2.1, q.2.2.2.1, q.2.2.2.2.1, q.2.2.2.2.2, h1, h2⟩
def z_b7 {A1 A2 A3 A4 A5 A6 A7 γ : Type} (o : Option (A1 × A2 × A3 × A4 × A5 × A6 × A7)) (f : A1 → A2 → A3 → A4 → A5 → A6 → A7 → Option γ) : Option γ := o.bind fun q => f q.1 q.2.1 q.2.2.1 q.2.2.2.1 q.2.2.2.2.1 q.2.2.2.2.2.1 q.2.2.2.2.2.2
theorem z_bd7 {A1 A2 A3 A4 A5 A6 A7 γ : Type} {o : Option (A1 × A2 × A3 × A4 × A5 × A6 × A7)} {f : A1 → A2 → A3 → A4 → A5 → A6 → A7 → Option γ} {r : γ} (h : z_b7 o f = some r) : ∃ x1 x2 x3 x4 x5 x6 x7, o = some (x1, x2, x3, x4, x5, x6, x7) ∧ f x1 x2 x3 x4 x5 x6 x7 = some r := by
  obtain ⟨q, h1, h2⟩ := Option.bind_eq_some_iff.mp h
  exact ⟨q.1, q.2.1, q.2.2.1, q.2.2.2.1, q.2.2.2.2.1, q.2.2.2.2.2.1, q.2.2.2.2.2.2, h1, h2⟩
def z_b8 {A1 A2 A3 A4 A5 A6 A7 A8 γ : Type} (o : Option (A1 × A2 × A3 × A4 × A5 × A6 × A7 × A8)) (f : A1 → A2 → A3 → A4 → A5 → A6 → A7 → A8 → Option γ) : Option γ := o.bind fun q => f q.1 q.2.1 q.2.2.1 q.2.2.2.1 q.2.2.2.2.1 q.2.2.2.2.2.1 q.2.2.2.2.2.2.1 q.2.2.2.2.2.2.2
theorem z_bd8 {A1 A2 A3 A4 A5 A6 A7 A8 γ : Type} {o : Option (A1 × A2 × A3 × A4 × A5 × A6 × A7 × A8)} {f : A1 → A2 → A3 → A4 → A5 → A6 → A7 → A8 → Option γ} {r : γ} (h : z_b8 o f = some r) : ∃ x1 x2 x3 x4 x5 x6 x7 x8, o = some (x1, x2, x3, x4, x5, x6, x7, x8) ∧ f x1 x2 x3 x4 x5 x6 x7 x8 = some r := by
  obtain ⟨q, h1, h2⟩ := Option.bind_eq_some_iff.mp h
  exact ⟨q.1, q.2.1, q.2.2.1, q.2.2.2.1, q.2.2.2.2.1, q.2.2.2.2.2.1, q.2.2.2.2.2.2.1, q.2.2.2.2.2.2.2, h1, h2⟩
def z_bz {α : Type} (x : Int32) (o : Option α) : Option α := if x = 0 ∨ x = 1 then o else none
theorem z_bz_of {α : Type} {x : Int32} {o : Option α} {r : α} (h : z_bz x o = some r) : narrow .boolean (.int x) = .int x ∧ o = some r := by
  unfold z_bz at h
  split at h
  · rename_i q
    exact ⟨by rcases q with rfl | rfl <;> rfl, h⟩
  · cases h
