/-! ===== the law's helpers (they catch), the law's own rows ===== -/
abbrev zHH : Type := List (Nat × Nat × Nat × Nat)
def z_rmh (f lo : Nat) : Room := { frames := f, cells := 1, slots := 6, locals := lo }
def z_MH (l : Launch) (y : MethodName) (bytes : ByteArray) (maxL : Nat) (ret : Option FieldType) (hh : zHH) (f lo : Nat) (G : zG) (b : Nat) (As : List Value) (M : zM) (v : Option Value) (M1 : zM) : Prop :=
  vx_Met l y [.codeWith y bytes maxL ret hh] (z_rmh f lo) (va_Pc As (z_B G b M)) (z_Q v (fun t => z_W G b M1 t.heap) b) (fun _ _ _ => False) 1 6 (fun q => b ≤ q)
def z_RH (Γ : zC) (G : zG) (b : Nat) (v : Option Value) (M1 : zM) (ret : Option FieldType) (hh : zHH) : Prop := match Γ with
  | (_, _, _, _, s, _, args, below, meth, c, Q) => Q = vx_MQ below (z_Q v (fun t => z_W G b M1 t.heap) b) (fun _ _ _ => False) args s 1 6 (fun q => b ≤ q) ∧ meth.sig.returnType = ret ∧ c.exceptionTable.toList = tableOf hh
theorem z_meth {l : Launch} {y : MethodName} {own : String} {cc : ByteArray} {maxL : Nat} {ret : Option FieldType} {hh : zHH} {f lo : Nat} {G : zG} {b : Nat} {As : List Value} {M : zM} {v : Option Value} {M1 : zM} (hl : l.stackTraces = false) (hy : plainName y.cls = true) (hlen : Nat.ble (lg_sl As).length maxL = true) (ho : y.cls = own)
    (body : ∀ Γ : zC, Γ.2.1 = l → z_CX Γ G b maxL cc own (z_rmh f lo) → z_RH Γ G b v M1 ret hh → GW Γ G b 0 0 M 0 (lv_args 0 As) []) : z_MH l y cc maxL ret hh f lo G b As M v M1 := by
  refine vx_ofWH (cc := cc) (maxL := maxL) (ret := ret) (hh := hh) hy rfl ?_
  intro p e s m args below meth c s₁ B hml hv
  obtain ⟨rfl, hW, hK, hT, hX⟩ := hv
  have htab := vx_table (x := y) B (atoms_spec (ws := [.codeWith y cc maxL ret hh]) B.pre _ List.mem_cons_self)
  have h := body (p, l, e, z_rmh f lo, s, m, As.toArray, below, meth, c, vx_MQ below (z_Q v (fun t => z_W G b M1 t.heap) b) (fun _ _ _ => False) As.toArray s 1 6 (fun q => b ≤ q)) rfl ⟨B.exec, B.bytes, hml, (by rw [← ho]; exact findClass_of_methodNamed B.named), hT, hK, hX, rfl, B.notSynchronized, hl⟩ ⟨rfl, B.returns, htab⟩
  rw [lg_entry_eq]
  exact h s.heap [] _ hW va_S.rf (by rw [show (z_c (p, l, e, z_rmh f lo, s, m, As.toArray, below, meth, c, vx_MQ below (z_Q v (fun t => z_W G b M1 t.heap) b) (fun _ _ _ => False) As.toArray s 1 6 (fun q => b ≤ q))).maxLocals = maxL from hml]; exact lv_entry As (Nat.le_of_ble_eq_true hlen))
theorem r_hret {Γ : zC} {G : zG} {b nL cs ss pc : Nat} {cc : ByteArray} {own : String} {rm : Room} {M : zM} {lv : List (Nat × Value)} {x : Int32} {ty : FieldType} {hh : zHH} (X : z_CX Γ G b nL cc own rm) (hR : z_RH Γ G b (some (.int x)) M (some ty) hh) (h1 : cs ≤ 1) (h2 : ss ≤ 6) (hn : narrow ty (.int x) = .int x) (hd : decode cc pc = .ok (.ireturn, 1)) : GW Γ G b cs ss M pc lv [.int x] := by
  obtain ⟨p, l, e, R, s, m, args, below, meth, c, Q⟩ := Γ
  obtain ⟨hx, hb, hml, hown, hT, hK, hX, hRm, hlocks, -⟩ := X
  obtain ⟨rfl, hr, -⟩ := hR
  exact fun H locs ls hW hS hl => W.widen h1 h2 (vx_ret (W.zret hx hb hr hn (fun t ht hw => ⟨rfl, by show z_W G b _ t.heap; rw [ht]; exact hW, hS.F ht⟩) hS.2.2 hd hlocks))
/-- an entry of a method's table that a thrown class passes by -/
def z_pass (E : String) (q : Nat × Nat × Nat × Nat) : Prop := q.2.2.2 ≠ 0 ∧ ∃ nm : String, Cond.classLink RL q.2.2.2 nm ∈ z_TB ∧ (E, nm) ∈ z_ncs
theorem r_hcatch {Γ : zC} {G : zG} {b nL pc : Nat} {cc : ByteArray} {M : zM} {lv : List (Nat × Value)} {st : List Value} {M1 : zM} {rest : List Value} {idx k c maxL n N f1 lo1 f lo : Nat} {E C name : String} {T : u_T} {y : MethodName} {bytes : ByteArray} {ret ret1 : Option FieldType} {As : List Value} {v9 : Option Value} {M9 : zM} {hh pre suf : zHH} {x : Nat × Nat × Nat × Nat} (X : z_CX Γ G b nL cc RL (z_rmh f lo)) (hR9 : z_RH Γ G b v9 M9 ret hh) (hM : z_MX Γ.2.1 y bytes maxL ret1 f1 lo1 G b (.ref (b + k) :: As) M (.inl E) M1) (hY : z_Y y bytes maxL ret1 n) (hV : z_YV y) (hl : Cond.methodLink RL idx y ∈ z_TB) (hk : z_kd k = c) (hc8 : Nat.blt c 8 = true) (hc : vwCl[c]? = some (C, T, N)) (hC : y.cls = C) (hR : (f1 + 1).ble f = true ∧ (8 + (maxL + 11) + lo1).ble lo = true) (hst : st = As.reverse ++ .ref (b + k) :: rest) (hn : As.length = n) (hrs : (rest.map fun v => v.category).sum ≤ 8) (hsplit : hh = pre ++ x :: suf) (hpre : ∀ q ∈ pre, z_pass E q) (hcov : covers ⟨x.1, x.2.1, x.2.2.1, x.2.2.2⟩ pc = true) (h0 : x.2.2.2 ≠ 0) (hlk : Cond.classLink RL x.2.2.2 name ∈ z_TB) (hcast : Cond.castable E name ∈ z_TB) (hd : decode cc pc = .ok (.invokevirtual idx, 3)) (K : ∀ q9 : Nat, GW Γ G b 1 6 M1 x.2.2.1 lv [.ref q9]) : GW Γ G b 0 0 M pc lv st := by
  obtain ⟨p, l, e, R, s, m, args, below, meth, c0, Q⟩ := Γ
  obtain ⟨hx, hb, hml, hown, hT, hK, hX, hRm, hlocks, -⟩ := X
  obtain ⟨-, hr, htab⟩ := hR9
  intro H locs ls hW hS hl9
  have hsz : ls.size = nL := hl9.1.trans hml
  have hG : GoodIn z_TB (wsV RL idx C y [.code y bytes maxL ret1]) := by
    intro w hw
    simp only [wsV, List.cons_append, List.nil_append, List.mem_cons, List.not_mem_nil, or_false] at hw
    rcases hw with rfl | rfl | rfl | rfl | rfl
    · exact ⟨hl, good_of_word rfl⟩
    · exact ⟨hV.1, good_of_word rfl⟩
    · exact ⟨by rw [← hC]; exact hV.2, good_of_word rfl⟩
    · exact ⟨by rw [← hC]; exact hY.2.1, good_of_word rfl⟩
    · exact ⟨hY.2.2, good_of_word rfl⟩
  refine z_xrun (Qc := z_QR (.inl E) (fun t => z_W G b M1 t.heap) b) (XC := z_QX (.inl E) (fun t => z_W G b M1 t.heap) b) (mc1 := 1) (ms1 := 6) (vx_runV (cc := cc) (nL := nL) (C := C) (As := As) (rest := rest) ⟨hx, hb, hml, hown, fun w (hw : w ∈ z_TB) => hT.use hw⟩ hM (cwV n (fun w (hw : w ∈ z_TB) => hT.use hw) hG rfl rfl rfl ⟨hC, hY.1⟩ (by rw [hRm]; exact ⟨Nat.le_of_ble_eq_true hR.1, Nat.le_of_ble_eq_true hR.2⟩)) ⟨z_blind, z_recv hK hW hk hc8 hc, fun U hU hw => ⟨rfl, z_pre hT hK hX hW hS hU hw⟩⟩ rfl hn hsz hst (lv_room hrs) hd (by rw [hRm]; exact ⟨Nat.le_refl _, Nat.le_refl _⟩)) hS (fun H1 locs1 ce q9 hW1 hS1 hce hcv hcl => ?_)
  refine vx_catch (own := RL) (name := name) hown (pre.map fun q => ⟨q.1, q.2.1, q.2.2.1, q.2.2.2⟩) ⟨x.1, x.2.1, x.2.2.1, x.2.2.2⟩ (suf.map fun q => ⟨q.1, q.2.1, q.2.2.1, q.2.2.2⟩) ?_ ?_ hcov h0 (hT.use hlk) (hT.use hcast) hce hcv hcl (K q9 H1 locs1 ls hW1 hS1 hl9)
  · rw [htab, hsplit]
    unfold tableOf
    rw [List.map_append, List.map_cons]
  · intro z hz
    obtain ⟨q, hq, rfl⟩ := List.mem_map.mp hz
    obtain ⟨g1, nm, g2, g3⟩ := hpre q hq
    exact Or.inr ⟨g1, nm, hT.use g2, hX.1 _ g3⟩
def z_YH (y : MethodName) (bytes : ByteArray) (maxL : Nat) (ret : Option FieldType) (hh : zHH) (n : Nat) : Prop := (y.cls ≠ "java/lang/invoke/MethodHandle" ∧ y.cls ≠ "java/lang/invoke/VarHandle" ∧ (parseMethodDescriptor y.desc).map (fun d => d.parameters.length) = some n) ∧ Cond.initialized y.cls ∈ z_TB ∧ Cond.static y ∈ z_TB ∧ Cond.codeWith y bytes maxL ret hh ∈ z_TB
theorem r_callSH {Γ : zC} {G : zG} {b nL cs ss pc : Nat} {cc : ByteArray} {own : String} {rm : Room} {M : zM} {lv : List (Nat × Value)} {st : List Value} {M1 : zM} {rest : List Value} {idx maxL n f1 lo1 : Nat} {y : MethodName} {bytes : ByteArray} {ret : Option FieldType} {hh : zHH} {As : List Value} {v : Option Value} (X : z_CX Γ G b nL cc own rm) (hM : z_MH Γ.2.1 y bytes maxL ret hh f1 lo1 G b As M v M1) (hY : z_YH y bytes maxL ret hh n) (hl : Cond.methodLink own idx y ∈ z_TB) (hC : y.cls = own) (hR : (f1 + 1).ble rm.frames = true ∧ (8 + (maxL + 11) + lo1).ble rm.locals = true) (hst : st = As.reverse ++ rest) (hn : As.length = n) (hrs : (rest.map fun v => v.category).sum ≤ 8) (hro : cs + 1 ≤ rm.cells ∧ ss + 6 ≤ rm.slots) (hd : decode cc pc = .ok (.invokestatic idx, 3)) (pc' : Nat) (hp : pc + 3 = pc') (st' : List Value) (hst' : v.toList ++ rest = st') (K : GW Γ G b (cs + 1) (ss + 6) M1 pc' lv st') : GW Γ G b cs ss M pc lv st := by
  subst hst'
  obtain ⟨p, l, e, R, s, m, args, below, meth, c0, Q⟩ := Γ
  subst hp
  obtain ⟨hx, hb, hml, hown, hT, hK, hX, hRm, -⟩ := X
  intro H locs ls hW hS hl9
  have hsz : ls.size = nL := hl9.1.trans hml
  have hG : GoodIn z_TB (va_wsS own idx y [.codeWith y bytes maxL ret hh]) := by
    intro w hw
    simp only [va_wsS, List.cons_append, List.nil_append, List.mem_cons, List.not_mem_nil, or_false] at hw
    rcases hw with rfl | rfl | rfl | rfl
    · exact ⟨hl, good_of_word rfl⟩
    · exact ⟨hY.2.2.1, good_of_word rfl⟩
    · exact ⟨hY.2.1, good_of_word rfl⟩
    · exact ⟨hY.2.2.2, good_of_word rfl⟩
  have hr := vx_runSX (l := l) (e := e) (args := args) (R := R) (below := below) (meth := meth) (cc := cc) (nL := nL) (As := As) (rest := rest) ⟨hx, hb, hml, hown, fun w (hw : w ∈ z_TB) => hT.use hw⟩ hM (vx_cwSW n (fun w (hw : w ∈ z_TB) => hT.use hw) hG rfl rfl rfl hY.1 (by rw [hRm]; exact ⟨Nat.le_of_ble_eq_true hR.1, Nat.le_of_ble_eq_true hR.2⟩)) ⟨z_blind, fun U hU hw => ⟨rfl, z_pre hT hK hX hW hS hU hw⟩⟩ (g := F0 m pc ls st) (locs := locs) (H := H) (cells := cs) (slots := ss) rfl hn hsz hst (lv_room hrs) hd (by rw [hRm]; exact hro)
  intro T hT9 X9
  rcases hr T hT9 X9 with ⟨v', st₀, t, T', L, h0, X', hL, e1, e2, ⟨hv, hB, hz, hk⟩, sg⟩ | ⟨q, st₀, t, T', L, E', ce, h0, X', hL, e1, e2, hF, -⟩
  · cases hv
    rw [h0] at hz hk
    obtain ⟨t2, a1, b1⟩ := K T'.heap (locs ++ L) ls (by show z_W G b _ T'.heap; rw [e1]; exact hB)
      ⟨Nat.le_trans hS.1 (by rw [e1]; exact hz), fun q h1 h2 => by rw [e1, hk q (Nat.lt_of_lt_of_le h1 hS.1) h2]; exact hS.2.1 q h1 h2, fun q hq => by
        rcases List.mem_append.mp hq with h | h
        · exact hS.2.2 q h
        · exact hL q h⟩ hl9 T' rfl X'
    exact ⟨t2, sg t2 a1, b1⟩
  · exact hF.elim
/-- the script's place i holds x -/
def z_sr (L : Nat) (xs : Nat → Int32) (i x : Int32) : Prop := vp_in i L ∧ xs i.toNatClampNeg = x
theorem r_sld {Γ : zC} {G : zG} {b nL cs ss pc : Nat} {cc : ByteArray} {own : String} {rm : Room} {M : zM} {lv : List (Nat × Value)} {st : List Value} {sb L : Nat} {xs : Nat → Int32} {i x : Int32} (X : z_CX Γ G b nL cc own rm) (hX9 : va_X sb L xs (z_s Γ) (z_s Γ).heap) (hb9 : sb < (z_s Γ).heap.size ∧ sb < b) (hs9 : z_sr L xs i x) (hd : decode cc pc = .ok (.iaload, 1)) (pc' : Nat) (hp : pc + 1 = pc') (K : GW Γ G b cs ss M pc' lv (.int x :: st)) : GW Γ G b cs ss M pc lv (.int i :: .ref sb :: st) := by
  obtain ⟨p, l, e, R, s, m, args, below, meth, c0, Q⟩ := Γ
  subst hp
  obtain ⟨hin, rfl⟩ := hs9
  exact fun H locs ls hW hS hl => va_sld (A := fun q => b ≤ q) X.1 X.2.1 hX9 hb9.1 (Nat.not_le.mpr hb9.2) hS hin hd (K H locs ls hW hS hl)
theorem r_slen {Γ : zC} {G : zG} {b nL cs ss pc : Nat} {cc : ByteArray} {own : String} {rm : Room} {M : zM} {lv : List (Nat × Value)} {st : List Value} {sb L : Nat} {xs : Nat → Int32} (X : z_CX Γ G b nL cc own rm) (hX9 : va_X sb L xs (z_s Γ) (z_s Γ).heap) (hb9 : sb < (z_s Γ).heap.size ∧ sb < b) (hd : decode cc pc = .ok (.arraylength, 1)) (pc' : Nat) (hp : pc + 1 = pc') (K : GW Γ G b cs ss M pc' lv (.int (nI L) :: st)) : GW Γ G b cs ss M pc lv (.ref sb :: st) := by
  obtain ⟨p, l, e, R, s, m, args, below, meth, c0, Q⟩ := Γ
  subst hp
  exact fun H locs ls hW hS hl => va_slen (A := fun q => b ≤ q) X.1 X.2.1 hX9 hb9.1 (Nat.not_le.mpr hb9.2) hS hd (K H locs ls hW hS hl)
theorem r_widen {Γ : zC} {G : zG} {b cs ss pc : Nat} {M : zM} {lv : List (Nat × Value)} {st : List Value} (cs' ss' : Nat) (h1 : cs ≤ cs') (h2 : ss ≤ ss') (K : GW Γ G b cs' ss' M pc lv st) : GW Γ G b cs ss M pc lv st := by
  obtain ⟨p, l, e, R, s, m, args, below, meth, c0, Q⟩ := Γ
  exact fun H locs ls hW hS hl => W.widen h1 h2 (K H locs ls hW hS hl)
/-! ===== p41: more ===== -/
def z_nt {τ : Type} (o : String ⊕ τ) : Option τ := match o with
  | .inl _ => none
  | .inr x => some x
theorem z_nt_of {τ : Type} {o : Option (String ⊕ τ)} {x : τ} (h : o.bind z_nt = some x) : o = some (.inr x) := by
  obtain ⟨a, h1, h2⟩ := Option.bind_eq_some_iff.mp h
  cases a with
  | inl E => cases h2
  | inr y =>
    cases h2
    exact h1
def z_ntw {τ : Type} (o : (String ⊕ τ) × zM) : Option (τ × zM) := match o.1 with
  | .inl _ => none
  | .inr x => some (x, o.2)
theorem z_ntw_of {τ : Type} {o : Option ((String ⊕ τ) × zM)} {x : τ} {M : zM} (h : o.bind z_ntw = some (x, M)) : o = some (.inr x, M) := by
  obtain ⟨⟨a, m⟩, h1, h2⟩ := Option.bind_eq_some_iff.mp h
  cases a with
  | inl E => cases h2
  | inr y =>
    cases h2
    exact h1
def z_nz {α : Type} (y : Int32) (o : Option α) : Option α := if y = 0 then none else o
theorem z_nz_of {α : Type} {y : Int32} {o : Option α} {r : α} (h : z_nz y o = some r) : ¬ y = 0 ∧ o = some r := by
  unfold z_nz at h
  split at h
  · cases h
  · rename_i q
    exact ⟨q, h⟩
theorem r_lret {Γ : zC} {G : zG} {b nL pc : Nat} {cc : ByteArray} {own : String} {rm : Room} {M : zM} {lv : List (Nat × Value)} {x : Int64} (X : z_CX Γ G b nL cc own rm) (hR : z_R Γ G b (some (.long x)) M (some .long)) (hd : decode cc pc = .ok (.lreturn, 1)) : GW Γ G b 0 0 M pc lv [.long x] := by
  obtain ⟨p, l, e, R, s, m, args, below, meth, c, Q⟩ := Γ
  obtain ⟨hx, hb, hml, hown, hT, hK, hX, hRm, hlocks, -⟩ := X
  obtain ⟨rfl, hr⟩ := hR
  exact fun H locs ls hW hS hl => W.lret hx hb hr (fun t ht hw => ⟨rfl, by show z_W G b _ t.heap; rw [ht]; exact hW, hS.F ht⟩) hS.2.2 hd hlocks
/-- a method that may make one exception, which it catches -/
def z_MA (l : Launch) (y : MethodName) (bytes : ByteArray) (maxL : Nat) (ret : Option FieldType) (f lo : Nat) (G : zG) (b : Nat) (As : List Value) (M : zM) (v : Option Value) (M1 : zM) : Prop :=
  Met l y [.code y bytes maxL ret] (z_rmh f lo) (va_Pc As (z_B G b M)) (z_Q v (fun t => z_W G b M1 t.heap) b) 1 6 (fun q => b ≤ q)
def z_RA (Γ : zC) (G : zG) (b : Nat) (v : Option Value) (M1 : zM) (ret : Option FieldType) : Prop := match Γ with
  | (_, _, _, _, s, _, args, below, meth, _, Q) => Q = MQ below (z_Q v (fun t => z_W G b M1 t.heap) b) args s 1 6 (fun q => b ≤ q) ∧ meth.sig.returnType = ret
theorem z_meta {l : Launch} {y : MethodName} {own : String} {cc : ByteArray} {maxL : Nat} {ret : Option FieldType} {f lo : Nat} {G : zG} {b : Nat} {As : List Value} {M : zM} {v : Option Value} {M1 : zM} (hl : l.stackTraces = false) (hy : plainName y.cls = true) (hlen : Nat.ble (lg_sl As).length maxL = true)
    (ho : y.cls = own) (body : ∀ Γ : zC, Γ.2.1 = l → z_CX Γ G b maxL cc own (z_rmh f lo) → z_RA Γ G b v M1 ret → GW Γ G b 0 0 M 0 (lv_args 0 As) []) : z_MA l y cc maxL ret f lo G b As M v M1 := by
  refine Met.ofW (cc := cc) (maxL := maxL) (ret := ret) hy rfl ?_
  intro p e s m args below meth c s₁ B hml hv
  obtain ⟨rfl, hW, hK, hT, hX⟩ := hv
  have h := body (p, l, e, z_rmh f lo, s, m, As.toArray, below, meth, c, MQ below (z_Q v (fun t => z_W G b M1 t.heap) b) As.toArray s 1 6 (fun q => b ≤ q)) rfl ⟨B.exec, B.bytes, hml, (by rw [← ho]; exact findClass_of_methodNamed B.named), hT, hK, hX, rfl, B.notSynchronized, hl⟩ ⟨rfl, B.returns⟩
  rw [lg_entry_eq]
  exact h s.heap [] _ hW va_S.rf (by rw [show (z_c (p, l, e, z_rmh f lo, s, m, As.toArray, below, meth, c, MQ below (z_Q v (fun t => z_W G b M1 t.heap) b) As.toArray s 1 6 (fun q => b ≤ q))).maxLocals = maxL from hml]; exact lv_entry As (Nat.le_of_ble_eq_true hlen))
theorem r_airet {Γ : zC} {G : zG} {b nL cs ss pc : Nat} {cc : ByteArray} {own : String} {rm : Room} {M : zM} {lv : List (Nat × Value)} {x : Int32} {ty : FieldType} (X : z_CX Γ G b nL cc own rm) (hR : z_RA Γ G b (some (.int x)) M (some ty)) (h1 : cs ≤ 1) (h2 : ss ≤ 6) (hn : narrow ty (.int x) = .int x) (hd : decode cc pc = .ok (.ireturn, 1)) : GW Γ G b cs ss M pc lv [.int x] := by
  obtain ⟨p, l, e, R, s, m, args, below, meth, c, Q⟩ := Γ
  obtain ⟨hx, hb, hml, hown, hT, hK, hX, hRm, hlocks, -⟩ := X
  obtain ⟨rfl, hr⟩ := hR
  exact fun H locs ls hW hS hl => W.widen h1 h2 (W.zret hx hb hr hn (fun t ht hw => ⟨rfl, by show z_W G b _ t.heap; rw [ht]; exact hW, hS.F ht⟩) hS.2.2 hd hlocks)
theorem z_runG {p : Program} {l : Launch} {e : Env} {R : Room} {s : State} {m : MethodId} {args : Array Value} {below : List Frame} {meth : Method} {c : Code} {H : Heap} {locs : List Loc} {cs ss mc ms : Nat} {Q : State → Prop} {pc : Nat} {ls : Array Slot} {rest st0 : List Value} {a : Array Value} {b : Nat} {PB : State → Prop} {v : Option Value} (hr : va_Run p l e R s m args below meth c H locs cs ss mc ms (F0 m pc ls st0) rest (z_Q v PB b a) (fun q => b ≤ q)) (hS : va_S (fun q => b ≤ q) s.heap H locs)
    (K : ∀ (U : State) (locs1 : List Loc), PB U → va_S (fun q => b ≤ q) s.heap U.heap locs1 → W p l e R s m args below meth c U.heap locs1 (cs + mc) (ss + ms) Q (F0 m (pc + 3) ls (v.toList ++ rest))) : W p l e R s m args below meth c H locs cs ss Q (F0 m pc ls st0) := by
  intro T hT X
  obtain ⟨v', st₀, t, T', L, h0, X', hL, e1, e2, ⟨hv, hB, hz, hk⟩, st⟩ := hr T hT X
  cases hv
  rw [h0] at hz hk
  obtain ⟨t2, a1, b1⟩ := K t (locs ++ L) hB
    ⟨Nat.le_trans hS.1 hz, fun q h1 h2 => by rw [hk q (Nat.lt_of_lt_of_le h1 hS.1) h2]; exact hS.2.1 q h1 h2, fun q hq => by
      rcases List.mem_append.mp hq with h | h
      · exact hS.2.2 q h
      · exact hL q h⟩ T' e1 X'
  exact ⟨t2, st t2 a1, b1⟩
theorem z_goodS {own : String} {idx maxL : Nat} {y : MethodName} {bytes : ByteArray} {ret : Option FieldType} {n : Nat} (hY : z_Y y bytes maxL ret n) (hV : Cond.static y ∈ z_TB) (hl : Cond.methodLink own idx y ∈ z_TB) (hC : y.cls = own) : GoodIn z_TB (wsS own idx y [.code y bytes maxL ret]) := by
  intro w hw
  simp only [wsS, List.cons_append, List.nil_append, List.mem_cons, List.not_mem_nil, or_false] at hw
  rcases hw with rfl | rfl | rfl | rfl
  · exact ⟨hl, good_of_word rfl⟩
  · exact ⟨hV, good_of_word rfl⟩
  · exact ⟨by rw [← hC]; exact hY.2.1, good_of_word rfl⟩
  · exact ⟨hY.2.2, good_of_word rfl⟩
theorem r_callSA {Γ : zC} {G : zG} {b nL cs ss pc : Nat} {cc : ByteArray} {own : String} {rm : Room} {M : zM} {lv : List (Nat × Value)} {st : List Value} {M1 : zM} {rest : List Value} {idx maxL n f1 lo1 : Nat} {y : MethodName} {bytes : ByteArray} {ret : Option FieldType} {As : List Value} {v : Option Value} (X : z_CX Γ G b nL cc own rm) (hM : z_MA Γ.2.1 y bytes maxL ret f1 lo1 G b As M v M1) (hY : z_Y y bytes maxL ret n) (hV : Cond.static y ∈ z_TB) (hl : Cond.methodLink own idx y ∈ z_TB) (hC : y.cls = own) (hR : (f1 + 1).ble rm.frames = true ∧ (8 + (maxL + 11) + lo1).ble rm.locals = true) (hst : st = As.reverse ++ rest) (hn : As.length = n) (hrs : (rest.map fun v => v.category).sum ≤ 8) (hro : cs + 1 ≤ rm.cells ∧ ss + 6 ≤ rm.slots) (hd : decode cc pc = .ok (.invokestatic idx, 3)) (pc' : Nat) (hp : pc + 3 = pc') (st' : List Value) (hst' : v.toList ++ rest = st') (K : GW Γ G b (cs + 1) (ss + 6) M1 pc' lv st') : GW Γ G b cs ss M pc lv st := by
  subst hst'
  obtain ⟨p, l, e, R, s, m, args, below, meth, c0, Q⟩ := Γ
  subst hp
  obtain ⟨hx, hb, hml, hown, hT, hK, hX, hRm, -⟩ := X
  intro H locs ls hW hS hl9
  have hsz : ls.size = nL := hl9.1.trans hml
  refine z_runG (va_runS (cc := cc) (nL := nL) (As := As) (rest := rest) ⟨hx, hb, hml, hown, fun w (hw : w ∈ z_TB) => hT.use hw⟩ hM (cwS n (fun w (hw : w ∈ z_TB) => hT.use hw) (z_goodS hY hV hl hC) rfl rfl rfl ⟨hC, hY.1⟩ (by rw [hRm]; exact ⟨Nat.le_of_ble_eq_true hR.1, Nat.le_of_ble_eq_true hR.2⟩)) ⟨z_blind, fun U hU hw => ⟨rfl, z_pre hT hK hX hW hS hU hw⟩⟩ rfl hn hsz hst (lv_room hrs) hd (by rw [hRm]; exact hro)) hS (fun U locs1 hW1 hS1 => K U.heap locs1 ls hW1 hS1 hl9)
/-! ===== the script's numbers: from ===== -/
def z_fri (L : Nat) (xs : Nat → Int32) (k : Int32) : Int32 := if nI L = 0 then 53 * k + 7 else xs (k - k / nI L * nI L).toNatClampNeg ^^^ (71993 * k)
def z_frm (L : Nat) (xs : Nat → Int32) (k below : Int32) : Int32 := (z_fri L xs k &&& 2147483647) - (z_fri L xs k &&& 2147483647) / below * below
def z_BF (G : zG) (b : Nat) (M : zM) (sb L : Nat) (xs : Nat → Int32) (U : State) : Prop := z_B G b M U ∧ va_X sb L xs U U.heap ∧ sb < b ∧ sb < U.heap.size
theorem z_blindF {G : zG} {b : Nat} {M : zM} {sb L : Nat} {xs : Nat → Int32} {As : List Value} : FrameBlind (va_Pc As (z_BF G b M sb L xs)) := by
  intro a U g mk q
  obtain ⟨q0, q1, q2, q3, q4⟩ := q
  exact ⟨q0, (z_blind (G := G) (b := b) (M := M) (As := As) a U g mk ⟨q0, q1⟩).2, va_X.moved (u := U) (U := U.calling g mk a) (Vm.Alike.refl U.vm) q2, q3, q4⟩
def z_rm0 : Room := { frames := 0, cells := 0, slots := 0, locals := 0 }
def z_MF (l : Launch) (y : MethodName) (bytes : ByteArray) (maxL : Nat) (ret : Option FieldType) (G : zG) (b sb L : Nat) (xs : Nat → Int32) (As : List Value) (M : zM) (v : Option Value) : Prop :=
  Met l y [.code y bytes maxL ret] z_rm0 (va_Pc As (z_BF G b M sb L xs)) (z_Q v (fun t => z_W G b M t.heap) b) 0 0 (fun q => b ≤ q)
theorem z_metf {l : Launch} {y : MethodName} {own : String} {cc : ByteArray} {maxL : Nat} {ret : Option FieldType} {G : zG} {b sb L : Nat} {xs : Nat → Int32} {As : List Value} {M : zM} {v : Option Value} (hl : l.stackTraces = false) (hy : plainName y.cls = true) (hlen : Nat.ble (lg_sl As).length maxL = true)
    (ho : y.cls = own) (body : ∀ Γ : zC, Γ.2.1 = l → z_CX Γ G b maxL cc own z_rm0 → z_R Γ G b v M ret → va_X sb L xs (z_s Γ) (z_s Γ).heap → sb < (z_s Γ).heap.size ∧ sb < b → GW Γ G b 0 0 M 0 (lv_args 0 As) []) : z_MF l y cc maxL ret G b sb L xs As M v := by
  refine Met.ofW (cc := cc) (maxL := maxL) (ret := ret) hy rfl ?_
  intro p e s m args below meth c s₁ B hml hv
  obtain ⟨rfl, ⟨hW, hK, hT, hX⟩, hX9, hb9, hb8⟩ := hv
  have h := body (p, l, e, z_rm0, s, m, As.toArray, below, meth, c, MQ below (z_Q v (fun t => z_W G b M t.heap) b) As.toArray s 0 0 (fun q => b ≤ q)) rfl ⟨B.exec, B.bytes, hml, (by rw [← ho]; exact findClass_of_methodNamed B.named), hT, hK, hX, rfl, B.notSynchronized, hl⟩ ⟨rfl, B.returns⟩ hX9 ⟨hb8, hb9⟩
  rw [lg_entry_eq]
  exact h s.heap [] _ hW va_S.rf (by rw [show (z_c (p, l, e, z_rm0, s, m, As.toArray, below, meth, c, MQ below (z_Q v (fun t => z_W G b M t.heap) b) As.toArray s 0 0 (fun q => b ≤ q))).maxLocals = maxL from hml]; exact lv_entry As (Nat.le_of_ble_eq_true hlen))
theorem z_preF {G : zG} {b : Nat} {M : zM} {s U : State} {H : Heap} {locs : List Loc} {sb L : Nat} {xs : Nat → Int32} (hB : z_B G b M U) (hX9 : va_X sb L xs s s.heap) (hb9 : sb < s.heap.size ∧ sb < b) (hS : va_S (fun q => b ≤ q) s.heap H locs) (hU : U.heap = H) (hw : s.WarmedH U.vm) : z_BF G b M sb L xs U := by
  refine ⟨hB, ?_, hb9.2, ?_⟩
  · rw [hU]
    exact va_X.moved hw.alike (hX9.kept (hS.2.1 sb hb9.1 (Nat.not_le.mpr hb9.2)))
  · rw [hU]
    exact Nat.lt_of_lt_of_le hb9.1 hS.1
theorem r_callF {Γ : zC} {G : zG} {b nL cs ss pc : Nat} {cc : ByteArray} {own : String} {rm : Room} {M : zM} {lv : List (Nat × Value)} {st : List Value} {sb L : Nat} {xs : Nat → Int32} {rest : List Value} {idx maxL n : Nat} {y : MethodName} {bytes : ByteArray} {ret : Option FieldType} {As : List Value} {v : Option Value} (X : z_CX Γ G b nL cc own rm) (hX9 : va_X sb L xs (z_s Γ) (z_s Γ).heap) (hb9 : sb < (z_s Γ).heap.size ∧ sb < b) (hM : z_MF Γ.2.1 y bytes maxL ret G b sb L xs As M v) (hY : z_Y y bytes maxL ret n) (hV : Cond.static y ∈ z_TB) (hl : Cond.methodLink own idx y ∈ z_TB) (hC : y.cls = own) (hR : (0 + 1).ble rm.frames = true ∧ (8 + (maxL + 11) + 0).ble rm.locals = true) (hst : st = As.reverse ++ rest) (hn : As.length = n) (hrs : (rest.map fun v => v.category).sum ≤ 8) (hro : cs ≤ rm.cells ∧ ss ≤ rm.slots) (hd : decode cc pc = .ok (.invokestatic idx, 3)) (pc' : Nat) (hp : pc + 3 = pc') (st' : List Value) (hst' : v.toList ++ rest = st') (K : GW Γ G b cs ss M pc' lv st') : GW Γ G b cs ss M pc lv st := by
  subst hst'
  obtain ⟨p, l, e, R, s, m, args, below, meth, c0, Q⟩ := Γ
  subst hp
  obtain ⟨hx, hb, hml, hown, hT, hK, hX, hRm, -⟩ := X
  intro H locs ls hW hS hl9
  have hsz : ls.size = nL := hl9.1.trans hml
  refine z_runG (va_runS (cc := cc) (nL := nL) (As := As) (rest := rest) ⟨hx, hb, hml, hown, fun w (hw : w ∈ z_TB) => hT.use hw⟩ hM (cwS n (fun w (hw : w ∈ z_TB) => hT.use hw) (z_goodS hY hV hl hC) rfl rfl rfl ⟨hC, hY.1⟩ (by rw [hRm]; exact ⟨Nat.le_of_ble_eq_true hR.1, Nat.le_of_ble_eq_true hR.2⟩)) ⟨z_blindF, fun U hU hw => ⟨rfl, z_preF (z_pre hT hK hX hW hS hU hw) hX9 hb9 hS hU hw⟩⟩ rfl hn hsz hst (lv_room hrs) hd (by rw [hRm]; exact hro)) hS (fun U locs1 hW1 hS1 => K U.heap locs1 ls hW1 hS1 hl9)
