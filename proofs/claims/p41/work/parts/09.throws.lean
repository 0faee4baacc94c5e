/-! ===== methods that throw: the outcome is known ahead: .inl the class, or .inr the answer ===== -/
abbrev zO : Type := String ⊕ Option Value
def z_mc (o : zO) : Nat := match o with
  | .inl _ => 1
  | .inr _ => 0
def z_ms (o : zO) : Nat := match o with
  | .inl _ => 6
  | .inr _ => 0
def z_rm (f lo : Nat) (o : zO) : Room := { frames := f, cells := z_mc o, slots := z_ms o, locals := lo }
def z_QR (o : zO) (B : State → Prop) (b : Nat) : Array Value → State → Outcome → State → Prop := fun _ st oc t => ∃ v, o = .inr v ∧ oc = .returned v ∧ B t ∧ va_F (fun q => b ≤ q) st t
def z_QX (o : zO) (B : State → Prop) (b : Nat) : String → State → State → Prop := fun E st t => o = .inl E ∧ B t ∧ va_F (fun q => b ≤ q) st t
def z_MX (l : Launch) (y : MethodName) (bytes : ByteArray) (maxL : Nat) (ret : Option FieldType) (f lo : Nat) (G : zG) (b : Nat) (As : List Value) (M : zM) (o : zO) (M1 : zM) : Prop :=
  vx_Met l y [.code y bytes maxL ret] (z_rm f lo o) (va_Pc As (z_B G b M)) (z_QR o (fun t => z_W G b M1 t.heap) b) (z_QX o (fun t => z_W G b M1 t.heap) b) (z_mc o) (z_ms o) (fun q => b ≤ q)
theorem z_MX_ret {l : Launch} {y : MethodName} {bytes : ByteArray} {maxL : Nat} {ret : Option FieldType} {f lo : Nat} {G : zG} {b : Nat} {As : List Value} {M : zM} {v : Option Value} {M1 : zM} (h : z_MX l y bytes maxL ret f lo G b As M (.inr v) M1) : z_MN l y bytes maxL ret { frames := f, cells := 0, slots := 0, locals := lo } G b As M v M1 := by
  intro p e h1 h2 h3 s m args below h4 h5 h6 h7
  obtain ⟨n, o, k1, k2, k3, k4⟩ := h p e h1 h2 h3 s m args below h4 h5 h6 h7
  refine ⟨n, o, k1, k2, k3, ?_⟩
  rcases k4 with ⟨⟨v', e1, e2, e3, e4⟩, L, hL, hf⟩ | ⟨q, e0, E, ce, L, ⟨e1, -⟩, -⟩
  · cases e1
    exact ⟨⟨e2, e3, e4⟩, L, hL, hf⟩
  · cases e1
def z_RX (Γ : zC) (G : zG) (b : Nat) (o : zO) (M1 : zM) (ret : Option FieldType) : Prop := match Γ with
  | (_, _, _, _, s, _, args, below, meth, c, Q) => Q = vx_MQ below (z_QR o (fun t => z_W G b M1 t.heap) b) (z_QX o (fun t => z_W G b M1 t.heap) b) args s (z_mc o) (z_ms o) (fun q => b ≤ q) ∧ meth.sig.returnType = ret ∧ ∀ x ∈ c.exceptionTable.toList, False
theorem z_metx {l : Launch} {y : MethodName} {own : String} {cc : ByteArray} {maxL : Nat} {ret : Option FieldType} {f lo : Nat} {G : zG} {b : Nat} {As : List Value} {M : zM} {o : zO} {M1 : zM} (hl : l.stackTraces = false) (hy : plainName y.cls = true) (hlen : Nat.ble (lg_sl As).length maxL = true)
    (ho : y.cls = own) (body : ∀ Γ : zC, Γ.2.1 = l → z_CX Γ G b maxL cc own (z_rm f lo o) → z_RX Γ G b o M1 ret → GW Γ G b 0 0 M 0 (lv_args 0 As) []) : z_MX l y cc maxL ret f lo G b As M o M1 := by
  refine vx_ofW (cc := cc) (maxL := maxL) (ret := ret) hy rfl ?_
  intro p e s m args below meth c s₁ B hml hno hv
  obtain ⟨rfl, hW, hK, hT, hX⟩ := hv
  have h := body (p, l, e, z_rm f lo o, s, m, As.toArray, below, meth, c, vx_MQ below (z_QR o (fun t => z_W G b M1 t.heap) b) (z_QX o (fun t => z_W G b M1 t.heap) b) As.toArray s (z_mc o) (z_ms o) (fun q => b ≤ q)) rfl ⟨B.exec, B.bytes, hml, (by rw [← ho]; exact findClass_of_methodNamed B.named), hT, hK, hX, rfl, B.notSynchronized, hl⟩ ⟨rfl, B.returns, hno⟩
  rw [lg_entry_eq]
  exact h s.heap [] _ hW va_S.rf (by rw [show (z_c (p, l, e, z_rm f lo o, s, m, As.toArray, below, meth, c, vx_MQ below (z_QR o (fun t => z_W G b M1 t.heap) b) (z_QX o (fun t => z_W G b M1 t.heap) b) As.toArray s (z_mc o) (z_ms o) (fun q => b ≤ q))).maxLocals = maxL from hml]; exact lv_entry As (Nat.le_of_ble_eq_true hlen))
theorem r_xiret {Γ : zC} {G : zG} {b nL pc : Nat} {cc : ByteArray} {own : String} {rm : Room} {M : zM} {lv : List (Nat × Value)} {x : Int32} {ty : FieldType} (X : z_CX Γ G b nL cc own rm) (hR : z_RX Γ G b (.inr (some (.int x))) M (some ty)) (hn : narrow ty (.int x) = .int x) (hd : decode cc pc = .ok (.ireturn, 1)) : GW Γ G b 0 0 M pc lv [.int x] := by
  obtain ⟨p, l, e, R, s, m, args, below, meth, c, Q⟩ := Γ
  obtain ⟨hx, hb, hml, hown, hT, hK, hX, hRm, hlocks, -⟩ := X
  obtain ⟨rfl, hr, -⟩ := hR
  exact fun H locs ls hW hS hl => vx_ret (W.zret hx hb hr hn (fun t ht hw => ⟨_, rfl, rfl, by show z_W G b _ t.heap; rw [ht]; exact hW, hS.F ht⟩) hS.2.2 hd hlocks)
theorem r_xvret {Γ : zC} {G : zG} {b nL pc : Nat} {cc : ByteArray} {own : String} {rm : Room} {M : zM} {lv : List (Nat × Value)} (X : z_CX Γ G b nL cc own rm) (hR : z_RX Γ G b (.inr none) M none) (hd : decode cc pc = .ok (.return_, 1)) : GW Γ G b 0 0 M pc lv [] := by
  obtain ⟨p, l, e, R, s, m, args, below, meth, c, Q⟩ := Γ
  obtain ⟨hx, hb, hml, hown, hT, hK, hX, hRm, hlocks, -⟩ := X
  obtain ⟨rfl, hr, -⟩ := hR
  exact fun H locs ls hW hS hl => vx_ret (W.vret hx hb hr (fun t ht hw => ⟨_, rfl, rfl, by show z_W G b _ t.heap; rw [ht]; exact hW, hS.F ht⟩) hS.2.2 hd hlocks)
theorem r_xaret {Γ : zC} {G : zG} {b nL pc : Nat} {cc : ByteArray} {own : String} {rm : Room} {M : zM} {lv : List (Nat × Value)} {v : Value} {C : String} (X : z_CX Γ G b nL cc own rm) (hR : z_RX Γ G b (.inr (some v)) M (some (.object C))) (hv : v = .null ∨ ∃ a, v = .ref a) (hd : decode cc pc = .ok (.areturn, 1)) : GW Γ G b 0 0 M pc lv [v] := by
  obtain ⟨p, l, e, R, s, m, args, below, meth, c, Q⟩ := Γ
  obtain ⟨hx, hb, hml, hown, hT, hK, hX, hRm, hlocks, -⟩ := X
  obtain ⟨rfl, hr, -⟩ := hR
  exact fun H locs ls hW hS hl => vx_ret (W.aret hx hb hr (Or.inl ⟨C, rfl⟩) hv (fun t ht hw => ⟨_, rfl, rfl, by show z_W G b _ t.heap; rw [ht]; exact hW, hS.F ht⟩) hS.2.2 hd hlocks)
theorem r_throw {Γ : zC} {G : zG} {b nL pc : Nat} {cc : ByteArray} {M : zM} {lv : List (Nat × Value)} {st : List Value} {E text : String} {ik is ic f lo : Nat} {ret : Option FieldType} (X : z_CX Γ G b nL cc RX6 (z_rm f lo (.inl E))) (hR : z_RX Γ G b (.inl E) M ret) (hE : z_E ik ic E) (htx : ("Cowmeadow", is, text) ∈ z_strs) (hf : Nat.blt 5 f = true) (hlo : Nat.ble ((st.map fun v => v.category).sum + 82) lo = true) (d0 : decode cc pc = .ok (.new ik, 3)) (d3 : decode cc (pc + 3) = .ok (.dup, 1)) (d4 : decode cc (pc + 4) = .ok (.ldc is, 2)) (d6 : decode cc (pc + 6) = .ok (.invokespecial ic, 3)) (d9 : decode cc (pc + 9) = .ok (.athrow, 1)) : GW Γ G b 0 0 M pc lv st := by
  obtain ⟨p, l, e, R, s, m, args, below, meth, c, Q⟩ := Γ
  obtain ⟨hx, hb, hml, hown, hT, hK, hX, hRm, hlocks, htr⟩ := X
  obtain ⟨rfl, hr, hno⟩ := hR
  obtain ⟨hfit, e1, e2, e3, e4⟩ := hE
  obtain ⟨sa, hsa⟩ := hX.2.2.2 _ htx
  intro H locs ls hW hS hl
  refine vx_throwS (names := ["java/lang/RuntimeException", "java/lang/Exception"]) (A := fun q => b ≤ q) hx hb htr hown hfit (by decide +kernel) (hT.use e1) (hT.use e2) hsa (fun w hw => hT.use (e3 w hw)) e4 hX.2.1 hX.2.2.1 hS hl.1 d0 d3 d4 d6 d9 (fun x hx => (hno x hx).elim) (by rw [hRm]; exact Nat.le_of_ble_eq_true hf) (by rw [hRm]; exact Nat.le_of_ble_eq_true hlo) (by rw [hRm]; exact Nat.le_refl _) (by rw [hRm]; exact Nat.le_refl _) hlocks (fun t hal hz hk => ⟨rfl, hW.kept hk, ?_⟩) hS.2.2 (Nat.le_refl _) (Nat.le_refl _)
  exact ⟨Nat.le_trans hS.1 hz, fun q h1 h2 => by rw [hk q (Nat.lt_of_lt_of_le h1 hS.1)]; exact hS.2.1 q h1 h2⟩
theorem r_throww {Γ : zC} {G : zG} {b nL pc : Nat} {cc : ByteArray} {M : zM} {lv : List (Nat × Value)} {st : List Value} {E text : String} {ik is ic f lo : Nat} {ret : Option FieldType} (X : z_CX Γ G b nL cc RX6 (z_rm f lo (.inl E))) (hR : z_RX Γ G b (.inl E) M ret) (hE : z_E ik ic E) (htx : ("Cowmeadow", is, text) ∈ z_strs) (hf : Nat.blt 5 f = true) (hlo : Nat.ble ((st.map fun v => v.category).sum + 82) lo = true) (d0 : decode cc pc = .ok (.new ik, 3)) (d3 : decode cc (pc + 3) = .ok (.dup, 1)) (d4 : decode cc (pc + 4) = .ok (.ldc_w is, 3)) (d6 : decode cc (pc + 7) = .ok (.invokespecial ic, 3)) (d9 : decode cc (pc + 10) = .ok (.athrow, 1)) : GW Γ G b 0 0 M pc lv st := by
  obtain ⟨p, l, e, R, s, m, args, below, meth, c, Q⟩ := Γ
  obtain ⟨hx, hb, hml, hown, hT, hK, hX, hRm, hlocks, htr⟩ := X
  obtain ⟨rfl, hr, hno⟩ := hR
  obtain ⟨hfit, e1, e2, e3, e4⟩ := hE
  obtain ⟨sa, hsa⟩ := hX.2.2.2 _ htx
  intro H locs ls hW hS hl
  refine vx_throwSW (names := ["java/lang/RuntimeException", "java/lang/Exception"]) (A := fun q => b ≤ q) hx hb htr hown hfit (by decide +kernel) (hT.use e1) (hT.use e2) hsa (fun w hw => hT.use (e3 w hw)) e4 hX.2.1 hX.2.2.1 hS hl.1 d0 d3 d4 d6 d9 (fun x hx => (hno x hx).elim) (by rw [hRm]; exact Nat.le_of_ble_eq_true hf) (by rw [hRm]; exact Nat.le_of_ble_eq_true hlo) (by rw [hRm]; exact Nat.le_refl _) (by rw [hRm]; exact Nat.le_refl _) hlocks (fun t hal hz hk => ⟨rfl, hW.kept hk, ?_⟩) hS.2.2 (Nat.le_refl _) (Nat.le_refl _)
  exact ⟨Nat.le_trans hS.1 hz, fun q h1 h2 => by rw [hk q (Nat.lt_of_lt_of_le h1 hS.1)]; exact hS.2.1 q h1 h2⟩

/-- a call that throws, and is not caught here -/
theorem z_xrun {p : Program} {l : Launch} {e : Env} {R : Room} {s : State} {m : MethodId} {args : Array Value} {below : List Frame} {meth : Method} {c : Code} {H : Heap} {locs : List Loc} {cs ss : Nat} {Q : State → Prop} {pc mc ms mc1 ms1 : Nat} {ls : Array Slot} {rest st0 : List Value} {a : Array Value} {G : zG} {b : Nat} {M1 : zM} {E : String} {Qc : Array Value → State → Outcome → State → Prop} {XC : String → State → State → Prop} (hr : vx_Run p l e R s m args below meth c H locs cs ss mc ms (F0 m pc ls st0) rest (z_QR (.inl E) (fun t => z_W G b M1 t.heap) b a) (z_QX (.inl E) (fun t => z_W G b M1 t.heap) b) (fun q => b ≤ q)) (hS : va_S (fun q => b ≤ q) s.heap H locs)
    (K : ∀ (H1 : Heap) (locs1 : List Loc) (ce : Cell) (q9 : Addr), z_W G b M1 H1 → va_S (fun q => b ≤ q) s.heap H1 locs1 → H1[q9]? = some ce → ce.vm = .none → s.vm.findClass E = some ce.cls → vx_W p l e R s m args below meth c H1 locs1 (cs + mc) (ss + ms) Q (F0 m pc ls rest) q9) : W p l e R s m args below meth c H locs cs ss Q (F0 m pc ls st0) := by
  intro T hT X
  rcases hr T hT X with ⟨v, st₀, t, T', L, h0, X', hL, e1, e2, ⟨v', hv, -⟩, st⟩ | ⟨q, st₀, t, T', L, E', ce, h0, X', hL, e1, e2, ⟨hE, hB, hz, hk⟩, hce, hcv, hcl, st⟩
  · cases hv
  · cases hE
    rw [h0] at hz hk
    obtain ⟨t2, a1, b1⟩ := K T'.heap (locs ++ L) ce q (by show z_W G b _ T'.heap; rw [e1]; exact hB)
      ⟨Nat.le_trans hS.1 (by rw [e1]; exact hz), fun q h1 h2 => by rw [e1, hk q (Nat.lt_of_lt_of_le h1 hS.1) h2]; exact hS.2.1 q h1 h2, fun q hq => by
        rcases List.mem_append.mp hq with h | h
        · exact hS.2.2 q h
        · exact hL q h⟩ (by rw [e1]; exact hce) hcv hcl T' rfl X'
    exact ⟨t2, st.trans a1, b1⟩
theorem r_xthrV {Γ : zC} {G : zG} {b nL pc : Nat} {cc : ByteArray} {own : String} {M : zM} {lv : List (Nat × Value)} {st : List Value} {M1 : zM} {rest : List Value} {idx k c maxL n N f1 lo1 f lo : Nat} {E C : String} {T : u_T} {y : MethodName} {bytes : ByteArray} {ret ret1 : Option FieldType} {As : List Value} (X : z_CX Γ G b nL cc own (z_rm f lo (.inl E))) (hR9 : z_RX Γ G b (.inl E) M1 ret) (hM : z_MX Γ.2.1 y bytes maxL ret1 f1 lo1 G b (.ref (b + k) :: As) M (.inl E) M1) (hY : z_Y y bytes maxL ret1 n) (hV : z_YV y) (hl : Cond.methodLink own idx y ∈ z_TB) (hk : z_kd k = c) (hc8 : Nat.blt c 8 = true) (hc : vwCl[c]? = some (C, T, N)) (hC : y.cls = C) (hR : (f1 + 1).ble f = true ∧ (8 + (maxL + 11) + lo1).ble lo = true) (hst : st = As.reverse ++ .ref (b + k) :: rest) (hn : As.length = n) (hrs : (rest.map fun v => v.category).sum ≤ 8) (hd : decode cc pc = .ok (.invokevirtual idx, 3)) : GW Γ G b 0 0 M pc lv st := by
  obtain ⟨p, l, e, R, s, m, args, below, meth, c0, Q⟩ := Γ
  obtain ⟨hx, hb, hml, hown, hT, hK, hX, hRm, hlocks, -⟩ := X
  obtain ⟨rfl, hr, hno⟩ := hR9
  intro H locs ls hW hS hl9
  have hsz : ls.size = nL := hl9.1.trans hml
  have hG : GoodIn z_TB (wsV own idx C y [.code y bytes maxL ret1]) := by
    intro w hw
    simp only [wsV, List.cons_append, List.nil_append, List.mem_cons, List.not_mem_nil, or_false] at hw
    rcases hw with rfl | rfl | rfl | rfl | rfl
    · exact ⟨hl, good_of_word rfl⟩
    · exact ⟨hV.1, good_of_word rfl⟩
    · exact ⟨by rw [← hC]; exact hV.2, good_of_word rfl⟩
    · exact ⟨by rw [← hC]; exact hY.2.1, good_of_word rfl⟩
    · exact ⟨hY.2.2, good_of_word rfl⟩
  exact z_xrun (Qc := z_QR (.inl E) (fun t => z_W G b M1 t.heap) b) (XC := z_QX (.inl E) (fun t => z_W G b M1 t.heap) b) (mc1 := 1) (ms1 := 6) (vx_runV (cc := cc) (nL := nL) (C := C) (As := As) (rest := rest) ⟨hx, hb, hml, hown, fun w (hw : w ∈ z_TB) => hT.use hw⟩ hM (cwV n (fun w (hw : w ∈ z_TB) => hT.use hw) hG rfl rfl rfl ⟨hC, hY.1⟩ (by rw [hRm]; exact ⟨Nat.le_of_ble_eq_true hR.1, Nat.le_of_ble_eq_true hR.2⟩)) ⟨z_blind, z_recv hK hW hk hc8 hc, fun U hU hw => ⟨rfl, z_pre hT hK hX hW hS hU hw⟩⟩ rfl hn hsz hst (lv_room hrs) hd (by rw [hRm]; exact ⟨Nat.le_refl _, Nat.le_refl _⟩)) hS (fun H1 locs1 ce q9 hW1 hS1 hce hcv hcl => vx_out (fun x hx => (hno x hx).elim) hlocks hce hcv hcl (fun t ht hal => ⟨rfl, by show z_W G b _ t.heap; rw [ht]; exact hW1, hS1.F ht⟩) hS1.2.2 (Nat.le_refl _) (Nat.le_refl _))
theorem r_xthrS {Γ : zC} {G : zG} {b nL pc : Nat} {cc : ByteArray} {own : String} {M : zM} {lv : List (Nat × Value)} {st : List Value} {M1 : zM} {rest : List Value} {idx maxL n f1 lo1 f lo : Nat} {E : String} {y : MethodName} {bytes : ByteArray} {ret ret1 : Option FieldType} {As : List Value} (X : z_CX Γ G b nL cc own (z_rm f lo (.inl E))) (hR9 : z_RX Γ G b (.inl E) M1 ret) (hM : z_MX Γ.2.1 y bytes maxL ret1 f1 lo1 G b As M (.inl E) M1) (hY : z_Y y bytes maxL ret1 n) (hV : Cond.static y ∈ z_TB) (hl : Cond.methodLink own idx y ∈ z_TB) (hC : y.cls = own) (hR : (f1 + 1).ble f = true ∧ (8 + (maxL + 11) + lo1).ble lo = true) (hst : st = As.reverse ++ rest) (hn : As.length = n) (hrs : (rest.map fun v => v.category).sum ≤ 8) (hd : decode cc pc = .ok (.invokestatic idx, 3)) : GW Γ G b 0 0 M pc lv st := by
  obtain ⟨p, l, e, R, s, m, args, below, meth, c0, Q⟩ := Γ
  obtain ⟨hx, hb, hml, hown, hT, hK, hX, hRm, hlocks, -⟩ := X
  obtain ⟨rfl, hr, hno⟩ := hR9
  intro H locs ls hW hS hl9
  have hsz : ls.size = nL := hl9.1.trans hml
  have hG : GoodIn z_TB (wsS own idx y [.code y bytes maxL ret1]) := by
    intro w hw
    simp only [wsS, List.cons_append, List.nil_append, List.mem_cons, List.not_mem_nil, or_false] at hw
    rcases hw with rfl | rfl | rfl | rfl
    · exact ⟨hl, good_of_word rfl⟩
    · exact ⟨hV, good_of_word rfl⟩
    · exact ⟨by rw [← hC]; exact hY.2.1, good_of_word rfl⟩
    · exact ⟨hY.2.2, good_of_word rfl⟩
  exact z_xrun (Qc := z_QR (.inl E) (fun t => z_W G b M1 t.heap) b) (XC := z_QX (.inl E) (fun t => z_W G b M1 t.heap) b) (mc1 := 1) (ms1 := 6) (vx_runS (cc := cc) (nL := nL) (As := As) (rest := rest) ⟨hx, hb, hml, hown, fun w (hw : w ∈ z_TB) => hT.use hw⟩ hM (cwS n (fun w (hw : w ∈ z_TB) => hT.use hw) hG rfl rfl rfl ⟨hC, hY.1⟩ (by rw [hRm]; exact ⟨Nat.le_of_ble_eq_true hR.1, Nat.le_of_ble_eq_true hR.2⟩)) ⟨z_blind, fun U hU hw => ⟨rfl, z_pre hT hK hX hW hS hU hw⟩⟩ rfl hn hsz hst (lv_room hrs) hd (by rw [hRm]; exact ⟨Nat.le_refl _, Nat.le_refl _⟩)) hS (fun H1 locs1 ce q9 hW1 hS1 hce hcv hcl => vx_out (fun x hx => (hno x hx).elim) hlocks hce hcv hcl (fun t ht hal => ⟨rfl, by show z_W G b _ t.heap; rw [ht]; exact hW1, hS1.F ht⟩) hS1.2.2 (Nat.le_refl _) (Nat.le_refl _))
def z_oi (o : String ⊕ Int32) : zO := match o with
  | .inl E => .inl E
  | .inr x => .inr (some (.int x))
def z_or (b : Nat) (o : String ⊕ Nat) : zO := match o with
  | .inl E => .inl E
  | .inr x => .inr (some (.ref (b + x)))
def z_ou (o : String ⊕ Unit) : zO := match o with
  | .inl E => .inl E
  | .inr _ => .inr none
theorem zk_0_0 {k : Nat} (h : z_kd k = 0) : z_kd (k + 1) = 4 := beq_iff_eq.mp (z_all (P := fun k => z_kd (k + 1) == 4) (by decide +kernel) rfl h).2
theorem zk_1_1 {k : Nat} (h : z_kd k = 1) : z_kd (k + 1) = 8 := beq_iff_eq.mp (z_all (P := fun k => z_kd (k + 1) == 8) (by decide +kernel) rfl h).2
theorem zn_1_1 {k : Nat} (h : z_kd k = 1) : z_ln (k + 1) = 66 := beq_iff_eq.mp (z_all (P := fun k => z_ln (k + 1) == 66) (by decide +kernel) rfl h).2
theorem zk_1_2 {k : Nat} (h : z_kd k = 1) : z_kd (k + 2) = 8 := beq_iff_eq.mp (z_all (P := fun k => z_kd (k + 2) == 8) (by decide +kernel) rfl h).2
theorem zn_1_2 {k : Nat} (h : z_kd k = 1) : z_ln (k + 2) = 66 := beq_iff_eq.mp (z_all (P := fun k => z_ln (k + 2) == 66) (by decide +kernel) rfl h).2
theorem zk_1_3 {k : Nat} (h : z_kd k = 1) : z_kd (k + 3) = 9 := beq_iff_eq.mp (z_all (P := fun k => z_kd (k + 3) == 9) (by decide +kernel) rfl h).2
theorem zn_1_3 {k : Nat} (h : z_kd k = 1) : z_ln (k + 3) = 66 := beq_iff_eq.mp (z_all (P := fun k => z_ln (k + 3) == 66) (by decide +kernel) rfl h).2
theorem zk_1_5 {k : Nat} (h : z_kd k = 1) : z_kd (k + 4) = 9 := beq_iff_eq.mp (z_all (P := fun k => z_kd (k + 4) == 9) (by decide +kernel) rfl h).2
theorem zn_1_5 {k : Nat} (h : z_kd k = 1) : z_ln (k + 4) = 32 := beq_iff_eq.mp (z_all (P := fun k => z_ln (k + 4) == 32) (by decide +kernel) rfl h).2
theorem zk_2_0 {k : Nat} (h : z_kd k = 2) : z_kd (k + 1) = 4 := beq_iff_eq.mp (z_all (P := fun k => z_kd (k + 1) == 4) (by decide +kernel) rfl h).2
theorem zk_3_0 {k : Nat} (h : z_kd k = 3) : z_kd (k + 1) = 8 := beq_iff_eq.mp (z_all (P := fun k => z_kd (k + 1) == 8) (by decide +kernel) rfl h).2
theorem zn_3_0 {k : Nat} (h : z_kd k = 3) : z_ln (k + 1) = 128 := beq_iff_eq.mp (z_all (P := fun k => z_ln (k + 1) == 128) (by decide +kernel) rfl h).2
theorem zk_3_1 {k : Nat} (h : z_kd k = 3) : z_kd (k + 2) = 8 := beq_iff_eq.mp (z_all (P := fun k => z_kd (k + 2) == 8) (by decide +kernel) rfl h).2
theorem zn_3_1 {k : Nat} (h : z_kd k = 3) : z_ln (k + 2) = 128 := beq_iff_eq.mp (z_all (P := fun k => z_ln (k + 2) == 128) (by decide +kernel) rfl h).2
theorem zk_3_2 {k : Nat} (h : z_kd k = 3) : z_kd (k + 3) = 8 := beq_iff_eq.mp (z_all (P := fun k => z_kd (k + 3) == 8) (by decide +kernel) rfl h).2
theorem zn_3_2 {k : Nat} (h : z_kd k = 3) : z_ln (k + 3) = 128 := beq_iff_eq.mp (z_all (P := fun k => z_ln (k + 3) == 128) (by decide +kernel) rfl h).2
theorem zk_3_3 {k : Nat} (h : z_kd k = 3) : z_kd (k + 4) = 8 := beq_iff_eq.mp (z_all (P := fun k => z_kd (k + 4) == 8) (by decide +kernel) rfl h).2
theorem zn_3_3 {k : Nat} (h : z_kd k = 3) : z_ln (k + 4) = 128 := beq_iff_eq.mp (z_all (P := fun k => z_ln (k + 4) == 128) (by decide +kernel) rfl h).2
theorem zk_4_0 {k : Nat} (h : z_kd k = 4) : z_kd (k + 1) = 8 := beq_iff_eq.mp (z_all (P := fun k => z_kd (k + 1) == 8) (by decide +kernel) rfl h).2
theorem zn_4_0 {k : Nat} (h : z_kd k = 4) : z_ln (k + 1) = 128 := beq_iff_eq.mp (z_all (P := fun k => z_ln (k + 1) == 128) (by decide +kernel) rfl h).2
theorem zk_5_0 {k : Nat} (h : z_kd k = 5) : z_kd (k + 1) = 11 := beq_iff_eq.mp (z_all (P := fun k => z_kd (k + 1) == 11) (by decide +kernel) rfl h).2
theorem zn_5_0 {k : Nat} (h : z_kd k = 5) : z_ln (k + 1) = 6 := beq_iff_eq.mp (z_all (P := fun k => z_ln (k + 1) == 6) (by decide +kernel) rfl h).2
theorem zk_5_1 {k : Nat} (h : z_kd k = 5) : z_kd (k + 2) = 12 := beq_iff_eq.mp (z_all (P := fun k => z_kd (k + 2) == 12) (by decide +kernel) rfl h).2
theorem zn_5_1 {k : Nat} (h : z_kd k = 5) : z_ln (k + 2) = 12 := beq_iff_eq.mp (z_all (P := fun k => z_ln (k + 2) == 12) (by decide +kernel) rfl h).2
theorem zk_5_2 {k : Nat} (h : z_kd k = 5) : z_kd (k + 3) = 3 := beq_iff_eq.mp (z_all (P := fun k => z_kd (k + 3) == 3) (by decide +kernel) rfl h).2
theorem zk_5_3 {k : Nat} (h : z_kd k = 5) : z_kd (k + 8) = 13 := beq_iff_eq.mp (z_all (P := fun k => z_kd (k + 8) == 13) (by decide +kernel) rfl h).2
theorem zn_5_3 {k : Nat} (h : z_kd k = 5) : z_ln (k + 8) = 4 := beq_iff_eq.mp (z_all (P := fun k => z_ln (k + 8) == 4) (by decide +kernel) rfl h).2
theorem zk_6_0 {k : Nat} (h : z_kd k = 6) : z_kd (k + 1) = 5 := beq_iff_eq.mp (z_all (P := fun k => z_kd (k + 1) == 5) (by decide +kernel) rfl h).2
theorem zk_6_1 {k : Nat} (h : z_kd k = 6) : z_kd (k + 84) = 5 := beq_iff_eq.mp (z_all (P := fun k => z_kd (k + 84) == 5) (by decide +kernel) rfl h).2
theorem zk_6_2 {k : Nat} (h : z_kd k = 6) : z_kd (k + 167) = 8 := beq_iff_eq.mp (z_all (P := fun k => z_kd (k + 167) == 8) (by decide +kernel) rfl h).2
theorem zn_6_2 {k : Nat} (h : z_kd k = 6) : z_ln (k + 167) = 16 := beq_iff_eq.mp (z_all (P := fun k => z_ln (k + 167) == 16) (by decide +kernel) rfl h).2
theorem zk_6_3 {k : Nat} (h : z_kd k = 6) : z_kd (k + 168) = 8 := beq_iff_eq.mp (z_all (P := fun k => z_kd (k + 168) == 8) (by decide +kernel) rfl h).2
theorem zn_6_3 {k : Nat} (h : z_kd k = 6) : z_ln (k + 168) = 128 := beq_iff_eq.mp (z_all (P := fun k => z_ln (k + 168) == 128) (by decide +kernel) rfl h).2
theorem zk_7_0 {k : Nat} (h : z_kd k = 7) : z_kd (k + 1) = 8 := beq_iff_eq.mp (z_all (P := fun k => z_kd (k + 1) == 8) (by decide +kernel) rfl h).2
theorem zn_7_0 {k : Nat} (h : z_kd k = 7) : z_ln (k + 1) = 3397 := beq_iff_eq.mp (z_all (P := fun k => z_ln (k + 1) == 3397) (by decide +kernel) rfl h).2
theorem zk_7_1 {k : Nat} (h : z_kd k = 7) : z_kd (k + 2) = 8 := beq_iff_eq.mp (z_all (P := fun k => z_kd (k + 2) == 8) (by decide +kernel) rfl h).2
theorem zn_7_1 {k : Nat} (h : z_kd k = 7) : z_ln (k + 2) = 3397 := beq_iff_eq.mp (z_all (P := fun k => z_ln (k + 2) == 3397) (by decide +kernel) rfl h).2
theorem zk_7_2 {k : Nat} (h : z_kd k = 7) : z_kd (k + 3) = 8 := beq_iff_eq.mp (z_all (P := fun k => z_kd (k + 3) == 8) (by decide +kernel) rfl h).2
theorem zn_7_2 {k : Nat} (h : z_kd k = 7) : z_ln (k + 3) = 128 := beq_iff_eq.mp (z_all (P := fun k => z_ln (k + 3) == 128) (by decide +kernel) rfl h).2
theorem zk_7_3 {k : Nat} (h : z_kd k = 7) : z_kd (k + 4) = 8 := beq_iff_eq.mp (z_all (P := fun k => z_kd (k + 4) == 8) (by decide +kernel) rfl h).2
theorem zn_7_3 {k : Nat} (h : z_kd k = 7) : z_ln (k + 4) = 16 := beq_iff_eq.mp (z_all (P := fun k => z_ln (k + 4) == 16) (by decide +kernel) rfl h).2
theorem zq_11 {k r : Nat} {i : Int32} (h : z_kd k = 11) (e : z_lq 11 k 6 i = some r) : z_kd r = 0 := by
  obtain ⟨h1, h2⟩ := z_lq_of e
  have h3 := (z_all (P := fun k => (List.range 6).all fun j => z_kd (z_rf 11 k j) == 0) (by decide +kernel) rfl h).2
  have h4 : i.toNatClampNeg < 6 := Nat.not_le.mp fun q => h1 (Or.inr q)
  rw [h2]
  exact beq_iff_eq.mp (List.all_eq_true.mp h3 _ (List.mem_range.mpr h4))
theorem zq_12 {k r : Nat} {i : Int32} (h : z_kd k = 12) (e : z_lq 12 k 12 i = some r) : z_kd r = 2 := by
  obtain ⟨h1, h2⟩ := z_lq_of e
  have h3 := (z_all (P := fun k => (List.range 12).all fun j => z_kd (z_rf 12 k j) == 2) (by decide +kernel) rfl h).2
  have h4 : i.toNatClampNeg < 12 := Nat.not_le.mp fun q => h1 (Or.inr q)
  rw [h2]
  exact beq_iff_eq.mp (List.all_eq_true.mp h3 _ (List.mem_range.mpr h4))
theorem zq_13 {k r : Nat} {i : Int32} (h : z_kd k = 13) (e : z_lq 13 k 4 i = some r) : z_kd r = 1 := by
  obtain ⟨h1, h2⟩ := z_lq_of e
  have h3 := (z_all (P := fun k => (List.range 4).all fun j => z_kd (z_rf 13 k j) == 1) (by decide +kernel) rfl h).2
  have h4 : i.toNatClampNeg < 4 := Nat.not_le.mp fun q => h1 (Or.inr q)
  rw [h2]
  exact beq_iff_eq.mp (List.all_eq_true.mp h3 _ (List.mem_range.mpr h4))
