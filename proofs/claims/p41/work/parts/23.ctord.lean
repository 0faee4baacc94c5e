/-! ===== what the cells hold at first, and the constructors' contracts ===== -/
def z_ikL : List Nat := [0, 5, 0, 0, 0, 0, 0, 0, 0, 0, 3, 0, 1, 2, 0, 1, 2, 0, 1, 2, 0, 1, 2, 0, 1, 2, 0, 1, 4, 0, 1, 4, 0, 1, 4, 0, 1, 4, 0, 1, 4, 0, 1, 4, 0, 1, 4, 0, 1, 4, 0, 1, 4, 0, 1, 4, 0, 1, 4, 0, 1, 4, 0, 1, 7, 0, 0, 0, 0, 8, 0, 0, 0, 0, 9, 0, 0, 0, 0, 10, 0, 0, 0, 0, 5, 0, 0, 0, 0, 0, 0, 0, 0, 3, 0, 1, 2, 0, 1, 2, 0, 1, 2, 0, 1, 2, 0, 1, 2, 0, 1, 4, 0, 1, 4, 0, 1, 4, 0, 1, 4, 0, 1, 4, 0, 1, 4, 0, 1, 4, 0, 1, 4, 0, 1, 4, 0, 1, 4, 0, 1, 4, 0, 1, 4, 0, 1, 7, 0, 0, 0, 0, 8, 0, 0, 0, 0, 9, 0, 0, 0, 0, 10, 0, 0, 0, 0, 0, 0, 0, 0, 0, 0, 0, 0, 0]
def z_ik (k : Nat) : Nat := z_ikL.getD k 0
def z_iv (c j : Nat) : Int32 := match c with
  | 1 => -1
  | 2 => if j = 2 then -1 else 0
  | 3 => if j = 2 then -1 else if j = 1 then 1 else 0
  | 4 => if j = 2 then -1 else if j = 3 then -1 else 0
  | 5 => if j = 4 then 1 else 0
  | 8 => if j = 0 then 32 else 0
  | 9 => if j = 0 then 64 else 0
  | 10 => if j = 0 then 96 else 0
  | _ => 0
def z_M0 : zM := fun k j => z_iv (z_ik k) j
def z_mk (G : zG) (b : Nat) (E : Nat → va_E) (h : Nat) : Nat → va_E := fun k => if k < h then E k else z_ent G b z_M0 k
theorem z_mk_lt {G : zG} {b h k : Nat} {E : Nat → va_E} (hk : k < h) : z_mk G b E h k = E k := if_pos hk
theorem z_mk_ge {G : zG} {b h k : Nat} {E : Nat → va_E} (hk : ¬ k < h) : z_mk G b E h k = z_ent G b z_M0 k := if_neg hk
theorem z_iv1 : z_iv 1 = fun _ => -1 := rfl
theorem z_M0c {k c : Nat} (h : z_ik k = c) : z_M0 k = z_iv c := by
  unfold z_M0
  rw [h]
def z_MCt (l : Launch) (y : MethodName) (bytes : ByteArray) (maxL : Nat) (rm : Room) (G : zG) (b : Nat) (As : List Value) (h n : Nat) (E : Nat → va_E) (mc ms : Nat) : Prop :=
  Met l y [.code y bytes maxL none] rm (va_Pc As (fun U => U.heap.size = b + (h + 1) ∧ z_WE G b (h + 1) E U.heap ∧ z_K G U ∧ z_TW U ∧ z_X b U)) (z_Q none (fun t => z_WE G b (h + n) (z_mk G b E h) t.heap) b) mc ms (fun q => b ≤ q)
def z_RC (Γ : zC) (G : zG) (b N1 : Nat) (E1 : Nat → va_E) (mc ms : Nat) : Prop := match Γ with
  | (_, _, _, _, s, _, args, below, meth, _, Q) => Q = MQ below (z_Q none (fun t => z_WE G b N1 E1 t.heap) b) args s mc ms (fun q => b ≤ q) ∧ meth.sig.returnType = none
theorem z_metc {l : Launch} {y : MethodName} {own : String} {cc : ByteArray} {maxL : Nat} {rm : Room} {G : zG} {b h n mc ms : Nat} {As : List Value} {E : Nat → va_E} (hl : l.stackTraces = false) (hy : plainName y.cls = true) (hlen : Nat.ble (lg_sl As).length maxL = true) (ho : y.cls = own) (hi : y.name = "<init>")
    (body : ∀ Γ : zC, Γ.2.1 = l → z_CX Γ G b maxL cc own rm → (z_s Γ).heap.size = b + (h + 1) → z_init Γ → z_RC Γ G b (h + n) (z_mk G b E h) mc ms → GE Γ G b 0 0 (h + 1) E 0 (lv_args 0 As) []) : z_MCt l y cc maxL rm G b As h n E mc ms := by
  refine Met.ofW (cc := cc) (maxL := maxL) (ret := none) hy rfl ?_
  intro p e s m args below meth c s₁ B hml hv
  obtain ⟨rfl, hsz, hW, hK, hT, hX⟩ := hv
  have hin : meth.name = "<init>" := (name_of_methodNamed B.named B.method).1.trans hi
  have hbd := body (p, l, e, rm, s, m, As.toArray, below, meth, c, MQ below (z_Q none (fun t => z_WE G b (h + n) (z_mk G b E h) t.heap) b) As.toArray s mc ms (fun q => b ≤ q)) rfl ⟨B.exec, B.bytes, hml, (by rw [← ho]; exact findClass_of_methodNamed B.named), hT, hK, hX, rfl, B.notSynchronized, hl⟩ hsz hin ⟨rfl, B.returns⟩
  rw [lg_entry_eq]
  exact hbd s.heap [] _ hW va_S.rf (by rw [show (z_c (p, l, e, rm, s, m, As.toArray, below, meth, c, MQ below (z_Q none (fun t => z_WE G b (h + n) (z_mk G b E h) t.heap) b) As.toArray s mc ms (fun q => b ≤ q))).maxLocals = maxL from hml]; exact lv_entry As (Nat.le_of_ble_eq_true hlen))
theorem e_vret {Γ : zC} {G : zG} {b nL cs ss pc N : Nat} {cc : ByteArray} {own : String} {rm : Room} {E : Nat → va_E} {lv : List (Nat × Value)} (X : z_CX Γ G b nL cc own rm) (hR : z_RC Γ G b N E cs ss) (hd : decode cc pc = .ok (.return_, 1)) : GE Γ G b cs ss N E pc lv [] := by
  obtain ⟨p, l, e, R, s, m, args, below, meth, c, Q⟩ := Γ
  obtain ⟨hx, hb, hml, hown, hT, hK, hX, hRm, hlocks, -⟩ := X
  obtain ⟨rfl, hr⟩ := hR
  exact fun H locs ls hW hS hl => W.vret hx hb hr (fun t ht hw => ⟨rfl, by show z_WE G b _ _ t.heap; rw [ht]; exact hW, hS.F ht⟩) hS.2.2 hd hlocks
theorem z_blindE {G : zG} {b h : Nat} {E : Nat → va_E} {As : List Value} : FrameBlind (va_Pc As (fun U => U.heap.size = b + (h + 1) ∧ z_WE G b (h + 1) E U.heap ∧ z_K G U ∧ z_TW U ∧ z_X b U)) := by
  intro a U g mk q
  obtain ⟨q0, qs, q1, q2, q3, qn, q4, q5, q6⟩ := q
  exact ⟨q0, qs, q1, va_K.moved (u := U) (U := U.calling g mk a) (Vm.Alike.refl U.vm) q2, z_TW.same (s := U) (U := U.calling g mk a) rfl q3, fun z hz => va_Nc.moved (u := U) (U := U.calling g mk a) (Vm.Alike.refl U.vm) (qn z hz), vx_Zq.moved (u := U) (U := U.calling g mk a) (Vm.Alike.refl U.vm) q4, vx_Zq.moved (u := U) (U := U.calling g mk a) (Vm.Alike.refl U.vm) q5, fun z hz => by
    obtain ⟨x, hx⟩ := q6 z hz
    exact ⟨x, vk_R.same (u := U) (U := U.calling g mk a) rfl hx⟩⟩
theorem z_runE {p : Program} {l : Launch} {e : Env} {R : Room} {s : State} {m : MethodId} {args : Array Value} {below : List Frame} {meth : Method} {c : Code} {H : Heap} {locs : List Loc} {cs ss : Nat} {Q : State → Prop} {pc mc ms N1 : Nat} {E1 : Nat → va_E} {ls : Array Slot} {rest st0 : List Value} {a : Array Value} {G : zG} {b : Nat} (hr : va_Run p l e R s m args below meth c H locs cs ss mc ms (F0 m pc ls st0) rest (z_Q none (fun t => z_WE G b N1 E1 t.heap) b a) (fun q => b ≤ q)) (hS : va_S (fun q => b ≤ q) s.heap H locs)
    (K : ∀ (H1 : Heap) (locs1 : List Loc), z_WE G b N1 E1 H1 → va_S (fun q => b ≤ q) s.heap H1 locs1 → W p l e R s m args below meth c H1 locs1 (cs + mc) (ss + ms) Q (F0 m (pc + 3) ls rest)) : W p l e R s m args below meth c H locs cs ss Q (F0 m pc ls st0) := by
  intro T hT X
  obtain ⟨v', st₀, t, T', L, h0, X', hL, e1, e2, ⟨hv, hB, hz, hk⟩, st⟩ := hr T hT X
  cases hv
  rw [h0] at hz hk
  obtain ⟨t2, a1, b1⟩ := K T'.heap (locs ++ L) (by show z_WE G b _ _ T'.heap; rw [e1]; exact hB)
    ⟨Nat.le_trans hS.1 (by rw [e1]; exact hz), fun q h1 h2 => by rw [e1, hk q (Nat.lt_of_lt_of_le h1 hS.1) h2]; exact hS.2.1 q h1 h2, fun q hq => by
      rcases List.mem_append.mp hq with h | h
      · exact hS.2.2 q h
      · exact hL q h⟩ T' rfl X'
  exact ⟨t2, st t2 a1, b1⟩
theorem e_callIN {Γ : zC} {G : zG} {b nL cs ss pc N : Nat} {cc : ByteArray} {own : String} {rm : Room} {E : Nat → va_E} {lv : List (Nat × Value)} {st : List Value} {rest : List Value} {idx maxL n h9 n9 mc ms N0 : Nat} {host : String} {y : MethodName} {bytes : ByteArray} {rm1 : Room} {As : List Value} (X : z_CX Γ G b nL cc own rm) (h0 : (z_s Γ).heap.size = b + N0) (hN : N = N0 + cs ∧ N = h9 + 1) (hM : z_MCt Γ.2.1 y bytes maxL rm1 G b (.ref (b + h9) :: As) h9 n9 E mc ms) (hY : z_Y y bytes maxL none n) (hI : Cond.instanceMethod y ∈ z_TB) (hl : Cond.methodLinkNest own idx y host ∈ z_TB) (hy1 : y.name = "<init>") (hrm : rm1.cells = mc ∧ rm1.slots = ms) (hR : (rm1.frames + 1).ble rm.frames = true ∧ (8 + (maxL + 11) + rm1.locals).ble rm.locals = true) (hst : st = As.reverse ++ .ref (b + h9) :: rest) (hn : As.length = n) (hrs : (rest.map fun v => v.category).sum ≤ 8) (hro : cs + mc ≤ rm.cells ∧ ss + ms ≤ rm.slots) (hd : decode cc pc = .ok (.invokespecial idx, 3)) (pc' : Nat) (hp : pc + 3 = pc') (K : GE Γ G b (cs + mc) (ss + ms) (h9 + n9) (z_mk G b E h9) pc' lv rest) : GE Γ G b cs ss N E pc lv st := by
  obtain ⟨p, l, e, R, s, m, args, below, meth, c0, Q⟩ := Γ
  subst hp
  obtain ⟨hN, hN9⟩ := hN
  subst hN9
  obtain ⟨hx, hb, hml, hown, hT, hK, hX, hRm, -⟩ := X
  intro H locs ls hW hS hl9
  refine z_size (fun hz => ?_)
  have hsz : H.size = b + (h9 + 1) := z_next hW h0 hN hS.1 hz
  exact z_runE (va_runIN (cc := cc) (nL := nL) (As := As) (rest := rest) ⟨hx, hb, hml, hown, fun w (hw : w ∈ z_TB) => hT.use hw⟩ hM ⟨va_cnB n (fun w (hw : w ∈ z_TB) => hT.use hw) (z_Y1 hY.2.2) rfl hrm.1 hrm.2 (va_Nw.of rfl (hT.use (args := #[]) hl)) (hT.use hY.2.1) hY.1 (by rw [hRm]; exact ⟨Nat.le_of_ble_eq_true hR.1, Nat.le_of_ble_eq_true hR.2⟩), hy1, hT.use hI⟩ ⟨z_blindE, fun U hU hw => ⟨rfl, by rw [hU]; exact hsz, by rw [hU]; exact hW, va_K.moved hw.alike hK, hT.warm hw, hX.kept hS hU hw⟩⟩ rfl hn (hl9.1.trans hml) hst (lv_room hrs) hd (by rw [hRm]; exact hro)) hS (fun H1 locs1 hW1 hS1 => K H1 locs1 ls hW1 hS1 hl9)
theorem e_callI {Γ : zC} {G : zG} {b nL cs ss pc N : Nat} {cc : ByteArray} {own : String} {rm : Room} {E : Nat → va_E} {lv : List (Nat × Value)} {st : List Value} {rest : List Value} {idx maxL n h9 n9 mc ms N0 : Nat} {y : MethodName} {bytes : ByteArray} {rm1 : Room} {As : List Value} (X : z_CX Γ G b nL cc own rm) (h0 : (z_s Γ).heap.size = b + N0) (hN : N = N0 + cs ∧ N = h9 + 1) (hM : z_MCt Γ.2.1 y bytes maxL rm1 G b (.ref (b + h9) :: As) h9 n9 E mc ms) (hY : z_Y y bytes maxL none n) (hI : Cond.instanceMethod y ∈ z_TB) (hl : Cond.methodLink own idx y ∈ z_TB) (hy1 : y.name = "<init>") (hrm : rm1.cells = mc ∧ rm1.slots = ms) (hR : (rm1.frames + 1).ble rm.frames = true ∧ (8 + (maxL + 11) + rm1.locals).ble rm.locals = true) (hst : st = As.reverse ++ .ref (b + h9) :: rest) (hn : As.length = n) (hrs : (rest.map fun v => v.category).sum ≤ 8) (hro : cs + mc ≤ rm.cells ∧ ss + ms ≤ rm.slots) (hd : decode cc pc = .ok (.invokespecial idx, 3)) (pc' : Nat) (hp : pc + 3 = pc') (K : GE Γ G b (cs + mc) (ss + ms) (h9 + n9) (z_mk G b E h9) pc' lv rest) : GE Γ G b cs ss N E pc lv st := by
  obtain ⟨p, l, e, R, s, m, args, below, meth, c0, Q⟩ := Γ
  subst hp
  obtain ⟨hN, hN9⟩ := hN
  subst hN9
  obtain ⟨hx, hb, hml, hown, hT, hK, hX, hRm, -⟩ := X
  intro H locs ls hW hS hl9
  refine z_size (fun hz => ?_)
  have hsz : H.size = b + (h9 + 1) := z_next hW h0 hN hS.1 hz
  exact z_runE (va_runI (cc := cc) (nL := nL) (As := As) (rest := rest) ⟨hx, hb, hml, hown, fun w (hw : w ∈ z_TB) => hT.use hw⟩ hM (cwI n (fun w (hw : w ∈ z_TB) => hT.use hw) (z_Y1 hY.2.2) rfl hrm.1 hrm.2 (hT.use hY.2.1) (hT.use hl) (hT.use hI) hy1 hY.1 (by rw [hRm]; exact ⟨Nat.le_of_ble_eq_true hR.1, Nat.le_of_ble_eq_true hR.2⟩)) ⟨z_blindE, fun U hU hw => ⟨rfl, by rw [hU]; exact hsz, by rw [hU]; exact hW, va_K.moved hw.alike hK, hT.warm hw, hX.kept hS hU hw⟩⟩ rfl hn (hl9.1.trans hml) hst (lv_room hrs) hd (by rw [hRm]; exact hro)) hS (fun H1 locs1 hW1 hS1 => K H1 locs1 ls hW1 hS1 hl9)
theorem e_fill {Γ : zC} {G : zG} {b nL cs ss pc N : Nat} {cc : ByteArray} {own : String} {rm : Room} {E : Nat → va_E} {lv : List (Nat × Value)} {st : List Value} {k idx n : Nat} {f : Nat → Int32} {v : Int32} (X : z_CX Γ G b nL cc own rm) (hk : k < N) (hE : E k = .inl (G.2.2 8, n, .inl f)) (hl : Cond.methodLink own idx yJ7_fill_53178 ∈ z_TB) (hn2 : n < 2 ^ 31) (hR : (1 : Nat).ble rm.frames = true ∧ (23 : Nat).ble rm.locals = true) (hro : cs ≤ rm.cells ∧ ss ≤ rm.slots) (hrs : (st.map fun v => v.category).sum ≤ 8) (hd : decode cc pc = .ok (.invokestatic idx, 3)) (pc' : Nat) (hp : pc + 3 = pc') (K : GE Γ G b cs ss N (z_up E k (.inl (G.2.2 8, n, .inl (fun _ => v)))) pc' lv st) : GE Γ G b cs ss N E pc lv (.int v :: .ref (b + k) :: st) := by
  obtain ⟨p, l, e, R, s, m, args, below, meth, c0, Q⟩ := Γ
  subst hp
  obtain ⟨hx, hb, hml, hown, hT, hK, hX, hRm, -⟩ := X
  intro H locs ls hW hS hl9
  have hG : GoodIn z_TB (va_wsS own idx yJ7_fill_53178 [.code yJ7_fill_53178 cJ7_fill_53178 4 none]) := by
    intro w hw
    simp only [va_wsS, List.cons_append, List.nil_append, List.mem_cons, List.not_mem_nil, or_false] at hw
    rcases hw with rfl | rfl | rfl | rfl
    · exact ⟨hl, good_of_word rfl⟩
    · exact ⟨zs_J7_fill, good_of_word rfl⟩
    · exact ⟨zy_J7_fill.2.1, good_of_word rfl⟩
    · exact ⟨zy_J7_fill.2.2, good_of_word rfl⟩
  have hcell := hW k hk
  rw [hE] at hcell
  have hPc : va_P (G.1, G.2.1) vwCl [(b + k, .inl (G.2.2 8, n, .inl f))] H := fun i q hi => by
    have h1 : i < 1 := (List.getElem?_eq_some_iff.mp hi).1
    have h2 : i = 0 := by omega
    subst h2
    cases hi
    exact hcell
  have hKc : va_K (G.1, G.2.1) vwCl [(G.2.2 8, .int)] s := hK.sub [0] rfl
  refine va_callv (A0 := fun q => b ≤ q) (H0 := s.heap) (va_runS (cc := cc) (nL := nL) (As := [.ref (b + k), .int v]) (rest := st) ⟨hx, hb, hml, hown, fun w (hw : w ∈ z_TB) => hT.use hw⟩ (c_fill l (G.1, G.2.1) vwCl (G.2.2 8) n hn2 (b + k) H.size f v) (va_cwS 2 (fun w (hw : w ∈ z_TB) => hT.use hw) hG rfl rfl rfl zy_J7_fill.1 (by rw [hRm]; exact ⟨Nat.le_of_ble_eq_true hR.1, Nat.le_of_ble_eq_true hR.2⟩)) ⟨fun a U g mk q => by obtain ⟨q0, q1, q2, q3⟩ := q; exact ⟨q0, q1, q2, va_K.moved (u := U) (U := U.calling g mk a) (Vm.Alike.refl U.vm) q3⟩, fun U hU hw => ⟨rfl, by rw [hU], by rw [hU]; exact hPc, va_K.moved hw.alike hKc⟩⟩ rfl rfl (hl9.1.trans hml) rfl (lv_room hrs) hd (by rw [hRm]; exact hro)) hS (fun q h1 h2 => ?_) (fun q h2 => ?_) (fun u t H1 locs1 ht hvm _ hB hz hk1 hS1 => ?_)
  · rcases h2 with rfl | h2
    · exact Nat.le_add_right b k
    · omega
  · rcases h2 with rfl | h2
    · exact Nat.le_add_right b k
    · exact Nat.le_trans (Nat.le_add_right b k) (Nat.le_trans (Nat.le_of_lt hcell.lt) h2)
  · refine K H1 locs1 ls (fun j hj => ?_) hS1 hl9
    by_cases hjk : j = k
    · subst hjk
      rw [z_up_s]
      have h9 := hB.2 0 _ rfl
      rw [ht] at h9
      exact h9
    · rw [z_up_n hjk]
      refine (hW j hj).kept (hk1 _ (hW j hj).lt (fun h => ?_))
      rcases h with h | h
      · exact hjk (Nat.add_left_cancel h)
      · exact absurd (hW j hj).lt (Nat.not_lt.mpr h)
theorem zo_ov_X0 : Cond.arrayOver (.object RX0) ∈ z_TB := z_in 103 (by decide +kernel) rfl
theorem zo_ov_X2 : Cond.arrayOver (.object RX2) ∈ z_TB := z_in 105 (by decide +kernel) rfl
theorem zo_ar8 : Cond.arrayClass .int ∈ z_TB := z_in 125 (by decide +kernel) rfl
theorem zo_ov_X1 : Cond.arrayOver (.object RX1) ∈ z_TB := z_in 127 (by decide +kernel) rfl
theorem zo_ar9 : Cond.arrayClass .boolean ∈ z_TB := z_in 223 (by decide +kernel) rfl
theorem zo_ar10 : Cond.arrayClass .long ∈ z_TB := z_in 382 (by decide +kernel) rfl
theorem kin_X0 : Cond.instantiable RX0 3 ∈ z_TB := z_in 128 (by decide +kernel) rfl
theorem kini_X0 : Cond.initialized RX0 ∈ z_TB := z_in 67 (by decide +kernel) rfl
theorem zoi_X0 : Cond.instanceMethod yX0_init ∈ z_TB := z_in 130 (by decide +kernel) rfl
theorem kin_X1 : Cond.instantiable RX1 6 ∈ z_TB := z_in 198 (by decide +kernel) rfl
theorem kini_X1 : Cond.initialized RX1 ∈ z_TB := z_in 71 (by decide +kernel) rfl
theorem zoi_X1 : Cond.instanceMethod yX1_init ∈ z_TB := z_in 200 (by decide +kernel) rfl
theorem kin_X2 : Cond.instantiable RX2 6 ∈ z_TB := z_in 162 (by decide +kernel) rfl
theorem kini_X2 : Cond.initialized RX2 ∈ z_TB := z_in 70 (by decide +kernel) rfl
theorem zoi_X2 : Cond.instanceMethod yX2_init ∈ z_TB := z_in 164 (by decide +kernel) rfl
theorem kin_X3 : Cond.instantiable RX3 4 ∈ z_TB := z_in 107 (by decide +kernel) rfl
theorem kini_X3 : Cond.initialized RX3 ∈ z_TB := z_in 66 (by decide +kernel) rfl
theorem zoi_X3 : Cond.instanceMethod yX3_init ∈ z_TB := z_in 109 (by decide +kernel) rfl
theorem kin_X4 : Cond.instantiable RX4 1 ∈ z_TB := z_in 134 (by decide +kernel) rfl
theorem kini_X4 : Cond.initialized RX4 ∈ z_TB := z_in 68 (by decide +kernel) rfl
theorem zoi_X4 : Cond.instanceMethod yX4_init ∈ z_TB := z_in 136 (by decide +kernel) rfl
theorem kin_X5 : Cond.instantiable RX5 7 ∈ z_TB := z_in 97 (by decide +kernel) rfl
theorem kini_X5 : Cond.initialized RX5 ∈ z_TB := z_in 65 (by decide +kernel) rfl
theorem zoi_X5 : Cond.instanceMethod yX5_init ∈ z_TB := z_in 99 (by decide +kernel) rfl
theorem kin_X6 : Cond.instantiable RX6 4 ∈ z_TB := z_in 89 (by decide +kernel) rfl
theorem kini_X6 : Cond.initialized RX6 ∈ z_TB := z_in 64 (by decide +kernel) rfl
theorem zoi_X6 : Cond.instanceMethod yX6_init ∈ z_TB := z_in 91 (by decide +kernel) rfl
theorem kcl_L_43 : Cond.classLink RL 43 RX6 ∈ z_TB := z_in 88 (by decide +kernel) rfl
theorem kobj_X6_3 : Cond.methodLink RX6 3 objectInit ∈ z_TB := z_in 93 (by decide +kernel) rfl
theorem kcl_X6_9 : Cond.classLink RX6 9 RX5 ∈ z_TB := z_in 96 (by decide +kernel) rfl
theorem kobj_X5_3 : Cond.methodLink RX5 3 objectInit ∈ z_TB := z_in 101 (by decide +kernel) rfl
theorem kcl_X5_9 : Cond.classLink RX5 9 RX0 ∈ z_TB := z_in 102 (by decide +kernel) rfl
theorem kcl_X5_17 : Cond.classLink RX5 17 RX2 ∈ z_TB := z_in 104 (by decide +kernel) rfl
theorem kcl_X5_23 : Cond.classLink RX5 23 RX3 ∈ z_TB := z_in 106 (by decide +kernel) rfl
theorem kobj_X3_3 : Cond.methodLink RX3 3 objectInit ∈ z_TB := z_in 111 (by decide +kernel) rfl
theorem kcl_X5_30 : Cond.classLink RX5 30 RX1 ∈ z_TB := z_in 126 (by decide +kernel) rfl
theorem kobj_X0_3 : Cond.methodLink RX0 3 objectInit ∈ z_TB := z_in 132 (by decide +kernel) rfl
theorem kcl_X0_9 : Cond.classLink RX0 9 RX4 ∈ z_TB := z_in 133 (by decide +kernel) rfl
theorem kobj_X4_3 : Cond.methodLink RX4 3 objectInit ∈ z_TB := z_in 138 (by decide +kernel) rfl
theorem kobj_X2_3 : Cond.methodLink RX2 3 objectInit ∈ z_TB := z_in 166 (by decide +kernel) rfl
theorem kcl_X2_9 : Cond.classLink RX2 9 RX4 ∈ z_TB := z_in 167 (by decide +kernel) rfl
theorem kobj_X1_3 : Cond.methodLink RX1 3 objectInit ∈ z_TB := z_in 202 (by decide +kernel) rfl
theorem zt_4_0 {G : zG} {b h : Nat} (hk : z_kd h = 4) : z_ent G b z_M0 h = .inr (4, [.ref (b + (h + 1))]) := by
  rw [z_ent_o hk (by decide)]
  rfl
theorem zt_3_0 {G : zG} {b h : Nat} (hk : z_kd h = 3) : z_ent G b z_M0 h = .inr (3, [.ref (b + (h + 1)), .ref (b + (h + 2)), .ref (b + (h + 3)), .ref (b + (h + 4))]) := by
  rw [z_ent_o hk (by decide)]
  rfl
theorem zt_2_0 {G : zG} {b h : Nat} (hk : z_kd h = 2) : z_ent G b z_M0 h = .inr (2, [.ref (b + (h + 1)), .int 0, .int (-1), .int (-1), .int 0, .int 0]) := by
  rw [z_ent_o hk (by decide)]
  rw [z_M0c (beq_iff_eq.mp (z_all (P := fun h => z_ik h == 4) (by decide +kernel) rfl hk).2)]
  rfl
theorem z_ik0 {h : Nat} (hk : z_kd h = 0) : z_ik h = 2 ∨ z_ik h = 3 := by
  have h1 := (z_all (P := fun h => z_ik h == 2 || z_ik h == 3) (by decide +kernel) rfl hk).2
  simpa using h1
theorem zt_0_0 {G : zG} {b h : Nat} (hk : z_kd h = 0) {a1 : Int32} (he : z_M0 h 1 = a1) : z_ent G b z_M0 h = .inr (0, [.ref (b + (h + 1)), .int a1, .int (-1)]) := by
  rw [z_ent_o hk (by decide)]
  subst he
  rcases z_ik0 hk with q | q <;> rw [z_M0c q] <;> rfl
theorem z_ik1 {h : Nat} (hk : z_kd h = 1) : z_ik h = 7 ∨ z_ik h = 8 ∨ z_ik h = 9 ∨ z_ik h = 10 := by
  have h1 := (z_all (P := fun h => z_ik h == 7 || (z_ik h == 8 || (z_ik h == 9 || z_ik h == 10))) (by decide +kernel) rfl hk).2
  simpa using h1
theorem zt_1_0 {G : zG} {b h : Nat} (hk : z_kd h = 1) {a1 : Int32} (he : z_M0 h 0 = a1) : z_ent G b z_M0 h = .inr (1, [.int a1, .ref (b + (h + 1)), .ref (b + (h + 2)), .ref (b + (h + 3)), .int 0, .ref (b + (h + 4))]) := by
  rw [z_ent_o hk (by decide)]
  subst he
  rcases z_ik1 hk with q | q | q | q <;> rw [z_M0c q] <;> rfl
theorem zt_5_0 {G : zG} {b h : Nat} (hk : z_kd h = 5) : z_ent G b z_M0 h = .inr (5, [.ref (b + (h + 1)), .ref (b + (h + 2)), .ref (b + (h + 3)), .ref (b + (h + 8)), .int 1, .int 0, .int 0]) := by
  rw [z_ent_o hk (by decide)]
  rw [z_M0c (beq_iff_eq.mp (z_all (P := fun h => z_ik h == 5) (by decide +kernel) rfl hk).2)]
  rfl
theorem zt_4_1 {G : zG} {b h : Nat} (hk : z_kd h = 4) : z_ent G b z_M0 (h + 1) = .inl (G.2.2 8, 128, .inl (fun _ => (-1))) := by
  rw [z_ent_a (zk_4_0 hk) (by decide), zn_4_0 hk, z_M0c (beq_iff_eq.mp (z_all (P := fun h => z_ik (h + 1) == 1) (by decide +kernel) rfl hk).2)]
  rfl
theorem zt_3_1 {G : zG} {b h : Nat} (hk : z_kd h = 3) : z_ent G b z_M0 (h + 1) = .inl (G.2.2 8, 128, .inl (fun _ => 0)) := by
  rw [z_ent_a (zk_3_0 hk) (by decide), zn_3_0 hk, z_M0c (beq_iff_eq.mp (z_all (P := fun h => z_ik (h + 1) == 0) (by decide +kernel) rfl hk).2)]
  rfl
theorem zt_3_2 {G : zG} {b h : Nat} (hk : z_kd h = 3) : z_ent G b z_M0 (h + 2) = .inl (G.2.2 8, 128, .inl (fun _ => 0)) := by
  rw [z_ent_a (zk_3_1 hk) (by decide), zn_3_1 hk, z_M0c (beq_iff_eq.mp (z_all (P := fun h => z_ik (h + 2) == 0) (by decide +kernel) rfl hk).2)]
  rfl
theorem zt_3_3 {G : zG} {b h : Nat} (hk : z_kd h = 3) : z_ent G b z_M0 (h + 3) = .inl (G.2.2 8, 128, .inl (fun _ => 0)) := by
  rw [z_ent_a (zk_3_2 hk) (by decide), zn_3_2 hk, z_M0c (beq_iff_eq.mp (z_all (P := fun h => z_ik (h + 3) == 0) (by decide +kernel) rfl hk).2)]
  rfl
theorem zt_3_4 {G : zG} {b h : Nat} (hk : z_kd h = 3) : z_ent G b z_M0 (h + 4) = .inl (G.2.2 8, 128, .inl (fun _ => 0)) := by
  rw [z_ent_a (zk_3_3 hk) (by decide), zn_3_3 hk, z_M0c (beq_iff_eq.mp (z_all (P := fun h => z_ik (h + 4) == 0) (by decide +kernel) rfl hk).2)]
  rfl
theorem zt_1_1 {G : zG} {b h : Nat} (hk : z_kd h = 1) {a1 : Int32} (he : z_M0 h 0 = a1) : z_ent G b z_M0 (h + 1) = .inl (G.2.2 8, 66, .inl (fun _ => 0)) := by
  rw [z_ent_a (zk_1_1 hk) (by decide), zn_1_1 hk, z_M0c (beq_iff_eq.mp (z_all (P := fun h => z_ik (h + 1) == 0) (by decide +kernel) rfl hk).2)]
  rfl
theorem zt_1_2 {G : zG} {b h : Nat} (hk : z_kd h = 1) {a1 : Int32} (he : z_M0 h 0 = a1) : z_ent G b z_M0 (h + 2) = .inl (G.2.2 8, 66, .inl (fun _ => 0)) := by
  rw [z_ent_a (zk_1_2 hk) (by decide), zn_1_2 hk, z_M0c (beq_iff_eq.mp (z_all (P := fun h => z_ik (h + 2) == 0) (by decide +kernel) rfl hk).2)]
  rfl
theorem zt_1_3 {G : zG} {b h : Nat} (hk : z_kd h = 1) {a1 : Int32} (he : z_M0 h 0 = a1) : z_ent G b z_M0 (h + 3) = .inl (G.2.2 9, 66, .inl (fun _ => 0)) := by
  rw [z_ent_a (zk_1_3 hk) (by decide), zn_1_3 hk, z_M0c (beq_iff_eq.mp (z_all (P := fun h => z_ik (h + 3) == 0) (by decide +kernel) rfl hk).2)]
  rfl
theorem zt_1_4 {G : zG} {b h : Nat} (hk : z_kd h = 1) {a1 : Int32} (he : z_M0 h 0 = a1) : z_ent G b z_M0 (h + 4) = .inl (G.2.2 9, 32, .inl (fun _ => 0)) := by
  rw [z_ent_a (zk_1_5 hk) (by decide), zn_1_5 hk, z_M0c (beq_iff_eq.mp (z_all (P := fun h => z_ik (h + 4) == 0) (by decide +kernel) rfl hk).2)]
  rfl
