/-! THE WORLD: 176 cells one behind another from the address b on: the class's (0 to 168), the law's rows x, b, m, x2, b2, m2, had (169 to 175). A cell's kind and length are written below; what changes is M: cell, place -> int. -/
abbrev zM : Type := Nat → Nat → Int32
abbrev zG : Type := (Nat → ClassId) × (Nat → Nat → Nat) × (Nat → ClassId)
def z_kdL : List Nat := [6, 5, 11, 12, 3, 8, 8, 8, 8, 13, 0, 4, 8, 0, 4, 8, 0, 4, 8, 0, 4, 8, 0, 4, 8, 0, 4, 8, 2, 4, 8, 2, 4, 8, 2, 4, 8, 2, 4, 8, 2, 4, 8, 2, 4, 8, 2, 4, 8, 2, 4, 8, 2, 4, 8, 2, 4, 8, 2, 4, 8, 2, 4, 8, 1, 8, 8, 9, 9, 1, 8, 8, 9, 9, 1, 8, 8, 9, 9, 1, 8, 8, 9, 9, 5, 11, 12, 3, 8, 8, 8, 8, 13, 0, 4, 8, 0, 4, 8, 0, 4, 8, 0, 4, 8, 0, 4, 8, 0, 4, 8, 2, 4, 8, 2, 4, 8, 2, 4, 8, 2, 4, 8, 2, 4, 8, 2, 4, 8, 2, 4, 8, 2, 4, 8, 2, 4, 8, 2, 4, 8, 2, 4, 8, 2, 4, 8, 1, 8, 8, 9, 9, 1, 8, 8, 9, 9, 1, 8, 8, 9, 9, 1, 8, 8, 9, 9, 8, 8, 8, 10, 8, 8, 10, 8, 8]
def z_lnL : List Nat := [0, 0, 6, 12, 0, 128, 128, 128, 128, 4, 0, 0, 128, 0, 0, 128, 0, 0, 128, 0, 0, 128, 0, 0, 128, 0, 0, 128, 0, 0, 128, 0, 0, 128, 0, 0, 128, 0, 0, 128, 0, 0, 128, 0, 0, 128, 0, 0, 128, 0, 0, 128, 0, 0, 128, 0, 0, 128, 0, 0, 128, 0, 0, 128, 0, 66, 66, 66, 32, 0, 66, 66, 66, 32, 0, 66, 66, 66, 32, 0, 66, 66, 66, 32, 0, 6, 12, 0, 128, 128, 128, 128, 4, 0, 0, 128, 0, 0, 128, 0, 0, 128, 0, 0, 128, 0, 0, 128, 0, 0, 128, 0, 0, 128, 0, 0, 128, 0, 0, 128, 0, 0, 128, 0, 0, 128, 0, 0, 128, 0, 0, 128, 0, 0, 128, 0, 0, 128, 0, 0, 128, 0, 0, 128, 0, 0, 128, 0, 66, 66, 66, 32, 0, 66, 66, 66, 32, 0, 66, 66, 66, 32, 0, 66, 66, 66, 32, 16, 128, 28, 64, 32, 28, 64, 32, 4]
def z_kd (k : Nat) : Nat := z_kdL.getD k 99
def z_ln (k : Nat) : Nat := z_lnL.getD k 0
/-- what the references of a row of references lead to -/
def z_rf (c k j : Nat) : Nat := match c with
  | 11 => k + 8 + 3 * j
  | 12 => k + 25 + 3 * j
  | _ => k + 55 + 5 * j
/-- an object's fields, in the order of its slots -/
def z_fl (c b k : Nat) (m : Nat → Int32) : List Value := match c with
  | 0 => [.ref (b + (k + 1)), .int (m 1), .int (m 2)]
  | 1 => [.int (m 0), .ref (b + (k + 1)), .ref (b + (k + 2)), .ref (b + (k + 3)), .int (m 4), .ref (b + (k + 4))]
  | 2 => [.ref (b + (k + 1)), .int (m 1), .int (m 2), .int (m 3), .int (m 4), .int (m 5)]
  | 3 => [.ref (b + (k + 1)), .ref (b + (k + 2)), .ref (b + (k + 3)), .ref (b + (k + 4))]
  | 4 => [.ref (b + (k + 1))]
  | 5 => [.ref (b + (k + 1)), .ref (b + (k + 2)), .ref (b + (k + 3)), .ref (b + (k + 8)), .int (m 4), .int (m 5), .int (m 6)]
  | 6 => [.ref (b + (k + 1)), .ref (b + (k + 84)), .ref (b + (k + 167)), .ref (b + (k + 168))]
  | _ => [.ref (b + (k + 1)), .ref (b + (k + 2)), .ref (b + (k + 3)), .ref (b + (k + 4)), .int (m 4)]
/-- a long of two ints -/
def z_JJ (lo hi : Int32) : Int64 := Int64.ofBitVec (hi.toBitVec ++ lo.toBitVec)
def z_Jlo (v : Int64) : Int32 := Int32.ofBitVec (v.toBitVec.extractLsb' 0 32)
def z_Jhi (v : Int64) : Int32 := Int32.ofBitVec (v.toBitVec.extractLsb' 32 32)
theorem z_JJ_of (v : Int64) : z_JJ (z_Jlo v) (z_Jhi v) = v := by
  have h : (v.toBitVec.extractLsb' 32 32 ++ v.toBitVec.extractLsb' 0 32 : BitVec 64) = v.toBitVec := by
    apply BitVec.eq_of_getLsbD_eq
    intro i hi
    rw [BitVec.getLsbD_append]
    by_cases q : i < 32
    · simp [q]
    · simp [q, show 32 + (i - 32) = i by omega, show i - 32 < 32 by omega]
  exact Int64.toBitVec_inj.mp h
/-- place j of a row of longs -/
def z_jj (m : Nat → Int32) (j : Nat) : Int64 := z_JJ (m (2 * j)) (m (2 * j + 1))
/-- a row's contents, by its kind -/
def z_ar (c b n k : Nat) (m : Nat → Int32) : vp_A := match c with
  | 8 => (n, .inl m)
  | 9 => (n, .inl m)
  | 10 => (n, .inr (.inl (z_jj m)))
  | _ => (n, .inr (.inr (.inr (.inr (fun j => some (b + z_rf c k j))))))
def z_ent (G : zG) (b : Nat) (M : zM) (k : Nat) : va_E := if z_kd k < 8 then .inr (z_kd k, z_fl (z_kd k) b k (M k)) else .inl (G.2.2 (z_kd k), z_ar (z_kd k) b (z_ln k) k (M k))
def z_W (G : zG) (b : Nat) (M : zM) (H : Heap) : Prop := ∀ k : Nat, k < 176 → va_at (G.1, G.2.1) vwCl (b + k, z_ent G b M k) H
def z_wl (G : zG) (b : Nat) (M : zM) : va_W := (List.range 176).map (fun k => (b + k, z_ent G b M k))
/-- one place of one cell written -/
def z_st (M : zM) (k j : Nat) (v : Int32) : zM := fun a => if a = k then upd (M k) j v else M a
theorem z_all {a : Nat} {P : Nat → Bool} (h : (List.range 176).all (fun k => !(z_kd k == a) || P k) = true) (ha : (a == 99) = false) {k : Nat} (hk : z_kd k = a) : k < 176 ∧ P k = true := by
  have hk2 : k < 176 := by
    rcases Nat.lt_or_ge k 176 with q | q
    · exact q
    · have h9 : z_kd k = 99 := by
        unfold z_kd
        rw [List.getD_eq_getElem?_getD, List.getElem?_eq_none (by exact q)]
        rfl
      rw [← hk, h9] at ha
      exact absurd ha (by decide)
  refine ⟨hk2, ?_⟩
  have h1 := List.all_eq_true.mp h k (List.mem_range.mpr hk2)
  rw [hk] at h1
  simpa using h1
theorem z_wl_get {G : zG} {b : Nat} {M : zM} {k : Nat} (hk : k < 176) : (z_wl G b M)[k]? = some (b + k, z_ent G b M k) := by
  unfold z_wl
  rw [List.getElem?_map, List.getElem?_range hk]
  rfl
theorem z_wl_at {G : zG} {b : Nat} {M : zM} {k : Nat} {q : Nat × va_E} (h : (z_wl G b M)[k]? = some q) : k < 176 ∧ q = (b + k, z_ent G b M k) := by
  have hl : k < (z_wl G b M).length := (List.getElem?_eq_some_iff.mp h).1
  have hk : k < 176 := by simpa [z_wl] using hl
  rw [z_wl_get hk] at h
  exact ⟨hk, (Option.some.inj h).symm⟩
theorem z_WP {G : zG} {b : Nat} {M : zM} {H : Heap} (h : z_W G b M H) : va_P (G.1, G.2.1) vwCl (z_wl G b M) H := fun k q hk => by
  obtain ⟨h1, h2⟩ := z_wl_at hk
  rw [h2]
  exact h k h1
theorem z_WD {G : zG} {b : Nat} {M : zM} : va_D (fun q => b ≤ q) (z_wl G b M) := by
  refine ⟨fun i j p q hi hj hpq => ?_, fun k q hk => ?_⟩
  · have h1 := (z_wl_at hi).2
    have h2 := (z_wl_at hj).2
    rw [h1, h2] at hpq
    exact Nat.add_left_cancel hpq
  · rw [(z_wl_at hk).2]
    exact Nat.le_add_right b k
/-- a world with one cell written anew -/
theorem z_Wset {G : zG} {b : Nat} {M M1 : zM} {H1 : Heap} {k : Nat} {e : va_E} (hk : k < 176) (h : va_P (G.1, G.2.1) vwCl ((z_wl G b M).set k (b + k, e)) H1) (he : e = z_ent G b M1 k) (hM : ∀ j, j ≠ k → M1 j = M j) : z_W G b M1 H1 := by
  intro j hj
  by_cases hjk : j = k
  · subst hjk
    rw [← he]
    refine h j _ ?_
    rw [List.getElem?_set_self]
    rw [(by simp [z_wl] : (z_wl G b M).length = 176)]
    exact hj
  · have h1 : z_ent G b M1 j = z_ent G b M j := by
      unfold z_ent
      rw [hM j hjk]
    rw [h1]
    refine h j _ ?_
    rw [List.getElem?_set_ne (Ne.symm hjk)]
    exact z_wl_get hj
theorem z_W.kept {G : zG} {b : Nat} {M : zM} {H H1 : Heap} (h : z_W G b M H) (hq : ∀ q : Nat, q < H.size → H1[q]? = H[q]?) : z_W G b M H1 := fun k hk => (h k hk).kept (hq _ (h k hk).lt)
def z_tys (G : zG) : List (ClassId × FieldType) := [(G.2.2 8, .int), (G.2.2 9, .boolean), (G.2.2 10, .long), (G.2.2 11, .object RX0), (G.2.2 12, .object RX2), (G.2.2 13, .object RX1)]
def z_K (G : zG) (U : State) : Prop := va_K (G.1, G.2.1) vwCl (z_tys G) U
def z_strs : List (String × Nat × String) := [("Cowmeadow", 73, "no block is free"), ("Cowmeadow", 97, "the file has not so many indexes"), ("Cowmeadow", 100, "a file has not so many indexes"), ("Cowmeadow", 116, "there are 12 snapshots"), ("Cowmeadow", 144, "it has not so many snapshots"), ("Cowmeadow", 151, "it is the origin of a dataset"), ("Cowmeadow", 157, "the snapshot belongs to another dataset"), ("Cowmeadow", 163, "a snapshot behind it is the origin of a dataset"), ("Cowmeadow", 179, "there are 6 datasets"), ("Cowmeadow", 191, "it has no origin"), ("Cowmeadow", 200, "it has snapshots"), ("Cowmeadow", 202, "it is the only dataset"), ("Cowmeadow", 229, "the block is not allocated"), ("Cowmeadow", 269, "no such dataset"), ("Cowmeadow", 271, "no such snapshot"), ("Cowmeadow", 273, "no such file"), ("Cowmeadow", 275, "no such index"), ("Cowmeadow", 277, "no such block"), ("Cowmeadow", 279, "no such region"), ("Cowmeadow", 285, "no such entry")]
/-- what the throws need of the machine: two statics of Throwable's that no cell of ours holds, and the texts -/
def z_ncs : List (String × String) := [("java/lang/IllegalStateException", "java/lang/IndexOutOfBoundsException"), ("java/lang/IllegalArgumentException", "java/lang/IndexOutOfBoundsException"), ("java/lang/IllegalStateException", "java/lang/IllegalArgumentException")]
def z_X (b : Nat) (U : State) : Prop := (∀ q ∈ z_ncs, va_Nc q.1 q.2 U) ∧ vx_Zq Bundle.tN "UNASSIGNED_STACK" Bundle.steD (fun q => b ≤ q) U U.heap ∧ vx_Zq Bundle.tN "SUPPRESSED_SENTINEL" Bundle.listD (fun q => b ≤ q) U U.heap ∧ ∀ q ∈ z_strs, ∃ a : Nat, vk_R q.1 q.2.1 q.2.2 a U
/-- the world, and all that goes with it from call to call -/
def z_B (G : zG) (b : Nat) (M : zM) (U : State) : Prop := z_W G b M U.heap ∧ z_K G U ∧ z_TW U ∧ z_X b U
theorem z_X.kept {b : Nat} {s U : State} {H : Heap} {locs : List Loc} (hX : z_X b s) (hS : va_S (fun q => b ≤ q) s.heap H locs) (hU : U.heap = H) (hW : s.WarmedH U.vm) : z_X b U := by
  obtain ⟨h0, h1, h2, h3⟩ := hX
  refine ⟨fun q hq => (h0 q hq).moved hW.alike, ?_, ?_, fun q hq => ?_⟩
  · rw [hU]
    exact vx_Zq.moved hW.alike (h1.kept (fun a l1 l2 => hS.2.1 a l1 l2))
  · rw [hU]
    exact vx_Zq.moved hW.alike (h2.kept (fun a l1 l2 => hS.2.1 a l1 l2))
  · obtain ⟨a, ha⟩ := h3 q hq
    exact ⟨a, vk_R.warm hW ha⟩
theorem z_pre {G : zG} {b : Nat} {M : zM} {s U : State} {H : Heap} {locs : List Loc} (hT : z_TW s) (hK : z_K G s) (hX : z_X b s) (hW : z_W G b M H) (hS : va_S (fun q => b ≤ q) s.heap H locs) (hU : U.heap = H) (hw : s.WarmedH U.vm) : z_B G b M U := by
  refine ⟨?_, va_K.moved hw.alike hK, hT.warm hw, hX.kept hS hU hw⟩
  rw [hU]
  exact hW
theorem z_blind {G : zG} {b : Nat} {M : zM} {As : List Value} : FrameBlind (va_Pc As (z_B G b M)) := by
  intro a U g mk q
  obtain ⟨q0, q1, q2, q3, qn, q4, q5, q6⟩ := q
  exact ⟨q0, q1, va_K.moved (u := U) (U := U.calling g mk a) (Vm.Alike.refl U.vm) q2, z_TW.same (s := U) (U := U.calling g mk a) rfl q3, fun z hz => va_Nc.moved (u := U) (U := U.calling g mk a) (Vm.Alike.refl U.vm) (qn z hz), vx_Zq.moved (u := U) (U := U.calling g mk a) (Vm.Alike.refl U.vm) q4, vx_Zq.moved (u := U) (U := U.calling g mk a) (Vm.Alike.refl U.vm) q5, fun z hz => by
    obtain ⟨x, hx⟩ := q6 z hz
    exact ⟨x, vk_R.same (u := U) (U := U.calling g mk a) rfl hx⟩⟩
/-- the place of a walk that does not move: program, launch, environment, room, start, method, arguments, frames below, method, code, goal -/
abbrev zC : Type := Program × Launch × Env × Room × State × MethodId × Array Value × List Frame × Method × Code × (State → Prop)
def z_Go (Γ : zC) (H : Heap) (locs : List Loc) (cs ss : Nat) (pc : Nat) (ls : Array Slot) (st : List Value) : Prop := match Γ with
  | (p, l, e, R, s, m, args, below, meth, c, Q) => W p l e R s m args below meth c H locs cs ss Q (F0 m pc ls st)
def z_s (Γ : zC) : State := Γ.2.2.2.2.1
def z_c (Γ : zC) : Code := Γ.2.2.2.2.2.2.2.2.2.1
def GW (Γ : zC) (G : zG) (b cs ss : Nat) (M : zM) (pc : Nat) (lv : List (Nat × Value)) (st : List Value) : Prop :=
  ∀ (H : Heap) (locs : List Loc) (ls : Array Slot), z_W G b M H → va_S (fun q => b ≤ q) (z_s Γ).heap H locs → lv_has ls (z_c Γ).maxLocals lv → z_Go Γ H locs cs ss pc ls st
def z_CX (Γ : zC) (G : zG) (b nL : Nat) (cc : ByteArray) (own : String) (rm : Room) : Prop := match Γ with
  | (p, l, _, R, s, m, _, _, meth, c, _) => p.tables.exec = Jvm.exec ∧ c.code = cc ∧ c.maxLocals = nL ∧ s.vm.findClass own = some m.cls ∧ z_TW s ∧ z_K G s ∧ z_X b s ∧ R = rm ∧ meth.locks = false ∧ l.stackTraces = false
section
theorem r_iconst {Γ : zC} {G : zG} {b nL cs ss pc : Nat} {cc : ByteArray} {own : String} {rm : Room} {M : zM} {lv : List (Nat × Value)} {st : List Value} {n : Int} {v : Int32} (X : z_CX Γ G b nL cc own rm) (hv : Int32.ofInt n = v) (hd : decode cc pc = .ok (.iconst n, 1)) (pc' : Nat) (hp : pc + 1 = pc') (k : GW Γ G b cs ss M pc' lv (.int v :: st)) : GW Γ G b cs ss M pc lv (st) := by
  obtain ⟨p, l, e, R, s, m, args, below, meth, c, Q⟩ := Γ
  subst hp
  exact fun H locs ls hW hS hl => lv_iconst X.1 X.2.1 hd hv (k H locs ls hW hS hl)
theorem r_bipush {Γ : zC} {G : zG} {b nL cs ss pc : Nat} {cc : ByteArray} {own : String} {rm : Room} {M : zM} {lv : List (Nat × Value)} {st : List Value} {n : Int} {v : Int32} (X : z_CX Γ G b nL cc own rm) (hv : (Int8.ofInt n).toInt32 = v) (hd : decode cc pc = .ok (.bipush n, 2)) (pc' : Nat) (hp : pc + 2 = pc') (k : GW Γ G b cs ss M pc' lv (.int v :: st)) : GW Γ G b cs ss M pc lv (st) := by
  obtain ⟨p, l, e, R, s, m, args, below, meth, c, Q⟩ := Γ
  subst hp
  exact fun H locs ls hW hS hl => lv_bipush X.1 X.2.1 hd hv (k H locs ls hW hS hl)
theorem r_sipush {Γ : zC} {G : zG} {b nL cs ss pc : Nat} {cc : ByteArray} {own : String} {rm : Room} {M : zM} {lv : List (Nat × Value)} {st : List Value} {n : Int} {v : Int32} (X : z_CX Γ G b nL cc own rm) (hv : (Int16.ofInt n).toInt32 = v) (hd : decode cc pc = .ok (.sipush n, 3)) (pc' : Nat) (hp : pc + 3 = pc') (k : GW Γ G b cs ss M pc' lv (.int v :: st)) : GW Γ G b cs ss M pc lv (st) := by
  obtain ⟨p, l, e, R, s, m, args, below, meth, c, Q⟩ := Γ
  subst hp
  exact fun H locs ls hW hS hl => lv_sipush X.1 X.2.1 hd hv (k H locs ls hW hS hl)
theorem r_null {Γ : zC} {G : zG} {b nL cs ss pc : Nat} {cc : ByteArray} {own : String} {rm : Room} {M : zM} {lv : List (Nat × Value)} {st : List Value}  (X : z_CX Γ G b nL cc own rm)  (hd : decode cc pc = .ok (.aconst_null, 1)) (pc' : Nat) (hp : pc + 1 = pc') (k : GW Γ G b cs ss M pc' lv (.null :: st)) : GW Γ G b cs ss M pc lv (st) := by
  obtain ⟨p, l, e, R, s, m, args, below, meth, c, Q⟩ := Γ
  subst hp
  exact fun H locs ls hW hS hl => lv_null X.1 X.2.1 hd (k H locs ls hW hS hl)
theorem r_iadd {Γ : zC} {G : zG} {b nL cs ss pc : Nat} {cc : ByteArray} {own : String} {rm : Room} {M : zM} {lv : List (Nat × Value)} {st : List Value} {x y : Int32} (X : z_CX Γ G b nL cc own rm)  (hd : decode cc pc = .ok (.iadd, 1)) (pc' : Nat) (hp : pc + 1 = pc') (k : GW Γ G b cs ss M pc' lv (.int (x + y) :: st)) : GW Γ G b cs ss M pc lv (.int y :: .int x :: st) := by
  obtain ⟨p, l, e, R, s, m, args, below, meth, c, Q⟩ := Γ
  subst hp
  exact fun H locs ls hW hS hl => lv_iadd X.1 X.2.1 hd (k H locs ls hW hS hl)
theorem r_isub {Γ : zC} {G : zG} {b nL cs ss pc : Nat} {cc : ByteArray} {own : String} {rm : Room} {M : zM} {lv : List (Nat × Value)} {st : List Value} {x y : Int32} (X : z_CX Γ G b nL cc own rm)  (hd : decode cc pc = .ok (.isub, 1)) (pc' : Nat) (hp : pc + 1 = pc') (k : GW Γ G b cs ss M pc' lv (.int (x - y) :: st)) : GW Γ G b cs ss M pc lv (.int y :: .int x :: st) := by
  obtain ⟨p, l, e, R, s, m, args, below, meth, c, Q⟩ := Γ
  subst hp
  exact fun H locs ls hW hS hl => lv_isub X.1 X.2.1 hd (k H locs ls hW hS hl)
theorem r_imul {Γ : zC} {G : zG} {b nL cs ss pc : Nat} {cc : ByteArray} {own : String} {rm : Room} {M : zM} {lv : List (Nat × Value)} {st : List Value} {x y : Int32} (X : z_CX Γ G b nL cc own rm)  (hd : decode cc pc = .ok (.imul, 1)) (pc' : Nat) (hp : pc + 1 = pc') (k : GW Γ G b cs ss M pc' lv (.int (x * y) :: st)) : GW Γ G b cs ss M pc lv (.int y :: .int x :: st) := by
  obtain ⟨p, l, e, R, s, m, args, below, meth, c, Q⟩ := Γ
  subst hp
  exact fun H locs ls hW hS hl => lv_imul X.1 X.2.1 hd (k H locs ls hW hS hl)
theorem r_iand {Γ : zC} {G : zG} {b nL cs ss pc : Nat} {cc : ByteArray} {own : String} {rm : Room} {M : zM} {lv : List (Nat × Value)} {st : List Value} {x y : Int32} (X : z_CX Γ G b nL cc own rm)  (hd : decode cc pc = .ok (.iand, 1)) (pc' : Nat) (hp : pc + 1 = pc') (k : GW Γ G b cs ss M pc' lv (.int (x &&& y) :: st)) : GW Γ G b cs ss M pc lv (.int y :: .int x :: st) := by
  obtain ⟨p, l, e, R, s, m, args, below, meth, c, Q⟩ := Γ
  subst hp
  exact fun H locs ls hW hS hl => lv_iand X.1 X.2.1 hd (k H locs ls hW hS hl)
theorem r_idiv {Γ : zC} {G : zG} {b nL cs ss pc : Nat} {cc : ByteArray} {own : String} {rm : Room} {M : zM} {lv : List (Nat × Value)} {st : List Value} {x y : Int32} (X : z_CX Γ G b nL cc own rm) (hne : ¬ y = 0) (hd : decode cc pc = .ok (.idiv, 1)) (pc' : Nat) (hp : pc + 1 = pc') (k : GW Γ G b cs ss M pc' lv (.int (x / y) :: st)) : GW Γ G b cs ss M pc lv (.int y :: .int x :: st) := by
  obtain ⟨p, l, e, R, s, m, args, below, meth, c, Q⟩ := Γ
  subst hp
  exact fun H locs ls hW hS hl => lv_idiv X.1 X.2.1 hd hne (k H locs ls hW hS hl)
theorem r_irem {Γ : zC} {G : zG} {b nL cs ss pc : Nat} {cc : ByteArray} {own : String} {rm : Room} {M : zM} {lv : List (Nat × Value)} {st : List Value} {x y : Int32} (X : z_CX Γ G b nL cc own rm) (hne : ¬ y = 0) (hd : decode cc pc = .ok (.irem, 1)) (pc' : Nat) (hp : pc + 1 = pc') (k : GW Γ G b cs ss M pc' lv (.int (x - x / y * y) :: st)) : GW Γ G b cs ss M pc lv (.int y :: .int x :: st) := by
  obtain ⟨p, l, e, R, s, m, args, below, meth, c, Q⟩ := Γ
  subst hp
  exact fun H locs ls hW hS hl => lv_irem X.1 X.2.1 hd hne (k H locs ls hW hS hl)
theorem r_ineg {Γ : zC} {G : zG} {b nL cs ss pc : Nat} {cc : ByteArray} {own : String} {rm : Room} {M : zM} {lv : List (Nat × Value)} {st : List Value} {x : Int32} (X : z_CX Γ G b nL cc own rm)  (hd : decode cc pc = .ok (.ineg, 1)) (pc' : Nat) (hp : pc + 1 = pc') (k : GW Γ G b cs ss M pc' lv (.int (-x) :: st)) : GW Γ G b cs ss M pc lv (.int x :: st) := by
  obtain ⟨p, l, e, R, s, m, args, below, meth, c, Q⟩ := Γ
  subst hp
  exact fun H locs ls hW hS hl => lv_ineg X.1 X.2.1 hd (k H locs ls hW hS hl)
theorem r_i2l {Γ : zC} {G : zG} {b nL cs ss pc : Nat} {cc : ByteArray} {own : String} {rm : Room} {M : zM} {lv : List (Nat × Value)} {st : List Value} {x : Int32} (X : z_CX Γ G b nL cc own rm)  (hd : decode cc pc = .ok (.i2l, 1)) (pc' : Nat) (hp : pc + 1 = pc') (k : GW Γ G b cs ss M pc' lv (.long x.toInt64 :: st)) : GW Γ G b cs ss M pc lv (.int x :: st) := by
  obtain ⟨p, l, e, R, s, m, args, below, meth, c, Q⟩ := Γ
  subst hp
  exact fun H locs ls hW hS hl => lv_i2l X.1 X.2.1 hd rfl (k H locs ls hW hS hl)
theorem r_lcmp {Γ : zC} {G : zG} {b nL cs ss pc : Nat} {cc : ByteArray} {own : String} {rm : Room} {M : zM} {lv : List (Nat × Value)} {st : List Value} {x y : Int64} (X : z_CX Γ G b nL cc own rm)  (hd : decode cc pc = .ok (.lcmp, 1)) (pc' : Nat) (hp : pc + 1 = pc') (k : GW Γ G b cs ss M pc' lv (.int (lg_cmp x y) :: st)) : GW Γ G b cs ss M pc lv (.long y :: .long x :: st) := by
  obtain ⟨p, l, e, R, s, m, args, below, meth, c, Q⟩ := Γ
  subst hp
  exact fun H locs ls hW hS hl => W.lcmp X.1 X.2.1 hd (k H locs ls hW hS hl)
theorem r_dup {Γ : zC} {G : zG} {b nL cs ss pc : Nat} {cc : ByteArray} {own : String} {rm : Room} {M : zM} {lv : List (Nat × Value)} {st : List Value} {v : Value} (X : z_CX Γ G b nL cc own rm) (hv : v.category = 1) (hd : decode cc pc = .ok (.dup, 1)) (pc' : Nat) (hp : pc + 1 = pc') (k : GW Γ G b cs ss M pc' lv (v :: v :: st)) : GW Γ G b cs ss M pc lv (v :: st) := by
  obtain ⟨p, l, e, R, s, m, args, below, meth, c, Q⟩ := Γ
  subst hp
  exact fun H locs ls hW hS hl => lv_dup X.1 X.2.1 hd hv (k H locs ls hW hS hl)
theorem r_dup2 {Γ : zC} {G : zG} {b nL cs ss pc : Nat} {cc : ByteArray} {own : String} {rm : Room} {M : zM} {lv : List (Nat × Value)} {st : List Value} {v w : Value} (X : z_CX Γ G b nL cc own rm) (hv : v.category = 1) (hw : w.category = 1) (hd : decode cc pc = .ok (.dup2, 1)) (pc' : Nat) (hp : pc + 1 = pc') (k : GW Γ G b cs ss M pc' lv (v :: w :: v :: w :: st)) : GW Γ G b cs ss M pc lv (v :: w :: st) := by
  obtain ⟨p, l, e, R, s, m, args, below, meth, c, Q⟩ := Γ
  subst hp
  exact fun H locs ls hW hS hl => lv_dup2_11 X.1 X.2.1 hd hv hw (k H locs ls hW hS hl)
theorem r_pop {Γ : zC} {G : zG} {b nL cs ss pc : Nat} {cc : ByteArray} {own : String} {rm : Room} {M : zM} {lv : List (Nat × Value)} {st : List Value} {v : Value} (X : z_CX Γ G b nL cc own rm) (hv : v.category = 1) (hd : decode cc pc = .ok (.pop, 1)) (pc' : Nat) (hp : pc + 1 = pc') (k : GW Γ G b cs ss M pc' lv (st)) : GW Γ G b cs ss M pc lv (v :: st) := by
  obtain ⟨p, l, e, R, s, m, args, below, meth, c, Q⟩ := Γ
  subst hp
  exact fun H locs ls hW hS hl => lv_pop X.1 X.2.1 hd hv (k H locs ls hW hS hl)
theorem r_iload_n {Γ : zC} {G : zG} {b nL cs ss pc : Nat} {cc : ByteArray} {own : String} {rm : Room} {M : zM} {lv : List (Nat × Value)} {st : List Value} {f : Fin 4} {x : Int32} (X : z_CX Γ G b nL cc own rm) (n : Nat) (hn : lv[n]? = some ((f : Nat), .int x)) (hd : decode cc pc = .ok (.iload_n f, 1)) (pc' : Nat) (hp : pc + 1 = pc') (k : GW Γ G b cs ss M pc' lv (.int x :: st)) : GW Γ G b cs ss M pc lv (st) := by
  obtain ⟨p, l, e, R, s, m, args, below, meth, c, Q⟩ := Γ
  subst hp
  exact fun H locs ls hW hS hl => lv_iload_n X.1 X.2.1 hd rfl (lv_at hl n hn) (k H locs ls hW hS hl)
theorem r_iload {Γ : zC} {G : zG} {b nL cs ss pc : Nat} {cc : ByteArray} {own : String} {rm : Room} {M : zM} {lv : List (Nat × Value)} {st : List Value} {i : Nat} {x : Int32} (X : z_CX Γ G b nL cc own rm) (n : Nat) (hn : lv[n]? = some (i, .int x)) (hd : decode cc pc = .ok (.iload i, 2)) (pc' : Nat) (hp : pc + 2 = pc') (k : GW Γ G b cs ss M pc' lv (.int x :: st)) : GW Γ G b cs ss M pc lv (st) := by
  obtain ⟨p, l, e, R, s, m, args, below, meth, c, Q⟩ := Γ
  subst hp
  exact fun H locs ls hW hS hl => lv_iload X.1 X.2.1 hd (lv_at hl n hn) (k H locs ls hW hS hl)
theorem r_istore_n {Γ : zC} {G : zG} {b nL cs ss pc : Nat} {cc : ByteArray} {own : String} {rm : Room} {M : zM} {lv : List (Nat × Value)} {st : List Value} {f : Fin 4} {x : Int32} (X : z_CX Γ G b nL cc own rm) (hd : decode cc pc = .ok (.istore_n f, 1)) (pc' : Nat) (hp : pc + 1 = pc') (lv' : List (Nat × Value)) (hi : (f : Nat) < nL) (ks : List Nat) (hv : lv_pick (((f : Nat), Value.int x) :: lv.filter (fun q => !(q.1 == (f : Nat)) && !(q.1 + 1 == (f : Nat) && q.2.category == 2))) ks = lv') (k : GW Γ G b cs ss M pc' lv' st) : GW Γ G b cs ss M pc lv (.int x :: st) := by
  obtain ⟨p, l, e, R, s, m, args, below, meth, c, Q⟩ := Γ
  subst hp
  exact fun H locs ls hW hS hl => lv_istore_n X.1 X.2.1 hd rfl hl (Nat.lt_of_lt_of_eq hi (X.2.2.1).symm) rfl (fun ls' hl' => k H locs ls' hW hS (lv_sub hl' ks hv))
theorem r_istore {Γ : zC} {G : zG} {b nL cs ss pc : Nat} {cc : ByteArray} {own : String} {rm : Room} {M : zM} {lv : List (Nat × Value)} {st : List Value} {i : Nat} {x : Int32} (X : z_CX Γ G b nL cc own rm) (hd : decode cc pc = .ok (.istore i, 2)) (pc' : Nat) (hp : pc + 2 = pc') (lv' : List (Nat × Value)) (hi : i < nL) (ks : List Nat) (hv : lv_pick ((i, Value.int x) :: lv.filter (fun q => !(q.1 == i) && !(q.1 + 1 == i && q.2.category == 2))) ks = lv') (k : GW Γ G b cs ss M pc' lv' st) : GW Γ G b cs ss M pc lv (.int x :: st) := by
  obtain ⟨p, l, e, R, s, m, args, below, meth, c, Q⟩ := Γ
  subst hp
  exact fun H locs ls hW hS hl => lv_istore X.1 X.2.1 hd hl (Nat.lt_of_lt_of_eq hi (X.2.2.1).symm) rfl (fun ls' hl' => k H locs ls' hW hS (lv_sub hl' ks hv))
theorem r_aload_n {Γ : zC} {G : zG} {b nL cs ss pc : Nat} {cc : ByteArray} {own : String} {rm : Room} {M : zM} {lv : List (Nat × Value)} {st : List Value} {f : Fin 4} {x : Nat} (X : z_CX Γ G b nL cc own rm) (n : Nat) (hn : lv[n]? = some ((f : Nat), .ref x)) (hd : decode cc pc = .ok (.aload_n f, 1)) (pc' : Nat) (hp : pc + 1 = pc') (k : GW Γ G b cs ss M pc' lv (.ref x :: st)) : GW Γ G b cs ss M pc lv (st) := by
  obtain ⟨p, l, e, R, s, m, args, below, meth, c, Q⟩ := Γ
  subst hp
  exact fun H locs ls hW hS hl => lv_aload_n X.1 X.2.1 hd rfl (lv_at hl n hn) (k H locs ls hW hS hl)
theorem r_aload {Γ : zC} {G : zG} {b nL cs ss pc : Nat} {cc : ByteArray} {own : String} {rm : Room} {M : zM} {lv : List (Nat × Value)} {st : List Value} {i : Nat} {x : Nat} (X : z_CX Γ G b nL cc own rm) (n : Nat) (hn : lv[n]? = some (i, .ref x)) (hd : decode cc pc = .ok (.aload i, 2)) (pc' : Nat) (hp : pc + 2 = pc') (k : GW Γ G b cs ss M pc' lv (.ref x :: st)) : GW Γ G b cs ss M pc lv (st) := by
  obtain ⟨p, l, e, R, s, m, args, below, meth, c, Q⟩ := Γ
  subst hp
  exact fun H locs ls hW hS hl => lv_aload X.1 X.2.1 hd (lv_at hl n hn) (k H locs ls hW hS hl)
theorem r_astore_n {Γ : zC} {G : zG} {b nL cs ss pc : Nat} {cc : ByteArray} {own : String} {rm : Room} {M : zM} {lv : List (Nat × Value)} {st : List Value} {f : Fin 4} {x : Nat} (X : z_CX Γ G b nL cc own rm) (hd : decode cc pc = .ok (.astore_n f, 1)) (pc' : Nat) (hp : pc + 1 = pc') (lv' : List (Nat × Value)) (hi : (f : Nat) < nL) (ks : List Nat) (hv : lv_pick (((f : Nat), Value.ref x) :: lv.filter (fun q => !(q.1 == (f : Nat)) && !(q.1 + 1 == (f : Nat) && q.2.category == 2))) ks = lv') (k : GW Γ G b cs ss M pc' lv' st) : GW Γ G b cs ss M pc lv (.ref x :: st) := by
  obtain ⟨p, l, e, R, s, m, args, below, meth, c, Q⟩ := Γ
  subst hp
  exact fun H locs ls hW hS hl => lv_astore_n X.1 X.2.1 hd rfl hl (Nat.lt_of_lt_of_eq hi (X.2.2.1).symm) rfl (fun ls' hl' => k H locs ls' hW hS (lv_sub hl' ks hv))
theorem r_astore {Γ : zC} {G : zG} {b nL cs ss pc : Nat} {cc : ByteArray} {own : String} {rm : Room} {M : zM} {lv : List (Nat × Value)} {st : List Value} {i : Nat} {x : Nat} (X : z_CX Γ G b nL cc own rm) (hd : decode cc pc = .ok (.astore i, 2)) (pc' : Nat) (hp : pc + 2 = pc') (lv' : List (Nat × Value)) (hi : i < nL) (ks : List Nat) (hv : lv_pick ((i, Value.ref x) :: lv.filter (fun q => !(q.1 == i) && !(q.1 + 1 == i && q.2.category == 2))) ks = lv') (k : GW Γ G b cs ss M pc' lv' st) : GW Γ G b cs ss M pc lv (.ref x :: st) := by
  obtain ⟨p, l, e, R, s, m, args, below, meth, c, Q⟩ := Γ
  subst hp
  exact fun H locs ls hW hS hl => lv_astore X.1 X.2.1 hd hl (Nat.lt_of_lt_of_eq hi (X.2.2.1).symm) rfl (fun ls' hl' => k H locs ls' hW hS (lv_sub hl' ks hv))
theorem r_iinc {Γ : zC} {G : zG} {b nL cs ss pc : Nat} {cc : ByteArray} {own : String} {rm : Room} {M : zM} {lv : List (Nat × Value)} {st : List Value} {i : Nat} {n : Int} {x : Int32} (X : z_CX Γ G b nL cc own rm) (hd : decode cc pc = .ok (.iinc i n, 3)) (pc' : Nat) (hp : pc + 3 = pc') (lv' : List (Nat × Value)) (hi : i < nL) (j : Nat) (hj : lv[j]? = some (i, .int x)) (v : Int32) (hx : x + Int32.ofInt n = v) (ks : List Nat) (hv : lv_pick ((i, Value.int v) :: lv.filter (fun q => !(q.1 == i) && !(q.1 + 1 == i && q.2.category == 2))) ks = lv') (k : GW Γ G b cs ss M pc' lv' st) : GW Γ G b cs ss M pc lv st := by
  obtain ⟨p, l, e, R, s, m, args, below, meth, c, Q⟩ := Γ
  subst hp
  exact fun H locs ls hW hS hl => lv_iinc X.1 X.2.1 hd hl hj hx (Nat.lt_of_lt_of_eq hi (X.2.2.1).symm) rfl (fun ls' hl' => k H locs ls' hW hS (lv_sub hl' ks hv))
theorem r_sub {Γ : zC} {G : zG} {b cs ss pc : Nat} {M : zM} {lv : List (Nat × Value)} {st : List Value} (lv' : List (Nat × Value)) (ks : List Nat) (hv : lv_pick lv ks = lv') (k : GW Γ G b cs ss M pc lv' st) : GW Γ G b cs ss M pc lv st := fun H locs ls hW hS hl => k H locs ls hW hS (lv_sub hl ks hv)
theorem r_if_eq {Γ : zC} {G : zG} {b nL cs ss pc : Nat} {cc : ByteArray} {own : String} {rm : Room} {M : zM} {lv : List (Nat × Value)} {st : List Value} {x : Int32} {off : Int} (X : z_CX Γ G b nL cc own rm) (hd : decode cc pc = .ok (.ifCond .eq off, 3)) (tgt : Nat) (ht : (pc : Int) + off = (tgt : Int)) (pc' : Nat) (hp : pc + 3 = pc') (kt : x = 0 → GW Γ G b cs ss M tgt lv st) (kf : ¬ (x = 0) → GW Γ G b cs ss M pc' lv st) : GW Γ G b cs ss M pc lv (.int x :: st) := by
  obtain ⟨p, l, e, R, s, m, args, below, meth, c, Q⟩ := Γ
  subst hp
  exact fun H locs ls hW hS hl => lv_if_eq X.1 X.2.1 hd ht (fun q => kt q H locs ls hW hS hl) (fun q => kf q H locs ls hW hS hl)
theorem r_if_ne {Γ : zC} {G : zG} {b nL cs ss pc : Nat} {cc : ByteArray} {own : String} {rm : Room} {M : zM} {lv : List (Nat × Value)} {st : List Value} {x : Int32} {off : Int} (X : z_CX Γ G b nL cc own rm) (hd : decode cc pc = .ok (.ifCond .ne off, 3)) (tgt : Nat) (ht : (pc : Int) + off = (tgt : Int)) (pc' : Nat) (hp : pc + 3 = pc') (kt : ¬ x = 0 → GW Γ G b cs ss M tgt lv st) (kf : x = 0 → GW Γ G b cs ss M pc' lv st) : GW Γ G b cs ss M pc lv (.int x :: st) := by
  obtain ⟨p, l, e, R, s, m, args, below, meth, c, Q⟩ := Γ
  subst hp
  exact fun H locs ls hW hS hl => lv_if_ne X.1 X.2.1 hd ht (fun q => kt q H locs ls hW hS hl) (fun q => kf q H locs ls hW hS hl)
theorem r_if_lt {Γ : zC} {G : zG} {b nL cs ss pc : Nat} {cc : ByteArray} {own : String} {rm : Room} {M : zM} {lv : List (Nat × Value)} {st : List Value} {x : Int32} {off : Int} (X : z_CX Γ G b nL cc own rm) (hd : decode cc pc = .ok (.ifCond .lt off, 3)) (tgt : Nat) (ht : (pc : Int) + off = (tgt : Int)) (pc' : Nat) (hp : pc + 3 = pc') (kt : x < 0 → GW Γ G b cs ss M tgt lv st) (kf : ¬ (x < 0) → GW Γ G b cs ss M pc' lv st) : GW Γ G b cs ss M pc lv (.int x :: st) := by
  obtain ⟨p, l, e, R, s, m, args, below, meth, c, Q⟩ := Γ
  subst hp
  exact fun H locs ls hW hS hl => lv_if_lt X.1 X.2.1 hd ht (fun q => kt q H locs ls hW hS hl) (fun q => kf q H locs ls hW hS hl)
theorem r_if_ge {Γ : zC} {G : zG} {b nL cs ss pc : Nat} {cc : ByteArray} {own : String} {rm : Room} {M : zM} {lv : List (Nat × Value)} {st : List Value} {x : Int32} {off : Int} (X : z_CX Γ G b nL cc own rm) (hd : decode cc pc = .ok (.ifCond .ge off, 3)) (tgt : Nat) (ht : (pc : Int) + off = (tgt : Int)) (pc' : Nat) (hp : pc + 3 = pc') (kt : 0 ≤ x → GW Γ G b cs ss M tgt lv st) (kf : ¬ (0 ≤ x) → GW Γ G b cs ss M pc' lv st) : GW Γ G b cs ss M pc lv (.int x :: st) := by
  obtain ⟨p, l, e, R, s, m, args, below, meth, c, Q⟩ := Γ
  subst hp
  exact fun H locs ls hW hS hl => lv_if_ge X.1 X.2.1 hd ht (fun q => kt q H locs ls hW hS hl) (fun q => kf q H locs ls hW hS hl)
theorem r_if_gt {Γ : zC} {G : zG} {b nL cs ss pc : Nat} {cc : ByteArray} {own : String} {rm : Room} {M : zM} {lv : List (Nat × Value)} {st : List Value} {x : Int32} {off : Int} (X : z_CX Γ G b nL cc own rm) (hd : decode cc pc = .ok (.ifCond .gt off, 3)) (tgt : Nat) (ht : (pc : Int) + off = (tgt : Int)) (pc' : Nat) (hp : pc + 3 = pc') (kt : 0 < x → GW Γ G b cs ss M tgt lv st) (kf : ¬ (0 < x) → GW Γ G b cs ss M pc' lv st) : GW Γ G b cs ss M pc lv (.int x :: st) := by
  obtain ⟨p, l, e, R, s, m, args, below, meth, c, Q⟩ := Γ
  subst hp
  exact fun H locs ls hW hS hl => lv_if_gt X.1 X.2.1 hd ht (fun q => kt q H locs ls hW hS hl) (fun q => kf q H locs ls hW hS hl)
theorem r_if_le {Γ : zC} {G : zG} {b nL cs ss pc : Nat} {cc : ByteArray} {own : String} {rm : Room} {M : zM} {lv : List (Nat × Value)} {st : List Value} {x : Int32} {off : Int} (X : z_CX Γ G b nL cc own rm) (hd : decode cc pc = .ok (.ifCond .le off, 3)) (tgt : Nat) (ht : (pc : Int) + off = (tgt : Int)) (pc' : Nat) (hp : pc + 3 = pc') (kt : x ≤ 0 → GW Γ G b cs ss M tgt lv st) (kf : ¬ (x ≤ 0) → GW Γ G b cs ss M pc' lv st) : GW Γ G b cs ss M pc lv (.int x :: st) := by
  obtain ⟨p, l, e, R, s, m, args, below, meth, c, Q⟩ := Γ
  subst hp
  exact fun H locs ls hW hS hl => lv_if_le X.1 X.2.1 hd ht (fun q => kt q H locs ls hW hS hl) (fun q => kf q H locs ls hW hS hl)
theorem r_icmp_eq {Γ : zC} {G : zG} {b nL cs ss pc : Nat} {cc : ByteArray} {own : String} {rm : Room} {M : zM} {lv : List (Nat × Value)} {st : List Value} {x y : Int32} {off : Int} (X : z_CX Γ G b nL cc own rm) (hd : decode cc pc = .ok (.if_icmp .eq off, 3)) (tgt : Nat) (ht : (pc : Int) + off = (tgt : Int)) (pc' : Nat) (hp : pc + 3 = pc') (kt : x = y → GW Γ G b cs ss M tgt lv st) (kf : ¬ (x = y) → GW Γ G b cs ss M pc' lv st) : GW Γ G b cs ss M pc lv (.int y :: .int x :: st) := by
  obtain ⟨p, l, e, R, s, m, args, below, meth, c, Q⟩ := Γ
  subst hp
  exact fun H locs ls hW hS hl => lv_icmp_eq X.1 X.2.1 hd ht (fun q => kt q H locs ls hW hS hl) (fun q => kf q H locs ls hW hS hl)
theorem r_icmp_ne {Γ : zC} {G : zG} {b nL cs ss pc : Nat} {cc : ByteArray} {own : String} {rm : Room} {M : zM} {lv : List (Nat × Value)} {st : List Value} {x y : Int32} {off : Int} (X : z_CX Γ G b nL cc own rm) (hd : decode cc pc = .ok (.if_icmp .ne off, 3)) (tgt : Nat) (ht : (pc : Int) + off = (tgt : Int)) (pc' : Nat) (hp : pc + 3 = pc') (kt : ¬ x = y → GW Γ G b cs ss M tgt lv st) (kf : x = y → GW Γ G b cs ss M pc' lv st) : GW Γ G b cs ss M pc lv (.int y :: .int x :: st) := by
  obtain ⟨p, l, e, R, s, m, args, below, meth, c, Q⟩ := Γ
  subst hp
  exact fun H locs ls hW hS hl => lv_icmp_ne X.1 X.2.1 hd ht (fun q => kt q H locs ls hW hS hl) (fun q => kf q H locs ls hW hS hl)
theorem r_icmp_lt {Γ : zC} {G : zG} {b nL cs ss pc : Nat} {cc : ByteArray} {own : String} {rm : Room} {M : zM} {lv : List (Nat × Value)} {st : List Value} {x y : Int32} {off : Int} (X : z_CX Γ G b nL cc own rm) (hd : decode cc pc = .ok (.if_icmp .lt off, 3)) (tgt : Nat) (ht : (pc : Int) + off = (tgt : Int)) (pc' : Nat) (hp : pc + 3 = pc') (kt : x < y → GW Γ G b cs ss M tgt lv st) (kf : ¬ (x < y) → GW Γ G b cs ss M pc' lv st) : GW Γ G b cs ss M pc lv (.int y :: .int x :: st) := by
  obtain ⟨p, l, e, R, s, m, args, below, meth, c, Q⟩ := Γ
  subst hp
  exact fun H locs ls hW hS hl => lv_icmp_lt X.1 X.2.1 hd ht (fun q => kt q H locs ls hW hS hl) (fun q => kf q H locs ls hW hS hl)
theorem r_icmp_ge {Γ : zC} {G : zG} {b nL cs ss pc : Nat} {cc : ByteArray} {own : String} {rm : Room} {M : zM} {lv : List (Nat × Value)} {st : List Value} {x y : Int32} {off : Int} (X : z_CX Γ G b nL cc own rm) (hd : decode cc pc = .ok (.if_icmp .ge off, 3)) (tgt : Nat) (ht : (pc : Int) + off = (tgt : Int)) (pc' : Nat) (hp : pc + 3 = pc') (kt : y ≤ x → GW Γ G b cs ss M tgt lv st) (kf : ¬ (y ≤ x) → GW Γ G b cs ss M pc' lv st) : GW Γ G b cs ss M pc lv (.int y :: .int x :: st) := by
  obtain ⟨p, l, e, R, s, m, args, below, meth, c, Q⟩ := Γ
  subst hp
  exact fun H locs ls hW hS hl => lv_icmp_ge X.1 X.2.1 hd ht (fun q => kt q H locs ls hW hS hl) (fun q => kf q H locs ls hW hS hl)
theorem r_icmp_gt {Γ : zC} {G : zG} {b nL cs ss pc : Nat} {cc : ByteArray} {own : String} {rm : Room} {M : zM} {lv : List (Nat × Value)} {st : List Value} {x y : Int32} {off : Int} (X : z_CX Γ G b nL cc own rm) (hd : decode cc pc = .ok (.if_icmp .gt off, 3)) (tgt : Nat) (ht : (pc : Int) + off = (tgt : Int)) (pc' : Nat) (hp : pc + 3 = pc') (kt : y < x → GW Γ G b cs ss M tgt lv st) (kf : ¬ (y < x) → GW Γ G b cs ss M pc' lv st) : GW Γ G b cs ss M pc lv (.int y :: .int x :: st) := by
  obtain ⟨p, l, e, R, s, m, args, below, meth, c, Q⟩ := Γ
  subst hp
  exact fun H locs ls hW hS hl => lv_icmp_gt X.1 X.2.1 hd ht (fun q => kt q H locs ls hW hS hl) (fun q => kf q H locs ls hW hS hl)
theorem r_icmp_le {Γ : zC} {G : zG} {b nL cs ss pc : Nat} {cc : ByteArray} {own : String} {rm : Room} {M : zM} {lv : List (Nat × Value)} {st : List Value} {x y : Int32} {off : Int} (X : z_CX Γ G b nL cc own rm) (hd : decode cc pc = .ok (.if_icmp .le off, 3)) (tgt : Nat) (ht : (pc : Int) + off = (tgt : Int)) (pc' : Nat) (hp : pc + 3 = pc') (kt : x ≤ y → GW Γ G b cs ss M tgt lv st) (kf : ¬ (x ≤ y) → GW Γ G b cs ss M pc' lv st) : GW Γ G b cs ss M pc lv (.int y :: .int x :: st) := by
  obtain ⟨p, l, e, R, s, m, args, below, meth, c, Q⟩ := Γ
  subst hp
  exact fun H locs ls hW hS hl => lv_icmp_le X.1 X.2.1 hd ht (fun q => kt q H locs ls hW hS hl) (fun q => kf q H locs ls hW hS hl)
theorem r_goto {Γ : zC} {G : zG} {b nL cs ss pc : Nat} {cc : ByteArray} {own : String} {rm : Room} {M : zM} {lv : List (Nat × Value)} {st : List Value} {off : Int} (X : z_CX Γ G b nL cc own rm) (hd : decode cc pc = .ok (.goto off, 3)) (tgt : Nat) (ht : (pc : Int) + off = (tgt : Int)) (k : GW Γ G b cs ss M tgt lv st) : GW Γ G b cs ss M pc lv st := by
  obtain ⟨p, l, e, R, s, m, args, below, meth, c, Q⟩ := Γ
  exact fun H locs ls hW hS hl => lv_goto X.1 X.2.1 hd ht (k H locs ls hW hS hl)
theorem r_ifnull_r {Γ : zC} {G : zG} {b nL cs ss pc : Nat} {cc : ByteArray} {own : String} {rm : Room} {M : zM} {lv : List (Nat × Value)} {st : List Value} {x : Nat} {off : Int} (X : z_CX Γ G b nL cc own rm) (hd : decode cc pc = .ok (.ifnull off, 3)) (pc' : Nat) (hp : pc + 3 = pc') (k : GW Γ G b cs ss M pc' lv st) : GW Γ G b cs ss M pc lv (.ref x :: st) := by
  obtain ⟨p, l, e, R, s, m, args, below, meth, c, Q⟩ := Γ
  subst hp
  exact fun H locs ls hW hS hl => lv_ifnull X.1 X.2.1 hd (k H locs ls hW hS hl)
theorem r_ifnull_n {Γ : zC} {G : zG} {b nL cs ss pc : Nat} {cc : ByteArray} {own : String} {rm : Room} {M : zM} {lv : List (Nat × Value)} {st : List Value}  {off : Int} (X : z_CX Γ G b nL cc own rm) (hd : decode cc pc = .ok (.ifnull off, 3)) (tgt : Nat) (ht : (pc : Int) + off = (tgt : Int)) (k : GW Γ G b cs ss M tgt lv st) : GW Γ G b cs ss M pc lv (.null :: st) := by
  obtain ⟨p, l, e, R, s, m, args, below, meth, c, Q⟩ := Γ
  exact fun H locs ls hW hS hl => lv_ifnullN X.1 X.2.1 hd ht (k H locs ls hW hS hl)
theorem r_ifnonnull_r {Γ : zC} {G : zG} {b nL cs ss pc : Nat} {cc : ByteArray} {own : String} {rm : Room} {M : zM} {lv : List (Nat × Value)} {st : List Value} {x : Nat} {off : Int} (X : z_CX Γ G b nL cc own rm) (hd : decode cc pc = .ok (.ifnonnull off, 3)) (tgt : Nat) (ht : (pc : Int) + off = (tgt : Int)) (k : GW Γ G b cs ss M tgt lv st) : GW Γ G b cs ss M pc lv (.ref x :: st) := by
  obtain ⟨p, l, e, R, s, m, args, below, meth, c, Q⟩ := Γ
  exact fun H locs ls hW hS hl => lv_ifnonnull X.1 X.2.1 hd ht (k H locs ls hW hS hl)
theorem r_ifnonnull_n {Γ : zC} {G : zG} {b nL cs ss pc : Nat} {cc : ByteArray} {own : String} {rm : Room} {M : zM} {lv : List (Nat × Value)} {st : List Value}  {off : Int} (X : z_CX Γ G b nL cc own rm) (hd : decode cc pc = .ok (.ifnonnull off, 3)) (pc' : Nat) (hp : pc + 3 = pc') (k : GW Γ G b cs ss M pc' lv st) : GW Γ G b cs ss M pc lv (.null :: st) := by
  obtain ⟨p, l, e, R, s, m, args, below, meth, c, Q⟩ := Γ
  subst hp
  exact fun H locs ls hW hS hl => lv_ifnonnullN X.1 X.2.1 hd (k H locs ls hW hS hl)
end
/-! ===== the cells read and written ===== -/
theorem z_lt {a : Nat} (ha : (a == 99) = false) {k : Nat} (hk : z_kd k = a) : k < 176 := (z_all (P := fun _ => true) (by simp) ha hk).1
theorem z_ent_o {G : zG} {b : Nat} {M : zM} {k c : Nat} (hk : z_kd k = c) (hc : c < 8) : z_ent G b M k = .inr (c, z_fl c b k (M k)) := by
  unfold z_ent
  rw [hk, if_pos hc]
theorem z_ent_a {G : zG} {b : Nat} {M : zM} {k c : Nat} (hk : z_kd k = c) (hc : ¬ c < 8) : z_ent G b M k = .inl (G.2.2 c, z_ar c b (z_ln k) k (M k)) := by
  unfold z_ent
  rw [hk, if_neg hc]
theorem z_st_same (M : zM) (k j : Nat) (v : Int32) : z_st M k j v k = upd (M k) j v := if_pos rfl
theorem z_st_ne (M : zM) {k a : Nat} (j : Nat) (v : Int32) (h : a ≠ k) : z_st M k j v a = M a := if_neg h
def z_ld (M : zM) (k n : Nat) (i : Int32) : Option Int32 := if i < 0 ∨ n ≤ i.toNatClampNeg then none else some (M k i.toNatClampNeg)
def z_lq (c k n : Nat) (i : Int32) : Option Nat := if i < 0 ∨ n ≤ i.toNatClampNeg then none else some (z_rf c k i.toNatClampNeg)
def z_sa (M : zM) (k n : Nat) (i v : Int32) : Option zM := if i < 0 ∨ n ≤ i.toNatClampNeg then none else some (z_st M k i.toNatClampNeg v)
def z_sb (M : zM) (k n : Nat) (i v : Int32) : Option zM := if i < 0 ∨ n ≤ i.toNatClampNeg then none else if v = 0 ∨ v = 1 then some (z_st M k i.toNatClampNeg v) else none
def z_pz (M : zM) (k j : Nat) (v : Int32) : Option zM := if v = 0 ∨ v = 1 then some (z_st M k j v) else none
theorem z_ld_of {M : zM} {k n : Nat} {i x : Int32} (h : z_ld M k n i = some x) : vp_in i n ∧ x = M k i.toNatClampNeg := by
  unfold z_ld at h
  split at h
  · cases h
  · rename_i q
    exact ⟨q, (Option.some.inj h).symm⟩
theorem z_lq_of {c k n : Nat} {i : Int32} {x : Nat} (h : z_lq c k n i = some x) : vp_in i n ∧ x = z_rf c k i.toNatClampNeg := by
  unfold z_lq at h
  split at h
  · cases h
  · rename_i q
    exact ⟨q, (Option.some.inj h).symm⟩
theorem z_sa_of {M M1 : zM} {k n : Nat} {i v : Int32} (h : z_sa M k n i v = some M1) : vp_in i n ∧ M1 = z_st M k i.toNatClampNeg v := by
  unfold z_sa at h
  split at h
  · cases h
  · rename_i q
    exact ⟨q, (Option.some.inj h).symm⟩
theorem z_sb_of {M M1 : zM} {k n : Nat} {i v : Int32} (h : z_sb M k n i v = some M1) : vp_in i n ∧ vp_nar .boolean v = v ∧ M1 = z_st M k i.toNatClampNeg v := by
  unfold z_sb at h
  split at h
  · cases h
  · rename_i q
    split at h
    · rename_i q2
      exact ⟨q, by rcases q2 with rfl | rfl <;> rfl, (Option.some.inj h).symm⟩
    · cases h
theorem z_pz_of {M M1 : zM} {k j : Nat} {v : Int32} (h : z_pz M k j v = some M1) : narrow .boolean (.int v) = .int v ∧ fits .boolean (.int v) = true ∧ M1 = z_st M k j v := by
  unfold z_pz at h
  split at h
  · rename_i q2
    exact ⟨by rcases q2 with rfl | rfl <;> rfl, by rcases q2 with rfl | rfl <;> rfl, (Option.some.inj h).symm⟩
  · cases h
theorem r_get {Γ : zC} {G : zG} {b nL cs ss pc : Nat} {cc : ByteArray} {own : String} {rm : Room} {M : zM} {lv : List (Nat × Value)} {st : List Value} {k c j N idx : Nat} {C ref : String} {T : u_T} {v : Value} (X : z_CX Γ G b nL cc own rm) (hk : z_kd k = c) (hc8 : Nat.blt c 8 = true) (hc : vwCl[c]? = some (C, T, N)) (hin : ∀ w ∈ u_ws C T N, w ∈ z_TB) (hj : Nat.blt j N = true) (hl : Cond.fieldLink own idx ref (T j).2.1 (T j).2.2.1 ∈ z_TB) (href : (T j).1 = ref) (hv : (z_fl c b k (M k))[j]? = some v) (hd : decode cc pc = .ok (.getfield idx, 3)) (pc' : Nat) (hp : pc + 3 = pc') (K : GW Γ G b cs ss M pc' lv (v :: st)) : GW Γ G b cs ss M pc lv (.ref (b + k) :: st) := by
  obtain ⟨p, l, e, R, s, m, args, below, meth, c0, Q⟩ := Γ
  subst hp
  obtain ⟨hx, hb, hml, hown, hT, hK, hX, -⟩ := X
  have hc9 : c < 8 := Nat.le_of_ble_eq_true hc8
  have hlt : k < 176 := z_lt (by cases h9 : (c == 99) with | false => rfl | true => rw [beq_iff_eq.mp h9] at hc9; omega) hk
  exact fun H locs ls hW hS hl9 => va_get (D := (G.1, G.2.1)) (cl := vwCl) (ci := c) (C := C) (T := T) (N := N) hx hb (fun w hw => hT.use hw) hin hown hK (z_WP hW) k ((z_wl_get hlt).trans (by rw [z_ent_o hk hc9])) hc j (Nat.le_of_ble_eq_true hj) (hT.use hl) (fun x h9 => by rw [← href]; exact h9) hv hd (K H locs ls hW hS hl9)
theorem r_getN {Γ : zC} {G : zG} {b nL cs ss pc : Nat} {cc : ByteArray} {own : String} {rm : Room} {M : zM} {lv : List (Nat × Value)} {st : List Value} {k c j N idx : Nat} {C ref host : String} {T : u_T} {v : Value} (X : z_CX Γ G b nL cc own rm) (hk : z_kd k = c) (hc8 : Nat.blt c 8 = true) (hc : vwCl[c]? = some (C, T, N)) (hin : ∀ w ∈ u_ws C T N, w ∈ z_TB) (hj : Nat.blt j N = true) (hl : Cond.fieldLinkNest own idx ref (T j).2.1 (T j).2.2.1 host ∈ z_TB) (href : (T j).1 = ref) (hv : (z_fl c b k (M k))[j]? = some v) (hd : decode cc pc = .ok (.getfield idx, 3)) (pc' : Nat) (hp : pc + 3 = pc') (K : GW Γ G b cs ss M pc' lv (v :: st)) : GW Γ G b cs ss M pc lv (.ref (b + k) :: st) := by
  obtain ⟨p, l, e, R, s, m, args, below, meth, c0, Q⟩ := Γ
  subst hp
  obtain ⟨hx, hb, hml, hown, hT, hK, hX, -⟩ := X
  have hc9 : c < 8 := Nat.le_of_ble_eq_true hc8
  have hlt : k < 176 := z_lt (by cases h9 : (c == 99) with | false => rfl | true => rw [beq_iff_eq.mp h9] at hc9; omega) hk
  exact fun H locs ls hW hS hl9 => va_getN (D := (G.1, G.2.1)) (cl := vwCl) (ci := c) (C := C) (T := T) (N := N) hx hb (fun w hw => hT.use hw) hin hown hK (z_WP hW) k ((z_wl_get hlt).trans (by rw [z_ent_o hk hc9])) hc j (Nat.le_of_ble_eq_true hj) (hT.use hl) (fun x h9 => by rw [← href]; exact h9) hv hd (K H locs ls hW hS hl9)
theorem r_put {Γ : zC} {G : zG} {b nL cs ss pc : Nat} {cc : ByteArray} {own : String} {rm : Room} {M : zM} {lv : List (Nat × Value)} {st : List Value} {k c j N idx : Nat} {C ref : String} {T : u_T} {x : Int32} {ty0 : Nat → FieldType} {ty : FieldType} (X : z_CX Γ G b nL cc own rm) (hk : z_kd k = c) (hc8 : Nat.blt c 8 = true) (hc : vwCl[c]? = some (C, T, N)) (hin : ∀ w ∈ u_ws C T N, w ∈ z_TB) (hj : Nat.blt j N = true) (hl : Cond.fieldLink own idx ref (T j).2.1 (T j).2.2.1 ∈ z_TB) (href : (T j).1 = ref) (hty : ∀ k, k < N → parseFieldDescriptor (T k).2.2.1 = some (ty0 k)) (hnm : ∀ a, a < N → ∀ b, b < N → a ≠ b → (T a).2.1 ≠ (T b).2.1) (hfin : (T j).2.2.2 = false) (htj : ty0 j = ty) (hn : narrow ty (.int x) = .int x) (hfit : fits ty (.int x) = true) (hlen : Nat.blt j (z_fl c b k (M k)).length = true) (hset : (z_fl c b k (M k)).set j (.int x) = z_fl c b k (upd (M k) j x)) {M1 : zM} (hM : z_st M k j x = M1) (hd : decode cc pc = .ok (.putfield idx, 3)) (pc' : Nat) (hp : pc + 3 = pc') (K : GW Γ G b cs ss M1 pc' lv st) : GW Γ G b cs ss M pc lv (.int x :: .ref (b + k) :: st) := by
  obtain ⟨p, l, e, R, s, m, args, below, meth, c0, Q⟩ := Γ
  subst hp
  subst hM
  obtain ⟨hx, hb, hml, hown, hT, hK, hX, -⟩ := X
  have hc9 : c < 8 := Nat.le_of_ble_eq_true hc8
  have hlt : k < 176 := z_lt (by cases h9 : (c == 99) with | false => rfl | true => rw [beq_iff_eq.mp h9] at hc9; omega) hk
  exact fun H locs ls hW hS hl9 => va_put (D := (G.1, G.2.1)) (cl := vwCl) (ci := c) (C := C) (T := T) (N := N) hx hb (fun w hw => hT.use hw) hin ty0 hty hnm hown hK (z_WP hW) z_WD hS k ((z_wl_get hlt).trans (by rw [z_ent_o hk hc9])) hc j (Nat.le_of_ble_eq_true hj) (hT.use hl) (fun x h9 => by rw [← href]; exact h9) hfin ((hty j (Nat.le_of_ble_eq_true hj)).trans (by rw [htj])) hn hfit (Nat.le_of_ble_eq_true hlen) hd (fun H1 locs1 hP1 _ hS1 => K H1 locs1 ls (z_Wset hlt hP1 (by rw [z_ent_o hk hc9, z_st_same, hset]) (fun a ha => z_st_ne M j x ha)) hS1 hl9)
theorem r_putN {Γ : zC} {G : zG} {b nL cs ss pc : Nat} {cc : ByteArray} {own : String} {rm : Room} {M : zM} {lv : List (Nat × Value)} {st : List Value} {k c j N idx : Nat} {C ref host : String} {T : u_T} {x : Int32} {ty0 : Nat → FieldType} {ty : FieldType} (X : z_CX Γ G b nL cc own rm) (hk : z_kd k = c) (hc8 : Nat.blt c 8 = true) (hc : vwCl[c]? = some (C, T, N)) (hin : ∀ w ∈ u_ws C T N, w ∈ z_TB) (hj : Nat.blt j N = true) (hl : Cond.fieldLinkNest own idx ref (T j).2.1 (T j).2.2.1 host ∈ z_TB) (href : (T j).1 = ref) (hty : ∀ k, k < N → parseFieldDescriptor (T k).2.2.1 = some (ty0 k)) (hnm : ∀ a, a < N → ∀ b, b < N → a ≠ b → (T a).2.1 ≠ (T b).2.1) (hfin : (T j).2.2.2 = false) (htj : ty0 j = ty) (hn : narrow ty (.int x) = .int x) (hfit : fits ty (.int x) = true) (hlen : Nat.blt j (z_fl c b k (M k)).length = true) (hset : (z_fl c b k (M k)).set j (.int x) = z_fl c b k (upd (M k) j x)) {M1 : zM} (hM : z_st M k j x = M1) (hd : decode cc pc = .ok (.putfield idx, 3)) (pc' : Nat) (hp : pc + 3 = pc') (K : GW Γ G b cs ss M1 pc' lv st) : GW Γ G b cs ss M pc lv (.int x :: .ref (b + k) :: st) := by
  obtain ⟨p, l, e, R, s, m, args, below, meth, c0, Q⟩ := Γ
  subst hp
  subst hM
  obtain ⟨hx, hb, hml, hown, hT, hK, hX, -⟩ := X
  have hc9 : c < 8 := Nat.le_of_ble_eq_true hc8
  have hlt : k < 176 := z_lt (by cases h9 : (c == 99) with | false => rfl | true => rw [beq_iff_eq.mp h9] at hc9; omega) hk
  exact fun H locs ls hW hS hl9 => va_putN (D := (G.1, G.2.1)) (cl := vwCl) (ci := c) (C := C) (T := T) (N := N) hx hb (fun w hw => hT.use hw) hin ty0 hty hnm hown hK (z_WP hW) z_WD hS k ((z_wl_get hlt).trans (by rw [z_ent_o hk hc9])) hc j (Nat.le_of_ble_eq_true hj) (hT.use hl) (fun x h9 => by rw [← href]; exact h9) hfin ((hty j (Nat.le_of_ble_eq_true hj)).trans (by rw [htj])) hn hfit (Nat.le_of_ble_eq_true hlen) hd (fun H1 locs1 hP1 _ hS1 => K H1 locs1 ls (z_Wset hlt hP1 (by rw [z_ent_o hk hc9, z_st_same, hset]) (fun a ha => z_st_ne M j x ha)) hS1 hl9)
theorem r_iaload {Γ : zC} {G : zG} {b nL cs ss pc : Nat} {cc : ByteArray} {own : String} {rm : Room} {M : zM} {lv : List (Nat × Value)} {st : List Value} {k n : Nat} {i x : Int32} (X : z_CX Γ G b nL cc own rm) (hk : z_kd k = 8) (hn : z_ln k = n) (e9 : z_ld M k n i = some x) (hd : decode cc pc = .ok (.iaload, 1)) (pc' : Nat) (hp : pc + 1 = pc') (K : GW Γ G b cs ss M pc' lv (.int x :: st)) : GW Γ G b cs ss M pc lv (.int i :: .ref (b + k) :: st) := by
  obtain ⟨p, l, e, R, s, m, args, below, meth, c0, Q⟩ := Γ
  subst hp
  obtain ⟨hx, hb, hml, hown, hT, hK, hX, -⟩ := X
  obtain ⟨hin, rfl⟩ := z_ld_of e9
  exact fun H locs ls hW hS hl9 => va_iald (D := (G.1, G.2.1)) (cl := vwCl) (n := n) (f := M k) hx hb hK (z_WP hW) k 0 ((z_wl_get (z_lt rfl hk)).trans (by rw [z_ent_a hk (by decide), hn]; rfl)) rfl hin hd (K H locs ls hW hS hl9)
theorem r_zaload {Γ : zC} {G : zG} {b nL cs ss pc : Nat} {cc : ByteArray} {own : String} {rm : Room} {M : zM} {lv : List (Nat × Value)} {st : List Value} {k n : Nat} {i x : Int32} (X : z_CX Γ G b nL cc own rm) (hk : z_kd k = 9) (hn : z_ln k = n) (e9 : z_ld M k n i = some x) (hd : decode cc pc = .ok (.baload, 1)) (pc' : Nat) (hp : pc + 1 = pc') (K : GW Γ G b cs ss M pc' lv (.int x :: st)) : GW Γ G b cs ss M pc lv (.int i :: .ref (b + k) :: st) := by
  obtain ⟨p, l, e, R, s, m, args, below, meth, c0, Q⟩ := Γ
  subst hp
  obtain ⟨hx, hb, hml, hown, hT, hK, hX, -⟩ := X
  obtain ⟨hin, rfl⟩ := z_ld_of e9
  exact fun H locs ls hW hS hl9 => va_zald (D := (G.1, G.2.1)) (cl := vwCl) (n := n) (f := M k) hx hb hK (z_WP hW) k 1 ((z_wl_get (z_lt rfl hk)).trans (by rw [z_ent_a hk (by decide), hn]; rfl)) rfl hin hd (K H locs ls hW hS hl9)
def z_ldJ (M : zM) (k n : Nat) (i : Int32) : Option Int64 := if i < 0 ∨ n ≤ i.toNatClampNeg then none else some (z_jj (M k) i.toNatClampNeg)
/-- a long written -/
def z_stJ (M : zM) (k j : Nat) (v : Int64) : zM := fun a => if a = k then upd (upd (M k) (2 * j) (z_Jlo v)) (2 * j + 1) (z_Jhi v) else M a
def z_saJ (M : zM) (k n : Nat) (i : Int32) (v : Int64) : Option zM := if i < 0 ∨ n ≤ i.toNatClampNeg then none else some (z_stJ M k i.toNatClampNeg v)
theorem z_ldJ_of {M : zM} {k n : Nat} {i : Int32} {x : Int64} (h : z_ldJ M k n i = some x) : vp_in i n ∧ x = z_jj (M k) i.toNatClampNeg := by
  unfold z_ldJ at h
  split at h
  · cases h
  · rename_i q
    exact ⟨q, (Option.some.inj h).symm⟩
theorem z_saJ_of {M M1 : zM} {k n : Nat} {i : Int32} {v : Int64} (h : z_saJ M k n i v = some M1) : vp_in i n ∧ M1 = z_stJ M k i.toNatClampNeg v := by
  unfold z_saJ at h
  split at h
  · cases h
  · rename_i q
    exact ⟨q, (Option.some.inj h).symm⟩
theorem z_stJ_same (M : zM) (k j : Nat) (v : Int64) : z_stJ M k j v k = upd (upd (M k) (2 * j) (z_Jlo v)) (2 * j + 1) (z_Jhi v) := if_pos rfl
theorem z_stJ_ne (M : zM) {k a : Nat} (j : Nat) (v : Int64) (h : a ≠ k) : z_stJ M k j v a = M a := if_neg h
theorem z_jj_up {f : Nat → Int32} {j q : Nat} {v : Int64} : z_jj (upd (upd f (2 * j) (z_Jlo v)) (2 * j + 1) (z_Jhi v)) q = if q = j then v else z_jj f q := by
  unfold z_jj
  by_cases h : q = j
  · subst h
    rw [if_pos rfl]
    rw [show upd (upd f (2 * q) (z_Jlo v)) (2 * q + 1) (z_Jhi v) (2 * q) = z_Jlo v from (if_neg (by omega)).trans (if_pos rfl), show upd (upd f (2 * q) (z_Jlo v)) (2 * q + 1) (z_Jhi v) (2 * q + 1) = z_Jhi v from if_pos rfl]
    exact z_JJ_of v
  · rw [if_neg h]
    rw [show upd (upd f (2 * j) (z_Jlo v)) (2 * j + 1) (z_Jhi v) (2 * q) = f (2 * q) from (if_neg (by omega)).trans (if_neg (by omega)), show upd (upd f (2 * j) (z_Jlo v)) (2 * j + 1) (z_Jhi v) (2 * q + 1) = f (2 * q + 1) from (if_neg (by omega)).trans (if_neg (by omega))]
theorem z_upJ {f : Nat → Int32} {j : Nat} {v : Int64} : z_jj (upd (upd f (2 * j) (z_Jlo v)) (2 * j + 1) (z_Jhi v)) = vp_updL (z_jj f) j v := by
  funext q
  rw [z_jj_up]
  rfl
theorem r_laload {Γ : zC} {G : zG} {b nL cs ss pc : Nat} {cc : ByteArray} {own : String} {rm : Room} {M : zM} {lv : List (Nat × Value)} {st : List Value} {k n : Nat} {i : Int32} {x : Int64} (X : z_CX Γ G b nL cc own rm) (hk : z_kd k = 10) (hn : z_ln k = n) (e9 : z_ldJ M k n i = some x) (hd : decode cc pc = .ok (.laload, 1)) (pc' : Nat) (hp : pc + 1 = pc') (K : GW Γ G b cs ss M pc' lv (.long x :: st)) : GW Γ G b cs ss M pc lv (.int i :: .ref (b + k) :: st) := by
  obtain ⟨p, l, e, R, s, m, args, below, meth, c0, Q⟩ := Γ
  subst hp
  obtain ⟨hx, hb, hml, hown, hT, hK, hX, -⟩ := X
  obtain ⟨hin, rfl⟩ := z_ldJ_of e9
  exact fun H locs ls hW hS hl9 => va_lald (D := (G.1, G.2.1)) (cl := vwCl) (n := n) (f := z_jj (M k)) hx hb hK (z_WP hW) k 2 ((z_wl_get (z_lt rfl hk)).trans (by rw [z_ent_a hk (by decide), hn]; rfl)) rfl hin hd (K H locs ls hW hS hl9)
theorem r_aaload {Γ : zC} {G : zG} {b nL cs ss pc : Nat} {cc : ByteArray} {own : String} {rm : Room} {M : zM} {lv : List (Nat × Value)} {st : List Value} {k n c r : Nat} {i : Int32} {C : String} (X : z_CX Γ G b nL cc own rm) (hk : z_kd k = c) (hc8 : Nat.blt 10 c = true) (hc : (z_tys G)[c - 8]? = some (G.2.2 c, .object C)) (hn : z_ln k = n) (e9 : z_lq c k n i = some r) (har : z_ar c b n k (M k) = (n, .inr (.inr (.inr (.inr (fun j => some (b + z_rf c k j))))))) (hd : decode cc pc = .ok (.aaload, 1)) (hlt : k < 176) (pc' : Nat) (hp : pc + 1 = pc') (K : GW Γ G b cs ss M pc' lv (.ref (b + r) :: st)) : GW Γ G b cs ss M pc lv (.int i :: .ref (b + k) :: st) := by
  obtain ⟨p, l, e, R, s, m, args, below, meth, c0, Q⟩ := Γ
  subst hp
  obtain ⟨hx, hb, hml, hown, hT, hK, hX, -⟩ := X
  obtain ⟨hin, rfl⟩ := z_lq_of e9
  have hc9 : ¬ c < 8 := by have := Nat.le_of_ble_eq_true hc8; omega
  exact fun H locs ls hW hS hl9 => va_aldq (D := (G.1, G.2.1)) (cl := vwCl) (n := n) (f := fun j => some (b + z_rf c k j)) hx hb hK (z_WP hW) k (c - 8) ((z_wl_get hlt).trans (by rw [z_ent_a hk hc9, hn, har])) hc hin hd (K H locs ls hW hS hl9)
theorem r_iastore {Γ : zC} {G : zG} {b nL cs ss pc : Nat} {cc : ByteArray} {own : String} {rm : Room} {M : zM} {lv : List (Nat × Value)} {st : List Value} {k n : Nat} {i x : Int32} {M1 : zM} (X : z_CX Γ G b nL cc own rm) (hk : z_kd k = 8) (hn : z_ln k = n) (e9 : z_sa M k n i x = some M1) (hd : decode cc pc = .ok (.iastore, 1)) (pc' : Nat) (hp : pc + 1 = pc') (K : GW Γ G b cs ss M1 pc' lv st) : GW Γ G b cs ss M pc lv (.int x :: .int i :: .ref (b + k) :: st) := by
  obtain ⟨p, l, e, R, s, m, args, below, meth, c0, Q⟩ := Γ
  subst hp
  obtain ⟨hx, hb, hml, hown, hT, hK, hX, -⟩ := X
  obtain ⟨hin, rfl⟩ := z_sa_of e9
  have hlt : k < 176 := z_lt rfl hk
  exact fun H locs ls hW hS hl9 => va_iast (D := (G.1, G.2.1)) (cl := vwCl) (n := n) (f := M k) hx hb hK (z_WP hW) z_WD hS k 0 ((z_wl_get hlt).trans (by rw [z_ent_a hk (by decide), hn]; rfl)) rfl hin hd (fun H1 locs1 hP1 _ hS1 => K H1 locs1 ls (z_Wset hlt hP1 (by rw [z_ent_a hk (by decide), z_st_same, hn]; rfl) (fun a ha => z_st_ne M _ x ha)) hS1 hl9)
theorem r_zastore {Γ : zC} {G : zG} {b nL cs ss pc : Nat} {cc : ByteArray} {own : String} {rm : Room} {M : zM} {lv : List (Nat × Value)} {st : List Value} {k n : Nat} {i x : Int32} {M1 : zM} (X : z_CX Γ G b nL cc own rm) (hk : z_kd k = 9) (hn : z_ln k = n) (e9 : z_sb M k n i x = some M1) (hd : decode cc pc = .ok (.bastore, 1)) (pc' : Nat) (hp : pc + 1 = pc') (K : GW Γ G b cs ss M1 pc' lv st) : GW Γ G b cs ss M pc lv (.int x :: .int i :: .ref (b + k) :: st) := by
  obtain ⟨p, l, e, R, s, m, args, below, meth, c0, Q⟩ := Γ
  subst hp
  obtain ⟨hx, hb, hml, hown, hT, hK, hX, -⟩ := X
  obtain ⟨hin, hnar, rfl⟩ := z_sb_of e9
  have hlt : k < 176 := z_lt rfl hk
  exact fun H locs ls hW hS hl9 => va_zast (D := (G.1, G.2.1)) (cl := vwCl) (n := n) (f := M k) hx hb hK (z_WP hW) z_WD hS k 1 ((z_wl_get hlt).trans (by rw [z_ent_a hk (by decide), hn]; rfl)) rfl hin hd (fun H1 locs1 hP1 _ hS1 => K H1 locs1 ls (z_Wset hlt hP1 (by rw [z_ent_a hk (by decide), z_st_same, hn, hnar]; rfl) (fun a ha => z_st_ne M _ x ha)) hS1 hl9)
theorem r_lastore {Γ : zC} {G : zG} {b nL cs ss pc : Nat} {cc : ByteArray} {own : String} {rm : Room} {M : zM} {lv : List (Nat × Value)} {st : List Value} {k n : Nat} {i : Int32} {x : Int64} {M1 : zM} (X : z_CX Γ G b nL cc own rm) (hk : z_kd k = 10) (hn : z_ln k = n) (e9 : z_saJ M k n i x = some M1) (hd : decode cc pc = .ok (.lastore, 1)) (pc' : Nat) (hp : pc + 1 = pc') (K : GW Γ G b cs ss M1 pc' lv st) : GW Γ G b cs ss M pc lv (.long x :: .int i :: .ref (b + k) :: st) := by
  obtain ⟨p, l, e, R, s, m, args, below, meth, c0, Q⟩ := Γ
  subst hp
  obtain ⟨hx, hb, hml, hown, hT, hK, hX, -⟩ := X
  obtain ⟨hin, rfl⟩ := z_saJ_of e9
  have hlt : k < 176 := z_lt rfl hk
  exact fun H locs ls hW hS hl9 => va_last (D := (G.1, G.2.1)) (cl := vwCl) (n := n) (f := z_jj (M k)) hx hb hK (z_WP hW) z_WD hS k 2 ((z_wl_get hlt).trans (by rw [z_ent_a hk (by decide), hn]; rfl)) rfl hin hd (fun H1 locs1 hP1 _ hS1 => K H1 locs1 ls (z_Wset hlt hP1 (by rw [z_ent_a hk (by decide), z_stJ_same, hn]; show _ = Sum.inl (_, (n, Sum.inr (Sum.inl (z_jj (upd (upd (M k) (2 * i.toNatClampNeg) (z_Jlo x)) (2 * i.toNatClampNeg + 1) (z_Jhi x)))))); rw [z_upJ]) (fun a ha => z_stJ_ne M _ x ha)) hS1 hl9)
theorem r_alen {Γ : zC} {G : zG} {b nL cs ss pc : Nat} {cc : ByteArray} {own : String} {rm : Room} {M : zM} {lv : List (Nat × Value)} {st : List Value} {k c n : Nat} {v : Int32} {ty : FieldType} (X : z_CX Γ G b nL cc own rm) (hk : z_kd k = c) (hc8 : Nat.blt 7 c = true) (hlt : k < 176) (hn : z_ln k = n) (hc : (z_tys G)[c - 8]? = some (G.2.2 c, ty)) (har : (z_ar c b n k (M k)).1 = n) (hv : Int32.ofNat n = v) (hd : decode cc pc = .ok (.arraylength, 1)) (pc' : Nat) (hp : pc + 1 = pc') (K : GW Γ G b cs ss M pc' lv (.int v :: st)) : GW Γ G b cs ss M pc lv (.ref (b + k) :: st) := by
  obtain ⟨p, l, e, R, s, m, args, below, meth, c0, Q⟩ := Γ
  subst hp
  obtain ⟨hx, hb, hml, hown, hT, hK, hX, -⟩ := X
  have hc9 : ¬ c < 8 := by have := Nat.le_of_ble_eq_true hc8; omega
  exact fun H locs ls hW hS hl9 => va_alen (D := (G.1, G.2.1)) (cl := vwCl) hx hb hK (z_WP hW) k (c - 8) ((z_wl_get hlt).trans (by rw [z_ent_a hk hc9, hn])) hc (by rw [har]; exact hv) hd (K H locs ls hW hS hl9)
theorem r_lconst {Γ : zC} {G : zG} {b nL cs ss pc : Nat} {cc : ByteArray} {own : String} {rm : Room} {M : zM} {lv : List (Nat × Value)} {st : List Value} {n : Fin 2} {v : Int64} (X : z_CX Γ G b nL cc own rm) (hv : Int64.ofNat (n : Nat) = v) (hd : decode cc pc = .ok (.lconst n, 1)) (pc' : Nat) (hp : pc + 1 = pc') (k : GW Γ G b cs ss M pc' lv (.long v :: st)) : GW Γ G b cs ss M pc lv (st) := by
  obtain ⟨p, l, e, R, s, m, args, below, meth, c, Q⟩ := Γ
  subst hp
  exact fun H locs ls hW hS hl => lv_lconst X.1 X.2.1 hd hv (k H locs ls hW hS hl)
theorem r_land {Γ : zC} {G : zG} {b nL cs ss pc : Nat} {cc : ByteArray} {own : String} {rm : Room} {M : zM} {lv : List (Nat × Value)} {st : List Value} {x y : Int64} (X : z_CX Γ G b nL cc own rm)  (hd : decode cc pc = .ok (.land, 1)) (pc' : Nat) (hp : pc + 1 = pc') (k : GW Γ G b cs ss M pc' lv (.long (x &&& y) :: st)) : GW Γ G b cs ss M pc lv (.long y :: .long x :: st) := by
  obtain ⟨p, l, e, R, s, m, args, below, meth, c, Q⟩ := Γ
  subst hp
  exact fun H locs ls hW hS hl => lv_land X.1 X.2.1 hd (k H locs ls hW hS hl)
theorem r_lor {Γ : zC} {G : zG} {b nL cs ss pc : Nat} {cc : ByteArray} {own : String} {rm : Room} {M : zM} {lv : List (Nat × Value)} {st : List Value} {x y : Int64} (X : z_CX Γ G b nL cc own rm)  (hd : decode cc pc = .ok (.lor, 1)) (pc' : Nat) (hp : pc + 1 = pc') (k : GW Γ G b cs ss M pc' lv (.long (x ||| y) :: st)) : GW Γ G b cs ss M pc lv (.long y :: .long x :: st) := by
  obtain ⟨p, l, e, R, s, m, args, below, meth, c, Q⟩ := Γ
  subst hp
  exact fun H locs ls hW hS hl => lv_lor X.1 X.2.1 hd (k H locs ls hW hS hl)
theorem r_lxor {Γ : zC} {G : zG} {b nL cs ss pc : Nat} {cc : ByteArray} {own : String} {rm : Room} {M : zM} {lv : List (Nat × Value)} {st : List Value} {x y : Int64} (X : z_CX Γ G b nL cc own rm)  (hd : decode cc pc = .ok (.lxor, 1)) (pc' : Nat) (hp : pc + 1 = pc') (k : GW Γ G b cs ss M pc' lv (.long (x ^^^ y) :: st)) : GW Γ G b cs ss M pc lv (.long y :: .long x :: st) := by
  obtain ⟨p, l, e, R, s, m, args, below, meth, c, Q⟩ := Γ
  subst hp
  exact fun H locs ls hW hS hl => lv_lxor X.1 X.2.1 hd (k H locs ls hW hS hl)
theorem r_ixor {Γ : zC} {G : zG} {b nL cs ss pc : Nat} {cc : ByteArray} {own : String} {rm : Room} {M : zM} {lv : List (Nat × Value)} {st : List Value} {x y : Int32} (X : z_CX Γ G b nL cc own rm)  (hd : decode cc pc = .ok (.ixor, 1)) (pc' : Nat) (hp : pc + 1 = pc') (k : GW Γ G b cs ss M pc' lv (.int (x ^^^ y) :: st)) : GW Γ G b cs ss M pc lv (.int y :: .int x :: st) := by
  obtain ⟨p, l, e, R, s, m, args, below, meth, c, Q⟩ := Γ
  subst hp
  exact fun H locs ls hW hS hl => lv_ixor X.1 X.2.1 hd (k H locs ls hW hS hl)
theorem r_lshl {Γ : zC} {G : zG} {b nL cs ss pc : Nat} {cc : ByteArray} {own : String} {rm : Room} {M : zM} {lv : List (Nat × Value)} {st : List Value} {x : Int64} {y : Int32} (X : z_CX Γ G b nL cc own rm)  (hd : decode cc pc = .ok (.lshl, 1)) (pc' : Nat) (hp : pc + 1 = pc') (k : GW Γ G b cs ss M pc' lv (.long (x <<< (y.toInt64 &&& 63)) :: st)) : GW Γ G b cs ss M pc lv (.int y :: .long x :: st) := by
  obtain ⟨p, l, e, R, s, m, args, below, meth, c, Q⟩ := Γ
  subst hp
  exact fun H locs ls hW hS hl => lv_lshl X.1 X.2.1 hd rfl (k H locs ls hW hS hl)
theorem r_lshr {Γ : zC} {G : zG} {b nL cs ss pc : Nat} {cc : ByteArray} {own : String} {rm : Room} {M : zM} {lv : List (Nat × Value)} {st : List Value} {x : Int64} {y : Int32} (X : z_CX Γ G b nL cc own rm)  (hd : decode cc pc = .ok (.lshr, 1)) (pc' : Nat) (hp : pc + 1 = pc') (k : GW Γ G b cs ss M pc' lv (.long (x >>> (y.toInt64 &&& 63)) :: st)) : GW Γ G b cs ss M pc lv (.int y :: .long x :: st) := by
  obtain ⟨p, l, e, R, s, m, args, below, meth, c, Q⟩ := Γ
  subst hp
  exact fun H locs ls hW hS hl => lv_lshr X.1 X.2.1 hd rfl (k H locs ls hW hS hl)
theorem r_l2i {Γ : zC} {G : zG} {b nL cs ss pc : Nat} {cc : ByteArray} {own : String} {rm : Room} {M : zM} {lv : List (Nat × Value)} {st : List Value} {x : Int64} (X : z_CX Γ G b nL cc own rm)  (hd : decode cc pc = .ok (.l2i, 1)) (pc' : Nat) (hp : pc + 1 = pc') (k : GW Γ G b cs ss M pc' lv (.int x.toInt32 :: st)) : GW Γ G b cs ss M pc lv (.long x :: st) := by
  obtain ⟨p, l, e, R, s, m, args, below, meth, c, Q⟩ := Γ
  subst hp
  exact fun H locs ls hW hS hl => lv_l2i X.1 X.2.1 hd rfl (k H locs ls hW hS hl)
theorem r_lload_n {Γ : zC} {G : zG} {b nL cs ss pc : Nat} {cc : ByteArray} {own : String} {rm : Room} {M : zM} {lv : List (Nat × Value)} {st : List Value} {f : Fin 4} {x : Int64} (X : z_CX Γ G b nL cc own rm) (n : Nat) (hn : lv[n]? = some ((f : Nat), .long x)) (hd : decode cc pc = .ok (.lload_n f, 1)) (pc' : Nat) (hp : pc + 1 = pc') (k : GW Γ G b cs ss M pc' lv (.long x :: st)) : GW Γ G b cs ss M pc lv (st) := by
  obtain ⟨p, l, e, R, s, m, args, below, meth, c, Q⟩ := Γ
  subst hp
  exact fun H locs ls hW hS hl => lv_lload_n X.1 X.2.1 hd rfl (lv_at hl n hn) (k H locs ls hW hS hl)
theorem r_ldc {Γ : zC} {G : zG} {b nL cs ss pc : Nat} {cc : ByteArray} {own : String} {rm : Room} {M : zM} {lv : List (Nat × Value)} {st : List Value} {idx : Nat} {v : Int32} (X : z_CX Γ G b nL cc own rm) (hw : Cond.constant own idx v ∈ z_TB) (hd : decode cc pc = .ok (.ldc idx, 2)) (pc' : Nat) (hp : pc + 2 = pc') (k : GW Γ G b cs ss M pc' lv (.int v :: st)) : GW Γ G b cs ss M pc lv (st) := by
  obtain ⟨p, l, e, R, s, m, args, below, meth, c, Q⟩ := Γ
  subst hp
  exact fun H locs ls hW hS hl => lv_ldc X.1 X.2.1 X.2.2.2.1 (X.2.2.2.2.1.use hw) hd (k H locs ls hW hS hl)
theorem r_ldc2 {Γ : zC} {G : zG} {b nL cs ss pc : Nat} {cc : ByteArray} {own : String} {rm : Room} {M : zM} {lv : List (Nat × Value)} {st : List Value} {idx : Nat} {v : Int64} (X : z_CX Γ G b nL cc own rm) (hw : Cond.constantLong own idx v ∈ z_TB) (hd : decode cc pc = .ok (.ldc2_w idx, 3)) (pc' : Nat) (hp : pc + 3 = pc') (k : GW Γ G b cs ss M pc' lv (.long v :: st)) : GW Γ G b cs ss M pc lv (st) := by
  obtain ⟨p, l, e, R, s, m, args, below, meth, c, Q⟩ := Γ
  subst hp
  exact fun H locs ls hW hS hl => lv_ldc2 X.1 X.2.1 X.2.2.2.1 (X.2.2.2.2.1.use hw) hd (k H locs ls hW hS hl)
