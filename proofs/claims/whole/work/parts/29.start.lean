/-! ===== the law from its entry ===== -/
theorem e_astore_n {Γ : zC} {G : zG} {b nL cs ss pc : Nat} {cc : ByteArray} {own : String} {rm : Room} {N : Nat} {E : Nat → va_E} {lv : List (Nat × Value)} {st : List Value} {f : Fin 4} {x : Nat} (X : z_CX Γ G b nL cc own rm) (hd : decode cc pc = .ok (.astore_n f, 1)) (pc' : Nat) (hp : pc + 1 = pc') (lv' : List (Nat × Value)) (hi : (f : Nat) < nL) (ks : List Nat) (hv : lv_pick (((f : Nat), Value.ref x) :: lv.filter (fun q => !(q.1 == (f : Nat)) && !(q.1 + 1 == (f : Nat) && q.2.category == 2))) ks = lv') (k : GE Γ G b cs ss N E pc' lv' st) : GE Γ G b cs ss N E pc lv (.ref x :: st) := by
  obtain ⟨p, l, e, R, s, m, args, below, meth, c, Q⟩ := Γ
  subst hp
  exact fun H locs ls hW hS hl => lv_astore_n X.1 X.2.1 hd rfl hl (Nat.lt_of_lt_of_eq hi (X.2.2.1).symm) rfl (fun ls' hl' => k H locs ls' hW hS (lv_sub hl' ks hv))
theorem e_istore {Γ : zC} {G : zG} {b nL cs ss pc : Nat} {cc : ByteArray} {own : String} {rm : Room} {N : Nat} {E : Nat → va_E} {lv : List (Nat × Value)} {st : List Value} {i : Nat} {x : Int32} (X : z_CX Γ G b nL cc own rm) (hd : decode cc pc = .ok (.istore i, 2)) (pc' : Nat) (hp : pc + 2 = pc') (lv' : List (Nat × Value)) (hi : i < nL) (ks : List Nat) (hv : lv_pick ((i, Value.int x) :: lv.filter (fun q => !(q.1 == i) && !(q.1 + 1 == i && q.2.category == 2))) ks = lv') (k : GE Γ G b cs ss N E pc' lv' st) : GE Γ G b cs ss N E pc lv (.int x :: st) := by
  obtain ⟨p, l, e, R, s, m, args, below, meth, c, Q⟩ := Γ
  subst hp
  exact fun H locs ls hW hS hl => lv_istore X.1 X.2.1 hd hl (Nat.lt_of_lt_of_eq hi (X.2.2.1).symm) rfl (fun ls' hl' => k H locs ls' hW hS (lv_sub hl' ks hv))
theorem z_ok_args {w : Cond} {s : State} {args args' : Array Value} (hok : z_ok w = true) (hb : w.before args s = true) : w.before args' s = true := by
  cases w <;> first
    | exact vx_ot_at (State.WarmedH.refl s) rfl rfl hb
    | exact vx_ot_at (State.WarmedH.refl s) rfl ((Bool.or_eq_true _ _).mpr (Or.inr hok)) hb
    | exact hb
theorem z_arrP {args : Array Value} {s : State} {ty : FieldType} (hty : refKind ty = false) (h : (Cond.arrayClass ty).before args s = true) : ∃ cA : ClassId, ArrOfT s cA ty ∧ va_RA s cA ty := by
  obtain ⟨cA, kA, comp, h1, h2, h3⟩ := Cond.arrayClass_spec h
  refine ⟨cA, fun N z => ⟨(fun k h => by cases h), kA, h2, comp, h3⟩, ?_⟩
  cases ty with
  | object C => exact absurd hty (by simp [refKind])
  | _ => exact h1
theorem z_arrQ {args : Array Value} {s : State} {C : String} (h : (Cond.arrayOver (.object C)).before args s = true) : ∃ cA : ClassId, ArrOfT s cA (.object C) ∧ va_RA s cA (.object C) := by
  obtain ⟨comp, cA, kA, h1, h2, h3, h4, h5⟩ := Cond.arrayOver_spec h
  exact ⟨cA, fun N z => ⟨(fun k h => by cases h), kA, h3, comp, h4⟩, kA, comp, h3, h4, h1, h5⟩
theorem z_strOf {args : Array Value} {s : State} {own tx : String} {k : Nat} (h1 : (Cond.stringRef own k tx).before args s = true) (h2 : (Cond.exactly (.string own k) "java/lang/String").before args s = true) : ∃ a : Nat, vk_R own k tx a s := by
  obtain ⟨a, c, cell, kc, q1, q2, q3, q4, q5, q6, -⟩ := Cond.exactly_spec h2
  exact ⟨a, vk_R.of (A := args) h1 q1⟩
set_option maxRecDepth 100000 in
set_option maxHeartbeats 4000000 in
theorem z_startX {s : State} {sb : Nat} (hts : ∀ w ∈ lw_tbl, w.before #[Value.ref sb] s = true) (hgv : (Jvm.Cond.and given_1 narrow_1).before #[Value.ref sb] s = true) : z_X s.heap.size s := by
  have hs := flat_of_before _ hgv
  refine ⟨?_, ?_, ?_, ?_⟩
  · refine List.forall_mem_cons.mpr ⟨?_, List.forall_mem_cons.mpr ⟨?_, List.forall_mem_cons.mpr ⟨?_, fun _ h => absurd h List.not_mem_nil⟩⟩⟩
    · exact va_Nc.of (hs _ (by decide +kernel))
    · exact va_Nc.of (hs _ (by decide +kernel))
    · exact va_Nc.of (hs _ (by decide +kernel))
  · exact vx_Zqof (hts _ (List.mem_of_getElem? (i := 428) (by decide +kernel))) (hts _ (List.mem_of_getElem? (i := 95) (by decide +kernel))) (hs _ (by decide +kernel)) (fun a ha => Nat.not_le.mpr ha)
  · exact vx_Zqof (hts _ (List.mem_of_getElem? (i := 430) (by decide +kernel))) (hts _ (List.mem_of_getElem? (i := 95) (by decide +kernel))) (hs _ (by decide +kernel)) (fun a ha => Nat.not_le.mpr ha)
  · refine List.forall_mem_cons.mpr ⟨?_, List.forall_mem_cons.mpr ⟨?_, List.forall_mem_cons.mpr ⟨?_, List.forall_mem_cons.mpr ⟨?_, List.forall_mem_cons.mpr ⟨?_, List.forall_mem_cons.mpr ⟨?_, List.forall_mem_cons.mpr ⟨?_, List.forall_mem_cons.mpr ⟨?_, List.forall_mem_cons.mpr ⟨?_, List.forall_mem_cons.mpr ⟨?_, List.forall_mem_cons.mpr ⟨?_, List.forall_mem_cons.mpr ⟨?_, List.forall_mem_cons.mpr ⟨?_, List.forall_mem_cons.mpr ⟨?_, List.forall_mem_cons.mpr ⟨?_, List.forall_mem_cons.mpr ⟨?_, List.forall_mem_cons.mpr ⟨?_, List.forall_mem_cons.mpr ⟨?_, List.forall_mem_cons.mpr ⟨?_, List.forall_mem_cons.mpr ⟨?_, fun _ h => absurd h List.not_mem_nil⟩⟩⟩⟩⟩⟩⟩⟩⟩⟩⟩⟩⟩⟩⟩⟩⟩⟩⟩⟩
    · exact z_strOf (hts _ (List.mem_of_getElem? (i := 513) (by decide +kernel))) (hs _ (by decide +kernel))
    · exact z_strOf (hts _ (List.mem_of_getElem? (i := 594) (by decide +kernel))) (hs _ (by decide +kernel))
    · exact z_strOf (hts _ (List.mem_of_getElem? (i := 608) (by decide +kernel))) (hs _ (by decide +kernel))
    · exact z_strOf (hts _ (List.mem_of_getElem? (i := 624) (by decide +kernel))) (hs _ (by decide +kernel))
    · exact z_strOf (hts _ (List.mem_of_getElem? (i := 698) (by decide +kernel))) (hs _ (by decide +kernel))
    · exact z_strOf (hts _ (List.mem_of_getElem? (i := 710) (by decide +kernel))) (hs _ (by decide +kernel))
    · exact z_strOf (hts _ (List.mem_of_getElem? (i := 730) (by decide +kernel))) (hs _ (by decide +kernel))
    · exact z_strOf (hts _ (List.mem_of_getElem? (i := 736) (by decide +kernel))) (hs _ (by decide +kernel))
    · exact z_strOf (hts _ (List.mem_of_getElem? (i := 761) (by decide +kernel))) (hs _ (by decide +kernel))
    · exact z_strOf (hts _ (List.mem_of_getElem? (i := 780) (by decide +kernel))) (hs _ (by decide +kernel))
    · exact z_strOf (hts _ (List.mem_of_getElem? (i := 792) (by decide +kernel))) (hs _ (by decide +kernel))
    · exact z_strOf (hts _ (List.mem_of_getElem? (i := 793) (by decide +kernel))) (hs _ (by decide +kernel))
    · exact z_strOf (hts _ (List.mem_of_getElem? (i := 848) (by decide +kernel))) (hs _ (by decide +kernel))
    · exact z_strOf (hts _ (List.mem_of_getElem? (i := 442) (by decide +kernel))) (hs _ (by decide +kernel))
    · exact z_strOf (hts _ (List.mem_of_getElem? (i := 657) (by decide +kernel))) (hs _ (by decide +kernel))
    · exact z_strOf (hts _ (List.mem_of_getElem? (i := 472) (by decide +kernel))) (hs _ (by decide +kernel))
    · exact z_strOf (hts _ (List.mem_of_getElem? (i := 473) (by decide +kernel))) (hs _ (by decide +kernel))
    · exact z_strOf (hts _ (List.mem_of_getElem? (i := 846) (by decide +kernel))) (hs _ (by decide +kernel))
    · exact z_strOf (hts _ (List.mem_of_getElem? (i := 866) (by decide +kernel))) (hs _ (by decide +kernel))
    · exact z_strOf (hts _ (List.mem_of_getElem? (i := 890) (by decide +kernel))) (hs _ (by decide +kernel))
set_option maxRecDepth 100000 in
set_option maxHeartbeats 4000000 in
theorem z_startK {s : State} {sb : Nat} (hts : ∀ w ∈ lw_tbl, w.before #[Value.ref sb] s = true) (hT : z_TW s) : ∃ G : zG, z_K G s := by
  obtain ⟨c0, i0, k0⟩ := u_known (args := #[]) (ws := z_TB) (C := RX0) (T := TX0) (N := 3) (n := 3) (fun w hw => hT.use hw) zi_X0 (hT.use kin_X0)
  obtain ⟨c1, i1, k1⟩ := u_known (args := #[]) (ws := z_TB) (C := RX1) (T := TX1) (N := 6) (n := 6) (fun w hw => hT.use hw) zi_X1 (hT.use kin_X1)
  obtain ⟨c2, i2, k2⟩ := u_known (args := #[]) (ws := z_TB) (C := RX2) (T := TX2) (N := 6) (n := 6) (fun w hw => hT.use hw) zi_X2 (hT.use kin_X2)
  obtain ⟨c3, i3, k3⟩ := u_known (args := #[]) (ws := z_TB) (C := RX3) (T := TX3) (N := 4) (n := 4) (fun w hw => hT.use hw) zi_X3 (hT.use kin_X3)
  obtain ⟨c4, i4, k4⟩ := u_known (args := #[]) (ws := z_TB) (C := RX4) (T := TX4) (N := 1) (n := 1) (fun w hw => hT.use hw) zi_X4 (hT.use kin_X4)
  obtain ⟨c5, i5, k5⟩ := u_known (args := #[]) (ws := z_TB) (C := RX5) (T := TX5) (N := 7) (n := 7) (fun w hw => hT.use hw) zi_X5 (hT.use kin_X5)
  obtain ⟨c6, i6, k6⟩ := u_known (args := #[]) (ws := z_TB) (C := RX6) (T := TX6) (N := 4) (n := 4) (fun w hw => hT.use hw) zi_X6 (hT.use kin_X6)
  obtain ⟨c7, i7, k7⟩ := u_known (args := #[]) (ws := z_TB) (C := RX7) (T := TX7) (N := 5) (n := 5) (fun w hw => hT.use hw) zi_X7 (hT.use kin_X7)
  obtain ⟨aI, aI1, aI2⟩ := z_arrP (args := #[]) (s := s) (ty := .int) rfl (hT.use zo_ar8)
  obtain ⟨aZ, aZ1, aZ2⟩ := z_arrP (args := #[]) (s := s) (ty := .boolean) rfl (hT.use zo_ar9)
  obtain ⟨aL, aL1, aL2⟩ := z_arrP (args := #[]) (s := s) (ty := .long) rfl (hT.use zo_ar10)
  obtain ⟨aD, aD1, aD2⟩ := z_arrQ (args := #[]) (s := s) (C := RX0) (hT.use zo_ov_X0)
  obtain ⟨aS, aS1, aS2⟩ := z_arrQ (args := #[]) (s := s) (C := RX2) (hT.use zo_ov_X2)
  obtain ⟨aG, aG1, aG2⟩ := z_arrQ (args := #[]) (s := s) (C := RX1) (hT.use zo_ov_X1)
  refine ⟨(fun k => [c0, c1, c2, c3, c4, c5, c6, c7].getD k 0, fun k => [i0, i1, i2, i3, i4, i5, i6, i7].getD k (fun _ => 0), fun k => [aI, aZ, aL, aD, aS, aG].getD (k - 8) 0), ?_, ?_⟩
  · intro k q hq
    match k, hq with
    | 0, hq => cases hq; exact k0
    | 1, hq => cases hq; exact k1
    | 2, hq => cases hq; exact k2
    | 3, hq => cases hq; exact k3
    | 4, hq => cases hq; exact k4
    | 5, hq => cases hq; exact k5
    | 6, hq => cases hq; exact k6
    | 7, hq => cases hq; exact k7
    | k + 8, hq => simp [vwCl] at hq
  · intro k q hq
    match k, hq with
    | 0, hq => cases hq; exact ⟨aI1, aI2⟩
    | 1, hq => cases hq; exact ⟨aZ1, aZ2⟩
    | 2, hq => cases hq; exact ⟨aL1, aL2⟩
    | 3, hq => cases hq; exact ⟨aD1, aD2⟩
    | 4, hq => cases hq; exact ⟨aS1, aS2⟩
    | 5, hq => cases hq; exact ⟨aG1, aG2⟩
    | k + 6, hq => simp [z_tys] at hq
theorem z_toGW {Γ : zC} {G : zG} {b cs ss pc : Nat} {E : Nat → va_E} {lv : List (Nat × Value)} {st : List Value} {M : zM} (h : ∀ k, k < 175 → E k = z_ent G b M k) (K : GW Γ G b cs ss M pc lv st) : GE Γ G b cs ss 175 E pc lv st := fun H locs ls hW hS hl => K H locs ls (fun k hk => by rw [← h k hk]; exact hW k hk) hS hl
set_option maxRecDepth 100000 in
set_option maxHeartbeats 4000000 in
theorem z_whole {P : Nat → zM → Prop} (hP : z_Inv P) {p : Program} {e : Env} {s : State} {m : MethodId} {below : List Frame} {meth : Method} {c : Code} (l : Launch) (hflags : l.flags = flags0) {b L : Nat} {xs : Nat → Int32} (hL : L ≤ 3584) (hx : p.tables.exec = Jvm.exec) (hb : c.code = code) (hr : meth.sig.returnType = ret) (hml : c.maxLocals = 7) (hown : s.vm.findClass RL = some m.cls) (hts : ∀ w ∈ lw_tbl, w.before #[Value.ref b] s = true) (hX : va_X b L xs s s.heap) (hbl : b < s.heap.size) (hlocks : meth.locks = false) (hgv : (Jvm.Cond.and given_1 narrow_1).before #[Value.ref b] s = true) {Q : State → Prop}
    (hend : ∀ (H : Heap) (ls : Array Slot), W p l e room_1 s m #[Value.ref b] below meth c H [] 601024 7293034 Q (F0 m 2363 ls [.int 1])) : W p l e room_1 s m #[Value.ref b] below meth c s.heap [] 0 0 Q (entryFrame m ([Value.ref b] : List Value).toArray 7) := by
  have hst : l.stackTraces = false := by
    unfold Launch.stackTraces
    rw [hflags]
    rfl
  have hT : z_TW s := fun w hw => z_ok_args (List.mem_filter.mp hw).2 (hts w (List.mem_filter.mp hw).1)
  obtain ⟨G, hK⟩ := z_startK hts hT
  have hX9 : z_X s.heap.size s := z_startX hts hgv
  obtain ⟨Γ, hΓ⟩ : ∃ Γ : zC, Γ = (p, l, e, room_1, s, m, #[Value.ref b], below, meth, c, Q) := ⟨_, rfl⟩
  have X : z_CX Γ G s.heap.size 7 cL_law RL room_1 := by
    rw [hΓ]
    exact ⟨hx, hb, hml, hown, hT, hK, hX9, rfl, hlocks, hst⟩
  have hl : Γ.2.1.stackTraces = false := by rw [hΓ]; exact hst
  have hs9 : z_s Γ = s := by rw [hΓ]; rfl
  have h0 : (z_s Γ).heap.size = s.heap.size + 0 := by rw [hs9]; rfl
  have hX8 : va_X b L xs (z_s Γ) (z_s Γ).heap := by rw [hs9]; exact hX
  have hb9 : b < (z_s Γ).heap.size ∧ b < s.heap.size := ⟨by rw [hs9]; exact hbl, hbl⟩
  have Kend : ∀ (cs ss : Nat) (M : zM) (lv : List (Nat × Value)), cs ≤ 601024 → ss ≤ 7293034 → GW Γ G s.heap.size cs ss M 2362 lv [] := by
    intro cs ss M lv h1 h2
    rw [hΓ]
    intro H locs ls hW hS hl9
    refine lv_iconst (v := 1) hx hb dL_law_2362 rfl ?_
    refine va_forget (fun q hq => hS.2.2 q hq) ?_
    exact W.widen h1 h2 (hend H ls)
  have main : GE Γ G s.heap.size 0 0 0 (fun _ => .inr (0, [])) 0 [(0, .ref b)] [] := by
    refine e_new (c := 6) (fs := [.null, .null, .null, .null]) X h0 (by omega) zi_X6 tyX6_ok kcl_L_8 kin_X6 kini_X6 zv_X6 (fun j hj => by rcases (show j = 0 ∨ j = 1 ∨ j = 2 ∨ j = 3 by omega) with rfl | rfl | rfl | rfl <;> rfl) ⟨by decide, by decide⟩ dL_law_0 3 rfl ?_
    refine e_dup X rfl dL_law_3 4 rfl ?_
    refine e_callI (rest := [.ref (s.heap.size + 0)]) (h9 := 0) X h0 ⟨by omega, by omega⟩ (tX6_init hl G s.heap.size 0 rfl _ z_up_s) zy_X6_init zoi_X6 km_L_114 rfl ⟨rfl, rfl⟩ ⟨rfl, rfl⟩ rfl rfl (Nat.le_of_ble_eq_true rfl) ⟨by decide, by decide⟩ dL_law_4 7 rfl ?_
    refine e_astore_n X dL_law_7 8 rfl [(0, .ref b), (1, .ref (s.heap.size + 0))] (by decide) [1, 0] rfl ?_
    refine e_new (c := 7) (fs := [.null, .null, .null, .null, .int 0]) X h0 (by omega) zi_X7 tyX7_ok kcl_L_115 kin_X7 kini_X7 zv_X7 (fun j hj => by rcases (show j = 0 ∨ j = 1 ∨ j = 2 ∨ j = 3 ∨ j = 4 by omega) with rfl | rfl | rfl | rfl | rfl <;> rfl) ⟨by decide, by decide⟩ dL_law_8 11 rfl ?_
    refine e_dup X rfl dL_law_11 12 rfl ?_
    refine e_callI (rest := [.ref (s.heap.size + 169)]) (h9 := 169) X h0 ⟨by omega, by omega⟩ (tX7_init hl G s.heap.size 169 rfl _ z_up_s) zy_X7_init zoi_X7 km_L_117 rfl ⟨rfl, rfl⟩ ⟨rfl, rfl⟩ rfl rfl (Nat.le_of_ble_eq_true rfl) ⟨by decide, by decide⟩ dL_law_12 15 rfl ?_
    refine e_astore_n X dL_law_15 16 rfl [(0, .ref b), (1, .ref (s.heap.size + 0)), (2, .ref (s.heap.size + 169))] (by decide) [1, 2, 0] rfl ?_
    refine e_iconst (v := 1) X rfl dL_law_16 17 rfl ?_
    refine e_newa (nn := 1) (n := 1) (t9 := 2) (c := 10) (ty := .long) (at9 := .long) (a0 := (1, .inr (.inl (fun _ => 0)))) X h0 (by omega) zo_ar10 rfl rfl (fun _ h => by cases h) (fun _ => rfl) (by decide) rfl rfl ⟨by decide, by decide⟩ dL_law_17 19 rfl ?_
    refine e_astore_n X dL_law_19 20 rfl [(0, .ref b), (1, .ref (s.heap.size + 0)), (2, .ref (s.heap.size + 169)), (3, .ref (s.heap.size + 174))] (by decide) [1, 2, 3, 0] rfl ?_
    refine e_iconst (v := 0) X rfl dL_law_20 21 rfl ?_
    refine e_istore X dL_law_21 23 rfl [(0, .ref b), (1, .ref (s.heap.size + 0)), (2, .ref (s.heap.size + 169)), (3, .ref (s.heap.size + 174)), (4, .int 0)] (by decide) [1, 2, 3, 4, 0] rfl ?_
    refine z_toGW (M := z_M0) (fun k hk => ?_) (law_loop hP hL X hl hX8 hb9 Kend 513 0 z_M0 hP.1 rfl (Nat.zero_le _))
    by_cases q4 : k = 174
    · subst q4
      rw [z_up_s, z_ent_a (c := 10) rfl (by decide), show z_M0 174 = z_iv 0 from rfl]
      rfl
    · rw [z_up_n q4]
      by_cases q3 : k < 169
      · exact (z_mk_lt q3).trans ((z_up_n (by omega)).trans (z_mk_ge (by omega)))
      · exact z_mk_ge q3
  have hl9 := lv_entry ([.ref b]) (n := 7) (Nat.le_of_ble_eq_true rfl)
  rw [lg_entry_eq]
  rw [hΓ] at main
  exact main s.heap [] _ (fun k hk => absurd hk (Nat.not_lt_zero k)) va_S.rf (by rw [show (z_c (p, l, e, room_1, s, m, #[Value.ref b], below, meth, c, Q)).maxLocals = 7 from hml]; exact hl9)
