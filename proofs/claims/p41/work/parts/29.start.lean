/-! ===== the law from its entry ===== -/
theorem e_astore_n {Γ : zC} {G : zG} {b nL cs ss pc : Nat} {cc : ByteArray} {own : String} {rm : Room} {N : Nat} {E : Nat → va_E} {lv : List (Nat × Value)} {st : List Value} {f : Fin 4} {x : Nat} (X : z_CX Γ G b nL cc own rm) (hd : decode cc pc = .ok (.astore_n f, 1)) (pc' : Nat) (hp : pc + 1 = pc') (lv' : List (Nat × Value)) (hi : (f : Nat) < nL) (ks : List Nat) (hv : lv_pick (((f : Nat), Value.ref x) :: lv.filter (fun q => !(q.1 == (f : Nat)) && !(q.1 + 1 == (f : Nat) && q.2.category == 2))) ks = lv') (k : GE Γ G b cs ss N E pc' lv' st) : GE Γ G b cs ss N E pc lv (.ref x :: st) := by
  obtain ⟨p, l, e, R, s, m, args, below, meth, c, Q⟩ := Γ
  subst hp
  exact fun H locs ls hW hS hl => lv_astore_n X.1 X.2.1 hd rfl hl (Nat.lt_of_lt_of_eq hi (X.2.2.1).symm) rfl (fun ls' hl' => k H locs ls' hW hS (lv_sub hl' ks hv))
theorem e_astore {Γ : zC} {G : zG} {b nL cs ss pc : Nat} {cc : ByteArray} {own : String} {rm : Room} {N : Nat} {E : Nat → va_E} {lv : List (Nat × Value)} {st : List Value} {i : Nat} {x : Nat} (X : z_CX Γ G b nL cc own rm) (hd : decode cc pc = .ok (.astore i, 2)) (pc' : Nat) (hp : pc + 2 = pc') (lv' : List (Nat × Value)) (hi : i < nL) (ks : List Nat) (hv : lv_pick ((i, Value.ref x) :: lv.filter (fun q => !(q.1 == i) && !(q.1 + 1 == i && q.2.category == 2))) ks = lv') (k : GE Γ G b cs ss N E pc' lv' st) : GE Γ G b cs ss N E pc lv (.ref x :: st) := by
  obtain ⟨p, l, e, R, s, m, args, below, meth, c, Q⟩ := Γ
  subst hp
  exact fun H locs ls hW hS hl => lv_astore X.1 X.2.1 hd hl (Nat.lt_of_lt_of_eq hi (X.2.2.1).symm) rfl (fun ls' hl' => k H locs ls' hW hS (lv_sub hl' ks hv))
theorem z_ok_args {w : Cond} {s : State} {args args' : Array Value} (hok : z_ok w = true) (hb : w.before args s = true) : w.before args' s = true := by
  cases w <;> first
    | exact vx_ot_at (State.WarmedH.refl s) rfl rfl hb
    | exact vx_ot_at (State.WarmedH.refl s) rfl ((Bool.or_eq_true _ _).mpr (Or.inr hok)) hb
    | exact hb
theorem z_arrP {args : Array Value} {s : State} {ty : FieldType} (hty : refKind ty = false) (h : (Cond.arrayClass ty).before args s = true) : ∃ cA : ClassId, ArrOfT s cA ty ∧ va_RA s cA ty := by
  obtain ⟨cA, kA, comp, h1, h2, h3⟩ := Cond.arrayClass_spec h
  refine ⟨cA, fun N z => ⟨(fun k h => by cases h), kA, h2, comp, h3⟩, ?_⟩
  cases ty with
  | object C => exact absurd hty (by simp [refKind])
  | _ => exact h1
theorem z_arrQ {args : Array Value} {s : State} {C : String} (h : (Cond.arrayOver (.object C)).before args s = true) : ∃ cA : ClassId, ArrOfT s cA (.object C) ∧ va_RA s cA (.object C) := by
  obtain ⟨comp, cA, kA, h1, h2, h3, h4, h5⟩ := Cond.arrayOver_spec h
  exact ⟨cA, fun N z => ⟨(fun k h => by cases h), kA, h3, comp, h4⟩, kA, comp, h3, h4, h1, h5⟩
theorem z_strOf {args : Array Value} {s : State} {own tx : String} {k : Nat} (h1 : (Cond.stringRef own k tx).before args s = true) (h2 : (Cond.exactly (.string own k) "java/lang/String").before args s = true) : ∃ a : Nat, vk_R own k tx a s := by
  obtain ⟨a, c, cell, kc, q1, q2, q3, q4, q5, q6, -⟩ := Cond.exactly_spec h2
  exact ⟨a, vk_R.of (A := args) h1 q1⟩
set_option maxRecDepth 100000 in
set_option maxHeartbeats 4000000 in
theorem z_startX {s : State} {sb : Nat} (hts : ∀ w ∈ lw_tbl, w.before #[Value.ref sb] s = true) (hgv : (Jvm.Cond.and given_1 narrow_1).before #[Value.ref sb] s = true) : z_X s.heap.size s := by
  have hs := flat_of_before _ hgv
  refine ⟨?_, ?_, ?_, ?_⟩
  · refine List.forall_mem_cons.mpr ⟨?_, List.forall_mem_cons.mpr ⟨?_, List.forall_mem_cons.mpr ⟨?_, fun _ h => absurd h List.not_mem_nil⟩⟩⟩
    · exact va_Nc.of (hs _ (by decide +kernel))
    · exact va_Nc.of (hs _ (by decide +kernel))
    · exact va_Nc.of (hs _ (by decide +kernel))
  · exact vx_Zqof (hts _ (List.mem_of_getElem? (i := 342) (by decide +kernel))) (hts _ (List.mem_of_getElem? (i := 72) (by decide +kernel))) (hs _ (by decide +kernel)) (fun a ha => Nat.not_le.mpr ha)
  · exact vx_Zqof (hts _ (List.mem_of_getElem? (i := 344) (by decide +kernel))) (hts _ (List.mem_of_getElem? (i := 72) (by decide +kernel))) (hs _ (by decide +kernel)) (fun a ha => Nat.not_le.mpr ha)
  · refine List.forall_mem_cons.mpr ⟨?_, List.forall_mem_cons.mpr ⟨?_, List.forall_mem_cons.mpr ⟨?_, List.forall_mem_cons.mpr ⟨?_, List.forall_mem_cons.mpr ⟨?_, List.forall_mem_cons.mpr ⟨?_, List.forall_mem_cons.mpr ⟨?_, List.forall_mem_cons.mpr ⟨?_, List.forall_mem_cons.mpr ⟨?_, List.forall_mem_cons.mpr ⟨?_, List.forall_mem_cons.mpr ⟨?_, List.forall_mem_cons.mpr ⟨?_, List.forall_mem_cons.mpr ⟨?_, List.forall_mem_cons.mpr ⟨?_, List.forall_mem_cons.mpr ⟨?_, List.forall_mem_cons.mpr ⟨?_, List.forall_mem_cons.mpr ⟨?_, List.forall_mem_cons.mpr ⟨?_, List.forall_mem_cons.mpr ⟨?_, List.forall_mem_cons.mpr ⟨?_, fun _ h => absurd h List.not_mem_nil⟩⟩⟩⟩⟩⟩⟩⟩⟩⟩⟩⟩⟩⟩⟩⟩⟩⟩⟩⟩
    · exact z_strOf (hts _ (List.mem_of_getElem? (i := 437) (by decide +kernel))) (hs _ (by decide +kernel))
    · exact z_strOf (hts _ (List.mem_of_getElem? (i := 489) (by decide +kernel))) (hs _ (by decide +kernel))
    · exact z_strOf (hts _ (List.mem_of_getElem? (i := 500) (by decide +kernel))) (hs _ (by decide +kernel))
    · exact z_strOf (hts _ (List.mem_of_getElem? (i := 675) (by decide +kernel))) (hs _ (by decide +kernel))
    · exact z_strOf (hts _ (List.mem_of_getElem? (i := 904) (by decide +kernel))) (hs _ (by decide +kernel))
    · exact z_strOf (hts _ (List.mem_of_getElem? (i := 534) (by decide +kernel))) (hs _ (by decide +kernel))
    · exact z_strOf (hts _ (List.mem_of_getElem? (i := 559) (by decide +kernel))) (hs _ (by decide +kernel))
    · exact z_strOf (hts _ (List.mem_of_getElem? (i := 565) (by decide +kernel))) (hs _ (by decide +kernel))
    · exact z_strOf (hts _ (List.mem_of_getElem? (i := 583) (by decide +kernel))) (hs _ (by decide +kernel))
    · exact z_strOf (hts _ (List.mem_of_getElem? (i := 599) (by decide +kernel))) (hs _ (by decide +kernel))
    · exact z_strOf (hts _ (List.mem_of_getElem? (i := 618) (by decide +kernel))) (hs _ (by decide +kernel))
    · exact z_strOf (hts _ (List.mem_of_getElem? (i := 623) (by decide +kernel))) (hs _ (by decide +kernel))
    · exact z_strOf (hts _ (List.mem_of_getElem? (i := 797) (by decide +kernel))) (hs _ (by decide +kernel))
    · exact z_strOf (hts _ (List.mem_of_getElem? (i := 356) (by decide +kernel))) (hs _ (by decide +kernel))
    · exact z_strOf (hts _ (List.mem_of_getElem? (i := 529) (by decide +kernel))) (hs _ (by decide +kernel))
    · exact z_strOf (hts _ (List.mem_of_getElem? (i := 387) (by decide +kernel))) (hs _ (by decide +kernel))
    · exact z_strOf (hts _ (List.mem_of_getElem? (i := 388) (by decide +kernel))) (hs _ (by decide +kernel))
    · exact z_strOf (hts _ (List.mem_of_getElem? (i := 791) (by decide +kernel))) (hs _ (by decide +kernel))
    · exact z_strOf (hts _ (List.mem_of_getElem? (i := 666) (by decide +kernel))) (hs _ (by decide +kernel))
    · exact z_strOf (hts _ (List.mem_of_getElem? (i := 738) (by decide +kernel))) (hs _ (by decide +kernel))
set_option maxRecDepth 100000 in
set_option maxHeartbeats 4000000 in
theorem z_startK {s : State} {sb : Nat} (hts : ∀ w ∈ lw_tbl, w.before #[Value.ref sb] s = true) (hT : z_TW s) : ∃ G : zG, z_K G s := by
  obtain ⟨c0, i0, k0⟩ := u_known (args := #[]) (ws := z_TB) (C := RX0) (T := TX0) (N := 3) (n := 3) (fun w hw => hT.use hw) zi_X0 (hT.use kin_X0)
  obtain ⟨c1, i1, k1⟩ := u_known (args := #[]) (ws := z_TB) (C := RX1) (T := TX1) (N := 6) (n := 6) (fun w hw => hT.use hw) zi_X1 (hT.use kin_X1)
  obtain ⟨c2, i2, k2⟩ := u_known (args := #[]) (ws := z_TB) (C := RX2) (T := TX2) (N := 6) (n := 6) (fun w hw => hT.use hw) zi_X2 (hT.use kin_X2)
  obtain ⟨c3, i3, k3⟩ := u_known (args := #[]) (ws := z_TB) (C := RX3) (T := TX3) (N := 4) (n := 4) (fun w hw => hT.use hw) zi_X3 (hT.use kin_X3)
  obtain ⟨c4, i4, k4⟩ := u_known (args := #[]) (ws := z_TB) (C := RX4) (T := TX4) (N := 1) (n := 1) (fun w hw => hT.use hw) zi_X4 (hT.use kin_X4)
  obtain ⟨c5, i5, k5⟩ := u_known (args := #[]) (ws := z_TB) (C := RX5) (T := TX5) (N := 7) (n := 7) (fun w hw => hT.use hw) zi_X5 (hT.use kin_X5)
  obtain ⟨c6, i6, k6⟩ := u_known (args := #[]) (ws := z_TB) (C := RX6) (T := TX6) (N := 4) (n := 4) (fun w hw => hT.use hw) zi_X6 (hT.use kin_X6)
  obtain ⟨aI, aI1, aI2⟩ := z_arrP (args := #[]) (s := s) (ty := .int) rfl (hT.use zo_ar8)
  obtain ⟨aZ, aZ1, aZ2⟩ := z_arrP (args := #[]) (s := s) (ty := .boolean) rfl (hT.use zo_ar9)
  obtain ⟨aL, aL1, aL2⟩ := z_arrP (args := #[]) (s := s) (ty := .long) rfl (hT.use zo_ar10)
  obtain ⟨aD, aD1, aD2⟩ := z_arrQ (args := #[]) (s := s) (C := RX0) (hT.use zo_ov_X0)
  obtain ⟨aS, aS1, aS2⟩ := z_arrQ (args := #[]) (s := s) (C := RX2) (hT.use zo_ov_X2)
  obtain ⟨aG, aG1, aG2⟩ := z_arrQ (args := #[]) (s := s) (C := RX1) (hT.use zo_ov_X1)
  refine ⟨(fun k => [c0, c1, c2, c3, c4, c5, c6].getD k 0, fun k => [i0, i1, i2, i3, i4, i5, i6].getD k (fun _ => 0), fun k => [aI, aZ, aL, aD, aS, aG].getD (k - 8) 0), ?_, ?_⟩
  · intro k q hq
    match k, hq with
    | 0, hq => cases hq; exact k0
    | 1, hq => cases hq; exact k1
    | 2, hq => cases hq; exact k2
    | 3, hq => cases hq; exact k3
    | 4, hq => cases hq; exact k4
    | 5, hq => cases hq; exact k5
    | 6, hq => cases hq; exact k6
    | k + 7, hq => simp [vwCl] at hq
  · intro k q hq
    match k, hq with
    | 0, hq => cases hq; exact ⟨aI1, aI2⟩
    | 1, hq => cases hq; exact ⟨aZ1, aZ2⟩
    | 2, hq => cases hq; exact ⟨aL1, aL2⟩
    | 3, hq => cases hq; exact ⟨aD1, aD2⟩
    | 4, hq => cases hq; exact ⟨aS1, aS2⟩
    | 5, hq => cases hq; exact ⟨aG1, aG2⟩
    | k + 6, hq => simp [z_tys] at hq
theorem z_toGW {Γ : zC} {G : zG} {b cs ss pc : Nat} {E : Nat → va_E} {lv : List (Nat × Value)} {st : List Value} {M : zM} (h : ∀ k, k < 176 → E k = z_ent G b M k) (K : GW Γ G b cs ss M pc lv st) : GE Γ G b cs ss 176 E pc lv st := fun H locs ls hW hS hl => K H locs ls (fun k hk => by rw [← h k hk]; exact hW k hk) hS hl
set_option maxRecDepth 100000 in
set_option maxHeartbeats 4000000 in
theorem tL_from {l : Launch} (hl : l.stackTraces = false) (G : zG) (b sb L : Nat) (xs : Nat → Int32) (hL : L ≤ 260) (kk : Nat) (hk : kk < 2 ^ 20) (below : Int32) (hbe : ¬ below = 0) (M : zM) : z_MF l yL_from cL_from 4 (some .int) G b sb L xs [.ref sb, .int (nI kk), .int below] M (some (.int (z_frm L xs (nI kk) below))) := by
  refine z_metf (own := RL) hl (by decide) rfl rfl (fun Γ hΓ X R hX hb9 => ?_)
  subst hΓ
  show GW Γ G b 0 0 M 0 [(0, .ref sb), (1, .int (nI kk)), (2, .int below)] []
  have tail : ∀ its : Int32, its = z_fri L xs (nI kk) → GW Γ G b 0 0 M 26 [(0, .ref sb), (1, .int (nI kk)), (2, .int below)] [.int its] := by
    intro its hits
    subst hits
    refine r_istore_n X dL_from_26 27 rfl [(2, .int below), (3, .int (z_fri L xs (nI kk)))] (by decide) [3, 0] rfl ?_
    refine r_iload_n X 1 rfl dL_from_27 28 rfl ?_
    refine r_ldc (v := (2147483647 : Int32)) X kw_L_8 dL_from_28 30 rfl ?_
    refine r_iand X dL_from_30 31 rfl ?_
    refine r_iload_n X 0 rfl dL_from_31 32 rfl ?_
    refine r_irem X hbe dL_from_32 33 rfl ?_
    exact r_iret X R rfl dL_from_33
  refine r_aload_n (x := sb) X 0 rfl dL_from_0 1 rfl ?_
  refine r_slen X hX hb9 dL_from_1 2 rfl ?_
  refine r_if_ne X dL_from_2 15 (by decide) 5 rfl (fun c => ?_) (fun c => ?_)
  · have h0 : 0 < L := by
      rcases Nat.eq_zero_or_pos L with q | q
      · subst q
        exact absurd rfl c
      · exact q
    have hr : nI kk - nI kk / nI L * nI L = nI (kk % L) := pk_rem (by omega) h0 (by omega)
    have hs : z_sr L xs (nI kk - nI kk / nI L * nI L) (xs (nI kk - nI kk / nI L * nI L).toNatClampNeg) := ⟨by rw [hr]; exact vp_in_nI (Nat.mod_lt _ h0) (by omega), rfl⟩
    refine r_aload_n (x := sb) X 0 rfl dL_from_15 16 rfl ?_
    refine r_iload_n X 1 rfl dL_from_16 17 rfl ?_
    refine r_aload_n (x := sb) X 0 rfl dL_from_17 18 rfl ?_
    refine r_slen X hX hb9 dL_from_18 19 rfl ?_
    refine r_irem X c dL_from_19 20 rfl ?_
    refine r_sld X hX hb9 hs dL_from_20 21 rfl ?_
    refine r_ldc (v := (71993 : Int32)) X kw_L_7 dL_from_21 23 rfl ?_
    refine r_iload_n X 1 rfl dL_from_23 24 rfl ?_
    refine r_imul X dL_from_24 25 rfl ?_
    refine r_ixor X dL_from_25 26 rfl ?_
    exact tail _ (by unfold z_fri; rw [if_neg c])
  · refine r_bipush (v := 53) X rfl dL_from_5 7 rfl ?_
    refine r_iload_n X 1 rfl dL_from_7 8 rfl ?_
    refine r_imul X dL_from_8 9 rfl ?_
    refine r_bipush (v := 7) X rfl dL_from_9 11 rfl ?_
    refine r_iadd X dL_from_11 12 rfl ?_
    refine r_goto X dL_from_12 26 (by decide) ?_
    exact tail _ (by unfold z_fri; rw [if_pos c])
theorem z_frm_ok (L : Nat) (xs : Nat → Int32) (k : Int32) {n : Nat} (h0 : 0 < n) (hn : n < 2 ^ 31) : ∃ j, j < n ∧ z_frm L xs k (nI n) = nI j := by
  have h1 : ∃ j : Nat, j < 2 ^ 31 ∧ z_fri L xs k &&& 2147483647 = nI j := pk_andE _ 31 rfl
  obtain ⟨j, hj, e⟩ := h1
  refine ⟨j % n, Nat.mod_lt _ h0, ?_⟩
  unfold z_frm
  rw [e]
  exact pk_rem hj h0 hn
/-- what the memory's part of the proof owes: a predicate that holds behind the start, is kept by every step, and makes each step's answer true -/
def z_Inv (P : Nat → zM → Prop) : Prop := (∃ M9, fL_keep 169 170 171 172 173 174 (z_st (z_st z_M0 171 0 1) 171 4 1) = some M9 ∧ P 0 M9) ∧ ∀ (n j1 j2 j3 : Nat) (M : zM), n < 150 → j1 < 24 → j2 < 10000 → j3 < 3 → P n M → ∃ M9, fL_step (nI j1) (nI j2) (nI j3) (nI n) M = some (1, M9) ∧ P (n + 1) M9
set_option maxRecDepth 100000 in
set_option maxHeartbeats 4000000 in
theorem law_loop {Γ : zC} {G : zG} {b sb L : Nat} {xs : Nat → Int32} {P : Nat → zM → Prop} (hP : z_Inv P) (hL : L ≤ 260) (X : z_CX Γ G b 18 cL_holds RL z_rmO) (hl : Γ.2.1.stackTraces = false) (hX : va_X sb L xs (z_s Γ) (z_s Γ).heap) (hb9 : sb < (z_s Γ).heap.size ∧ sb < b)
    (K : ∀ (cs ss : Nat) (M : zM) (lv : List (Nat × Value)), cs ≤ 326 → ss ≤ 9102 → GW Γ G b cs ss M 647 lv [.int 1]) :
    ∀ (r n : Nat) (M : zM), P n M → n + r = 151 → n ≤ 150 → GW Γ G b (176 + n) (8202 + 6 * n) M 76 ([(0, .ref sb), (1, .ref (b + 0)), (2, .ref (b + 169)), (3, .ref (b + 170)), (4, .ref (b + 171)), (5, .ref (b + 172)), (6, .ref (b + 173)), (7, .ref (b + 174)), (8, .ref (b + 175))] ++ [(9, .int 1), (10, .int (nI n))]) [] := by
  intro r
  induction r with
  | zero =>
    intro n M _ h1 h2
    exfalso
    omega
  | succ r ih =>
    intro n M hM h1 h2
    refine r_iload X 10 rfl dL_holds_76 78 rfl ?_
    refine r_sipush (v := 150) X rfl dL_holds_78 81 rfl ?_
    by_cases hc : n < 150
    · refine r_icmp_ge X dL_holds_81 645 (by decide) 84 rfl (fun q => absurd q (nI_ge (a := n) (b := 150) hc (by decide))) (fun _ => ?_)
      refine r_iload X 9 rfl dL_holds_84 86 rfl ?_
      refine r_if_eq X dL_holds_86 645 (by decide) 89 rfl (fun q => absurd q (by decide)) (fun _ => ?_)
      refine r_sub ([(0, .ref sb), (1, .ref (b + 0)), (2, .ref (b + 169)), (3, .ref (b + 170)), (4, .ref (b + 171)), (5, .ref (b + 172)), (6, .ref (b + 173)), (7, .ref (b + 174)), (8, .ref (b + 175))] ++ [(10, .int (nI n))]) [0, 1, 2, 3, 4, 5, 6, 7, 8, 10] rfl ?_
      obtain ⟨j1, g1, e1⟩ := z_frm_ok L xs (nI (3 * n)) (n := 24) (by decide) (by decide)
      obtain ⟨j2, g2, e2⟩ := z_frm_ok L xs (nI (3 * n + 1)) (n := 10000) (by decide) (by decide)
      obtain ⟨j3, g3, e3⟩ := z_frm_ok L xs (nI (3 * n + 2)) (n := 3) (by decide) (by decide)
      have k1 : (3 : Int32) * nI n = nI (3 * n) := pk_mul 3 n
      have k2 : (3 : Int32) * nI n + 1 = nI (3 * n + 1) := by rw [k1]; exact nI_add _ _
      have k3 : (3 : Int32) * nI n + 2 = nI (3 * n + 2) := by rw [k1]; exact nI_add _ _
      obtain ⟨M9, hM9, hP9⟩ := hP.2 n j1 j2 j3 M hc g1 g2 g3 hM
      refine tL_step X hl hX hb9 ⟨by show _ ≤ 326; omega, by show _ ≤ 9102; omega⟩ (nI j1) (nI j2) (nI j3) M (by rw [k1, ← e1]; exact tL_from hl G b sb L xs hL (3 * n) (by omega) 24 (by decide) M) (by rw [k2, ← e2]; exact tL_from hl G b sb L xs hL (3 * n + 1) (by omega) 10000 (by decide) M) (by rw [k3, ← e3]; exact tL_from hl G b sb L xs hL (3 * n + 2) (by omega) 3 (by decide) M) hM9 ?_
      refine r_iinc X dL_holds_639 642 rfl ([(0, .ref sb), (1, .ref (b + 0)), (2, .ref (b + 169)), (3, .ref (b + 170)), (4, .ref (b + 171)), (5, .ref (b + 172)), (6, .ref (b + 173)), (7, .ref (b + 174)), (8, .ref (b + 175))] ++ [(9, .int 1), (10, .int (nI (n + 1)))]) (by decide) 10 rfl (nI (n + 1)) (nI_1 n) [1, 2, 3, 4, 5, 6, 7, 8, 9, 10, 0] rfl ?_
      refine r_goto X dL_holds_642 76 (by decide) ?_
      exact ih (n + 1) M9 hP9 (by omega) (by omega)
    · have hn : n = 150 := by omega
      subst hn
      refine r_icmp_ge X dL_holds_81 645 (by decide) 84 rfl (fun _ => ?_) (fun q => absurd (nI_le (Nat.le_refl _) (by decide)) q)
      refine r_iload X 9 rfl dL_holds_645 647 rfl ?_
      exact K _ _ M _ (by omega) (by omega)
/-! ===== holds ===== -/
def z_BH (G : zG) (b sb L : Nat) (xs : Nat → Int32) (U : State) : Prop := U.heap.size = b ∧ z_K G U ∧ z_TW U ∧ z_X b U ∧ va_X sb L xs U U.heap ∧ sb < b
theorem z_blindH {G : zG} {b sb L : Nat} {xs : Nat → Int32} {As : List Value} : FrameBlind (va_Pc As (z_BH G b sb L xs)) := by
  intro a U g mk q
  obtain ⟨q0, qs, q2, q3, ⟨qn, q4, q5, q6⟩, q7, q8⟩ := q
  exact ⟨q0, qs, va_K.moved (u := U) (U := U.calling g mk a) (Vm.Alike.refl U.vm) q2, z_TW.same (s := U) (U := U.calling g mk a) rfl q3, ⟨fun z hz => va_Nc.moved (u := U) (U := U.calling g mk a) (Vm.Alike.refl U.vm) (qn z hz), vx_Zq.moved (u := U) (U := U.calling g mk a) (Vm.Alike.refl U.vm) q4, vx_Zq.moved (u := U) (U := U.calling g mk a) (Vm.Alike.refl U.vm) q5, fun z hz => by
    obtain ⟨x, hx⟩ := q6 z hz
    exact ⟨x, vk_R.same (u := U) (U := U.calling g mk a) rfl hx⟩⟩, va_X.moved (u := U) (U := U.calling g mk a) (Vm.Alike.refl U.vm) q7, q8⟩
theorem z_toBH {G : zG} {b sb L : Nat} {xs : Nat → Int32} {s U : State} (h : z_BH G b sb L xs s) (hU : U.heap = s.heap) (hw : s.WarmedH U.vm) : z_BH G b sb L xs U := by
  obtain ⟨hsz, hK, hT, hX, hX9, hb9⟩ := h
  refine ⟨by rw [hU]; exact hsz, va_K.moved hw.alike hK, hT.warm hw, hX.kept (H := s.heap) (locs := []) va_S.rf hU hw, ?_, hb9⟩
  rw [hU]
  exact va_X.moved hw.alike hX9
def z_MO (l : Launch) (G : zG) (b sb L : Nat) (xs : Nat → Int32) : Prop := Met l yL_holds [.code yL_holds cL_holds 18 (some .boolean)] z_rmO (va_Pc [.ref sb] (z_BH G b sb L xs)) (z_Q (some (.int 1)) (fun _ => True) b) 326 9102 (fun q => b ≤ q)
theorem z_J0 : z_jj (fun _ => 0) = fun _ => 0 := by
  funext j
  show z_JJ 0 0 = 0
  decide
set_option maxRecDepth 100000 in
set_option maxHeartbeats 4000000 in
theorem tL_holds {l : Launch} {P : Nat → zM → Prop} (hP : z_Inv P) (hst : l.stackTraces = false) (G : zG) (b sb L : Nat) (xs : Nat → Int32) (hL : L ≤ 260) : z_MO l G b sb L xs := by
  refine Met.ofW (cc := cL_holds) (maxL := 18) (ret := some .boolean) (by decide) rfl ?_
  intro p e s m args below meth c s₁ B hml hv
  obtain ⟨rfl, hsz, hK, hT, hX1, hX9, hb9⟩ := hv
  obtain ⟨Γ, hΓ⟩ : ∃ Γ : zC, Γ = (p, l, e, z_rmO, s, m, ([.ref sb] : List Value).toArray, below, meth, c, MQ below (z_Q (some (.int 1)) (fun _ => True) b) ([.ref sb] : List Value).toArray s 326 9102 (fun q => b ≤ q)) := ⟨_, rfl⟩
  have X : z_CX Γ G b 18 cL_holds RL z_rmO := by
    rw [hΓ]
    exact ⟨B.exec, B.bytes, hml, findClass_of_methodNamed B.named, hT, hK, hX1, rfl, B.notSynchronized, hst⟩
  have hl : Γ.2.1.stackTraces = false := by rw [hΓ]; exact hst
  have hs9 : z_s Γ = s := by rw [hΓ]; rfl
  have h0 : (z_s Γ).heap.size = b + 0 := by rw [hs9]; exact hsz
  have hX8 : va_X sb L xs (z_s Γ) (z_s Γ).heap := by rw [hs9]; exact hX9
  have hb8 : sb < (z_s Γ).heap.size ∧ sb < b := ⟨by rw [hs9, hsz]; exact hb9, hb9⟩
  have Kend : ∀ (cs ss : Nat) (M : zM) (lv : List (Nat × Value)), cs ≤ 326 → ss ≤ 9102 → GW Γ G b cs ss M 647 lv [.int 1] := by
    intro cs ss M lv h1 h2
    rw [hΓ]
    intro H locs ls hW hS hl9
    exact W.widen h1 h2 (W.zret B.exec B.bytes B.returns rfl (fun t ht hw => ⟨rfl, trivial, hS.F ht⟩) hS.2.2 dL_holds_647 B.notSynchronized)
  obtain ⟨M9, hM9, hP9⟩ := hP.1
  have main : GE Γ G b 0 0 0 (fun _ => .inr (0, [])) 0 [(0, .ref sb)] [] := by
    refine e_new (c := 6) (fs := [.null, .null, .null, .null]) X h0 (by omega) zi_X6 tyX6_ok kcl_L_43 kin_X6 kini_X6 zv_X6 (fun j hj => by rcases (show j = 0 ∨ j = 1 ∨ j = 2 ∨ j = 3 by omega) with rfl | rfl | rfl | rfl <;> rfl) ⟨by decide, by decide⟩ dL_holds_0 3 rfl ?_
    refine e_dup X rfl dL_holds_3 4 rfl ?_
    refine e_callI (rest := [.ref (b + 0)]) (h9 := 0) X h0 ⟨by omega, by omega⟩ (tX6_init hl G b 0 rfl _ z_up_s) zy_X6_init zoi_X6 km_L_217 rfl ⟨rfl, rfl⟩ ⟨rfl, rfl⟩ rfl rfl (Nat.le_of_ble_eq_true rfl) ⟨by decide, by decide⟩ dL_holds_4 7 rfl ?_
    refine e_astore_n X dL_holds_7 8 rfl [(0, .ref sb), (1, .ref (b + 0))] (by decide) [1, 0] rfl ?_
    refine e_bipush (v := 28) X rfl dL_holds_8 10 rfl ?_
    refine e_newa (nn := 28) (n := 28) (t9 := 0) (c := 8) (ty := .int) (at9 := .int) (a0 := (28, .inl (fun _ => 0))) X h0 (by omega) zo_ar8 rfl rfl (fun _ h => by cases h) (fun _ => rfl) (by decide) rfl rfl ⟨by decide, by decide⟩ dL_holds_10 12 rfl ?_
    refine e_astore_n X dL_holds_12 13 rfl [(0, .ref sb), (1, .ref (b + 0)), (2, .ref (b + 169))] (by decide) [1, 2, 0] rfl ?_
    refine e_bipush (v := 64) X rfl dL_holds_13 15 rfl ?_
    refine e_newa (nn := 64) (n := 64) (t9 := 2) (c := 10) (ty := .long) (at9 := .long) (a0 := (64, .inr (.inl (fun _ => 0)))) X h0 (by omega) zo_ar10 rfl rfl (fun _ h => by cases h) (fun _ => rfl) (by decide) rfl rfl ⟨by decide, by decide⟩ dL_holds_15 17 rfl ?_
    refine e_astore_n X dL_holds_17 18 rfl [(0, .ref sb), (1, .ref (b + 0)), (2, .ref (b + 169)), (3, .ref (b + 170))] (by decide) [1, 2, 3, 0] rfl ?_
    refine e_bipush (v := 32) X rfl dL_holds_18 20 rfl ?_
    refine e_newa (nn := 32) (n := 32) (t9 := 0) (c := 8) (ty := .int) (at9 := .int) (a0 := (32, .inl (fun _ => 0))) X h0 (by omega) zo_ar8 rfl rfl (fun _ h => by cases h) (fun _ => rfl) (by decide) rfl rfl ⟨by decide, by decide⟩ dL_holds_20 22 rfl ?_
    refine e_astore X dL_holds_22 24 rfl [(0, .ref sb), (1, .ref (b + 0)), (2, .ref (b + 169)), (3, .ref (b + 170)), (4, .ref (b + 171))] (by decide) [1, 2, 3, 4, 0] rfl ?_
    refine e_bipush (v := 28) X rfl dL_holds_24 26 rfl ?_
    refine e_newa (nn := 28) (n := 28) (t9 := 0) (c := 8) (ty := .int) (at9 := .int) (a0 := (28, .inl (fun _ => 0))) X h0 (by omega) zo_ar8 rfl rfl (fun _ h => by cases h) (fun _ => rfl) (by decide) rfl rfl ⟨by decide, by decide⟩ dL_holds_26 28 rfl ?_
    refine e_astore X dL_holds_28 30 rfl [(0, .ref sb), (1, .ref (b + 0)), (2, .ref (b + 169)), (3, .ref (b + 170)), (4, .ref (b + 171)), (5, .ref (b + 172))] (by decide) [1, 2, 3, 4, 5, 0] rfl ?_
    refine e_bipush (v := 64) X rfl dL_holds_30 32 rfl ?_
    refine e_newa (nn := 64) (n := 64) (t9 := 2) (c := 10) (ty := .long) (at9 := .long) (a0 := (64, .inr (.inl (fun _ => 0)))) X h0 (by omega) zo_ar10 rfl rfl (fun _ h => by cases h) (fun _ => rfl) (by decide) rfl rfl ⟨by decide, by decide⟩ dL_holds_32 34 rfl ?_
    refine e_astore X dL_holds_34 36 rfl [(0, .ref sb), (1, .ref (b + 0)), (2, .ref (b + 169)), (3, .ref (b + 170)), (4, .ref (b + 171)), (5, .ref (b + 172)), (6, .ref (b + 173))] (by decide) [1, 2, 3, 4, 5, 6, 0] rfl ?_
    refine e_bipush (v := 32) X rfl dL_holds_36 38 rfl ?_
    refine e_newa (nn := 32) (n := 32) (t9 := 0) (c := 8) (ty := .int) (at9 := .int) (a0 := (32, .inl (fun _ => 0))) X h0 (by omega) zo_ar8 rfl rfl (fun _ h => by cases h) (fun _ => rfl) (by decide) rfl rfl ⟨by decide, by decide⟩ dL_holds_38 40 rfl ?_
    refine e_astore X dL_holds_40 42 rfl [(0, .ref sb), (1, .ref (b + 0)), (2, .ref (b + 169)), (3, .ref (b + 170)), (4, .ref (b + 171)), (5, .ref (b + 172)), (6, .ref (b + 173)), (7, .ref (b + 174))] (by decide) [1, 2, 3, 4, 5, 6, 7, 0] rfl ?_
    refine e_iconst (v := 4) X rfl dL_holds_42 43 rfl ?_
    refine e_newa (nn := 4) (n := 4) (t9 := 0) (c := 8) (ty := .int) (at9 := .int) (a0 := (4, .inl (fun _ => 0))) X h0 (by omega) zo_ar8 rfl rfl (fun _ h => by cases h) (fun _ => rfl) (by decide) rfl rfl ⟨by decide, by decide⟩ dL_holds_43 45 rfl ?_
    refine e_astore X dL_holds_45 47 rfl [(0, .ref sb), (1, .ref (b + 0)), (2, .ref (b + 169)), (3, .ref (b + 170)), (4, .ref (b + 171)), (5, .ref (b + 172)), (6, .ref (b + 173)), (7, .ref (b + 174)), (8, .ref (b + 175))] (by decide) [1, 2, 3, 4, 5, 6, 7, 8, 0] rfl ?_
    refine z_toGW (M := z_M0) (fun k hk => ?_) ?_
    · rcases (by omega : k < 169 ∨ k = 169 ∨ k = 170 ∨ k = 171 ∨ k = 172 ∨ k = 173 ∨ k = 174 ∨ k = 175) with q | rfl | rfl | rfl | rfl | rfl | rfl | rfl
      · rw [z_up_n (by omega), z_up_n (by omega), z_up_n (by omega), z_up_n (by omega), z_up_n (by omega), z_up_n (by omega), z_up_n (by omega)]
        exact z_mk_ge (by omega)
      · rw [z_up_n (by decide), z_up_n (by decide), z_up_n (by decide), z_up_n (by decide), z_up_n (by decide), z_up_n (by decide), z_up_s, z_ent_a (c := 8) rfl (by decide)]
        rfl
      · rw [z_up_n (by decide), z_up_n (by decide), z_up_n (by decide), z_up_n (by decide), z_up_n (by decide), z_up_s, z_ent_a (c := 10) rfl (by decide)]
        show Sum.inl (_, (64, Sum.inr (Sum.inl (fun _ => 0)))) = Sum.inl (_, (64, Sum.inr (Sum.inl (z_jj (fun _ => 0)))))
        rw [z_J0]
      · rw [z_up_n (by decide), z_up_n (by decide), z_up_n (by decide), z_up_n (by decide), z_up_s, z_ent_a (c := 8) rfl (by decide)]
        rfl
      · rw [z_up_n (by decide), z_up_n (by decide), z_up_n (by decide), z_up_s, z_ent_a (c := 8) rfl (by decide)]
        rfl
      · rw [z_up_n (by decide), z_up_n (by decide), z_up_s, z_ent_a (c := 10) rfl (by decide)]
        show Sum.inl (_, (64, Sum.inr (Sum.inl (fun _ => 0)))) = Sum.inl (_, (64, Sum.inr (Sum.inl (z_jj (fun _ => 0)))))
        rw [z_J0]
      · rw [z_up_n (by decide), z_up_s, z_ent_a (c := 8) rfl (by decide)]
        rfl
      · rw [z_up_s, z_ent_a (c := 8) rfl (by decide)]
        rfl
    · refine r_aload X 4 rfl dL_holds_47 49 rfl ?_
      refine r_iconst (v := 0) X rfl dL_holds_49 50 rfl ?_
      refine r_iconst (v := 1) X rfl dL_holds_50 51 rfl ?_
      refine r_iastore (k := 171) (n := 32) X rfl rfl (show z_sa z_M0 171 32 0 1 = some (z_st z_M0 171 0 1) from rfl) dL_holds_51 52 rfl ?_
      refine r_aload X 4 rfl dL_holds_52 54 rfl ?_
      refine r_iconst (v := 4) X rfl dL_holds_54 55 rfl ?_
      refine r_iconst (v := 1) X rfl dL_holds_55 56 rfl ?_
      refine r_iastore (k := 171) (n := 32) X rfl rfl (show z_sa (z_st z_M0 171 0 1) 171 32 4 1 = some (z_st (z_st z_M0 171 0 1) 171 4 1) from rfl) dL_holds_56 57 rfl ?_
      refine r_aload_n X 2 rfl dL_holds_57 58 rfl ?_
      refine r_aload_n X 3 rfl dL_holds_58 59 rfl ?_
      refine r_aload X 4 rfl dL_holds_59 61 rfl ?_
      refine r_aload X 5 rfl dL_holds_61 63 rfl ?_
      refine r_aload X 6 rfl dL_holds_63 65 rfl ?_
      refine r_aload X 7 rfl dL_holds_65 67 rfl ?_
      refine r_callS (rest := []) X (tL_keep hl G b 169 rfl rfl 170 rfl 171 rfl rfl 172 rfl rfl 173 rfl 174 rfl rfl _ hM9) zy_L_keep zs_L_keep km_L_218 rfl ⟨rfl, rfl⟩ ⟨rfl, rfl⟩ rfl rfl (Nat.le_of_ble_eq_true rfl) ⟨by decide, by decide⟩ dL_holds_67 70 rfl [] rfl ?_
      refine r_iconst (v := 1) X rfl dL_holds_70 71 rfl ?_
      refine r_istore X dL_holds_71 73 rfl ([(0, .ref sb), (1, .ref (b + 0)), (2, .ref (b + 169)), (3, .ref (b + 170)), (4, .ref (b + 171)), (5, .ref (b + 172)), (6, .ref (b + 173)), (7, .ref (b + 174)), (8, .ref (b + 175))] ++ [(9, .int 1)]) (by decide) [1, 2, 3, 4, 5, 6, 7, 8, 9, 0] rfl ?_
      refine r_iconst (v := 0) X rfl dL_holds_73 74 rfl ?_
      refine r_istore X dL_holds_74 76 rfl ([(0, .ref sb), (1, .ref (b + 0)), (2, .ref (b + 169)), (3, .ref (b + 170)), (4, .ref (b + 171)), (5, .ref (b + 172)), (6, .ref (b + 173)), (7, .ref (b + 174)), (8, .ref (b + 175))] ++ [(9, .int 1), (10, .int (nI 0))]) (by decide) [1, 2, 3, 4, 5, 6, 7, 8, 9, 10, 0] rfl ?_
      exact law_loop hP hL X hl hX8 hb8 Kend 151 0 M9 hP9 rfl (by decide)
  have hl9 := lv_entry ([.ref sb]) (n := 18) (Nat.le_of_ble_eq_true rfl)
  rw [lg_entry_eq]
  rw [hΓ] at main
  exact main s.heap [] _ (fun k hk => absurd hk (Nat.not_lt_zero k)) va_S.rf (by rw [show (z_c (p, l, e, z_rmO, s, m, ([.ref sb] : List Value).toArray, below, meth, c, MQ below (z_Q (some (.int 1)) (fun _ => True) b) ([.ref sb] : List Value).toArray s 326 9102 (fun q => b ≤ q))).maxLocals = 18 from hml]; exact hl9)
/-! ===== isHeld and law ===== -/
def z_rmI : Room := { frames := z_rmO.frames + 1, cells := 326, slots := 9102, locals := 8 + (18 + 11) + z_rmO.locals }
def z_MI (l : Launch) (G : zG) (b sb L : Nat) (xs : Nat → Int32) : Prop := vx_Met l yL_isHeld [.codeWith yL_isHeld cL_isHeld 2 (some .boolean) [(0, 4, 5, 254), (0, 4, 8, 256), (0, 4, 11, 184)]] z_rmI (va_Pc [.ref sb] (z_BH G b sb L xs)) (z_Q (some (.int 1)) (fun _ => True) b) (fun _ _ _ => False) 326 9102 (fun q => b ≤ q)
set_option maxRecDepth 100000 in
set_option maxHeartbeats 4000000 in
theorem tL_isHeld {l : Launch} (hst : l.stackTraces = false) {G : zG} {b sb L : Nat} {xs : Nat → Int32} (hO : z_MO l G b sb L xs) : z_MI l G b sb L xs := by
  refine vx_ofWH (cc := cL_isHeld) (maxL := 2) (ret := some .boolean) (hh := [(0, 4, 5, 254), (0, 4, 8, 256), (0, 4, 11, 184)]) (by decide) rfl ?_
  intro p e s m args below meth c s₁ B hml hv
  obtain ⟨rfl, hv⟩ := hv
  have hT := hv.2.2.1
  have hown : s.vm.findClass RL = some m.cls := findClass_of_methodNamed B.named
  have hl9 := lv_entry ([.ref sb]) (n := 2) (Nat.le_of_ble_eq_true rfl)
  rw [lg_entry_eq]
  refine lv_aload_n (x := sb) B.exec B.bytes dL_isHeld_0 rfl (lv_at hl9 0 rfl) ?_
  refine z_runG (va_runS (cc := cL_isHeld) (nL := 2) (As := [.ref sb]) (rest := []) ⟨B.exec, B.bytes, hml, hown, fun w (hw : w ∈ z_TB) => hT.use hw⟩ hO (cwS 1 (fun w (hw : w ∈ z_TB) => hT.use hw) (z_goodS zy_L_holds zs_L_holds km_L_250 rfl) rfl rfl rfl ⟨rfl, zy_L_holds.1⟩ ⟨Nat.le_refl _, Nat.le_refl _⟩) ⟨z_blindH, fun U hU hw => ⟨rfl, z_toBH hv hU hw⟩⟩ rfl rfl hl9.1 rfl (lv_room (by decide)) dL_isHeld_1 ⟨by decide, by decide⟩) va_S.rf (fun U locs1 _ hS1 => ?_)
  exact vx_ret (W.zret B.exec B.bytes B.returns rfl (fun t ht hw => ⟨rfl, trivial, hS1.F ht⟩) hS1.2.2 dL_isHeld_4 B.notSynchronized)
set_option maxRecDepth 100000 in
set_option maxHeartbeats 4000000 in
theorem z_whole {P : Nat → zM → Prop} (hP : z_Inv P) {p : Program} {e : Env} {s : State} {m : MethodId} {below : List Frame} {meth : Method} {c : Code} (l : Launch) (hflags : l.flags = flags0) {b L : Nat} {xs : Nat → Int32} (hL : L ≤ 260) (hx : p.tables.exec = Jvm.exec) (hb : c.code = code) (hr : meth.sig.returnType = ret) (hml : c.maxLocals = 1) (hown : s.vm.findClass RL = some m.cls) (hts : ∀ w ∈ lw_tbl, w.before #[Value.ref b] s = true) (hX : va_X b L xs s s.heap) (hbl : b < s.heap.size) (hlocks : meth.locks = false) (hgv : (Jvm.Cond.and given_1 narrow_1).before #[Value.ref b] s = true) {Q : State → Prop}
    (hend : ∀ (H : Heap) (ls : Array Slot), W p l e room_1 s m #[Value.ref b] below meth c H [] 600074 7301550 Q (F0 m 4 ls [.int 1])) : W p l e room_1 s m #[Value.ref b] below meth c s.heap [] 0 0 Q (entryFrame m ([Value.ref b] : List Value).toArray 1) := by
  have hst : l.stackTraces = false := by
    unfold Launch.stackTraces
    rw [hflags]
    rfl
  have hT : z_TW s := fun w hw => z_ok_args (List.mem_filter.mp hw).2 (hts w (List.mem_filter.mp hw).1)
  obtain ⟨G, hK⟩ := z_startK hts hT
  have hX9 : z_X s.heap.size s := z_startX hts hgv
  have hv : z_BH G s.heap.size b L xs s := ⟨rfl, hK, hT, hX9, hX, hbl⟩
  have hI := tL_isHeld hst (tL_holds hP hst G s.heap.size b L xs hL)
  have hl9 := lv_entry ([.ref b]) (n := 1) (Nat.le_of_ble_eq_true rfl)
  rw [lg_entry_eq]
  refine lv_aload_n (x := b) hx hb dL_law_0 rfl (lv_at hl9 0 rfl) ?_
  have hY := zyh_L_isHeld
  have hG : GoodIn z_TB (va_wsS RL 258 yL_isHeld [.codeWith yL_isHeld cL_isHeld 2 (some .boolean) [(0, 4, 5, 254), (0, 4, 8, 256), (0, 4, 11, 184)]]) := by
    intro w hw
    simp only [va_wsS, List.cons_append, List.nil_append, List.mem_cons, List.not_mem_nil, or_false] at hw
    rcases hw with rfl | rfl | rfl | rfl
    · exact ⟨km_L_258, good_of_word rfl⟩
    · exact ⟨hY.2.2.1, good_of_word rfl⟩
    · exact ⟨hY.2.1, good_of_word rfl⟩
    · exact ⟨hY.2.2.2, good_of_word rfl⟩
  have hr9 := vx_runSX (l := l) (e := e) (args := #[Value.ref b]) (R := room_1) (below := below) (meth := meth) (cc := code) (nL := 1) (As := [.ref b]) (rest := []) ⟨hx, hb, hml, hown, fun w (hw : w ∈ z_TB) => hT.use hw⟩ hI (vx_cwSW 1 (fun w (hw : w ∈ z_TB) => hT.use hw) hG rfl rfl rfl hY.1 ⟨Nat.le_of_ble_eq_true rfl, Nat.le_of_ble_eq_true rfl⟩) ⟨z_blindH, fun U hU hw => ⟨rfl, z_toBH hv hU hw⟩⟩ (g := F0 m 1 _ [.ref b]) (locs := []) (H := s.heap) (cells := 0) (slots := 0) rfl rfl hl9.1 rfl (lv_room (by decide)) dL_law_1 ⟨by decide, by decide⟩
  intro T hT9 X9
  rcases hr9 T hT9 X9 with ⟨v', st₀, t, T', L', h0, X', hL', e1, e2, ⟨hv', hB, hz, hk⟩, sg⟩ | ⟨q, st₀, t, T', L', E', ce, h0, X', hL', e1, e2, hF, -⟩
  · cases hv'
    obtain ⟨t2, a1, b1⟩ := (va_forget (fun q hq => hL' q hq) (W.widen (by decide) (by decide) (hend T'.heap _))) T' rfl X'
    exact ⟨t2, sg t2 a1, b1⟩
  · exact hF.elim
