/-! ===== the two JDK methods: Arrays.fill over ints (walked here), System.arraycopy (the kit's) ===== -/
theorem arrV_cg {cA : ClassId} {n : Nat} {f g : Nat → Int32} (h : ∀ j, j < n → f j = g j) : vp_cell cA (n, .inl f) = vp_cell cA (n, .inl g) := by
  rw [vp_cell_i, vp_cell_i]
  unfold arrV
  congr 2
  funext j
  show Value.int (f j.val) = Value.int (g j.val)
  rw [h j.val j.isLt]
theorem va_at_cg {D : va_G} {cl : List vw_C} {a : Nat} {cA : ClassId} {n : Nat} {f g : Nat → Int32} {H : Heap} (h : ∀ j, j < n → f j = g j) (ha : va_at D cl (a, .inl (cA, n, .inl f)) H) : va_at D cl (a, .inl (cA, n, .inl g)) H := by
  show H[a]? = _
  rw [← arrV_cg h]
  exact ha
set_option maxRecDepth 100000 in
set_option maxHeartbeats 4000000 in
theorem c_fill (l : Launch) (D : va_G) (cl : List vw_C) (cA : ClassId) (n : Nat) (hn : n < 2 ^ 31) (a sz : Nat) (f : Nat → Int32) (v : Int32) : Met l yJ7_fill_53178 [.code yJ7_fill_53178 cJ7_fill_53178 4 none] { frames := 0, cells := 0, slots := 0, locals := 0 } (va_Pc [.ref a, .int v] (fun U => U.heap.size = sz ∧ va_P D cl [(a, .inl (cA, n, .inl f))] U.heap ∧ va_K D cl [(cA, .int)] U)) (va_Qv (fun _ : Unit => True) (fun _ t => t.heap.size = sz ∧ va_P D cl [(a, .inl (cA, n, .inl (fun _ => v)))] t.heap) (fun q => q = a ∨ sz ≤ q)) 0 0 (fun q => q = a ∨ sz ≤ q) := by
  refine Met.ofW (cc := cJ7_fill_53178) (maxL := 4) (ret := none) (by decide) rfl ?_
  intro p e s m args below meth c s₁ B hml hv
  obtain ⟨rfl, hsz, hP, hK⟩ := hv
  have hx := B.exec
  have hb := B.bytes
  have hr := B.returns
  have hlocks := B.notSynchronized
  subst hsz
  have hl := lv_entry ([.ref a, .int v]) (n := 4) (Nat.le_of_ble_eq_true rfl)
  rw [lg_entry_eq]
  generalize (lg_sl ([.ref a, .int v]) ++ List.replicate (4 - (lg_sl ([.ref a, .int v])).length) Slot.unset).toArray = ls at hl ⊢
  have hl : lv_has ls 4 [(0, .ref a), (1, .int v)] := hl
  have hD : va_D (fun q => q = a ∨ s.heap.size ≤ q) [(a, .inl (cA, n, .inl f))] := ⟨fun i j p q hi hj _ => by
    have h1 : i < 1 := (List.getElem?_eq_some_iff.mp hi).1
    have h2 : j < 1 := (List.getElem?_eq_some_iff.mp hj).1
    omega, fun k q hk => by
    have h1 : k < 1 := (List.getElem?_eq_some_iff.mp hk).1
    have h2 : k = 0 := by omega
    subst h2
    cases hk
    exact Or.inl rfl⟩
  have hS : va_S (fun q => q = a ∨ s.heap.size ≤ q) s.heap s.heap [] := va_S.rf
  refine lv_iconst (v := 0) hx hb dJ7_fill_53178_0 rfl ?_
  refine lv_istore_n (lv' := [(2, .int 0), (0, .ref a), (1, .int v)]) hx hb dJ7_fill_53178_1 rfl hl (by decide) rfl (fun ls hl => ?_)
  refine lv_aload_n hx hb dJ7_fill_53178_2 rfl (lv_at hl 1 rfl) ?_
  refine va_alen (v := nI n) hx hb hK hP 0 0 rfl rfl rfl dJ7_fill_53178_3 ?_
  refine lv_istore_n (lv' := [(3, .int (nI n)), (2, .int 0), (0, .ref a), (1, .int v)]) hx hb dJ7_fill_53178_4 rfl hl (by decide) rfl (fun ls hl => ?_)
  have loop : ∀ (r j : Nat), j + r = n → ∀ (g : Nat → Int32) (H : Heap) (locs : List Loc) (ls : Array Slot), (∀ q, q < j → g q = v) → H.size = s.heap.size → va_P D cl [(a, .inl (cA, n, .inl g))] H → va_D (fun q => q = a ∨ s.heap.size ≤ q) [(a, .inl (cA, n, .inl g))] → va_S (fun q => q = a ∨ s.heap.size ≤ q) s.heap H locs → lv_has ls 4 [(3, .int (nI n)), (2, .int (nI j)), (0, .ref a), (1, .int v)] → W p l e (headSpec [.code yJ7_fill_53178 cJ7_fill_53178 4 none] { frames := 0, cells := 0, slots := 0, locals := 0 }).room s m [Value.ref a, Value.int v].toArray below meth c H locs 0 0 (MQ below (va_Qv (fun _ : Unit => True) (fun _ t => t.heap.size = s.heap.size ∧ va_P D cl [(a, .inl (cA, n, .inl (fun _ => v)))] t.heap) (fun q => q = a ∨ s.heap.size ≤ q)) [Value.ref a, Value.int v].toArray s 0 0 (fun q => q = a ∨ s.heap.size ≤ q)) (F0 m 5 ls []) := by
    intro r
    induction r with
    | zero =>
      intro j hj g H locs ls hg hsz hP hD hS hl
      refine lv_iload_n hx hb dJ7_fill_53178_5 rfl (lv_at hl 1 rfl) ?_
      refine lv_iload_n hx hb dJ7_fill_53178_6 rfl (lv_at hl 0 rfl) ?_
      refine lv_icmp_ge (tgt := 20) hx hb dJ7_fill_53178_7 (by decide) (fun _ => ?_) (fun c => absurd (nI_le (by omega) (by omega)) c)
      exact W.vret hx hb hr (fun t ht hW => ⟨⟨(), rfl, trivial, by rw [ht]; exact hsz, fun k q hk => by
        have h1 : k < 1 := (List.getElem?_eq_some_iff.mp hk).1
        have h2 : k = 0 := by omega
        subst h2
        cases hk
        rw [ht]
        exact va_at_cg (fun q hq => hg q (by omega)) (hP 0 _ rfl)⟩, hS.F ht⟩) hS.2.2 dJ7_fill_53178_20 hlocks
    | succ r ih =>
      intro j hj g H locs ls hg hsz hP hD hS hl
      refine lv_iload_n hx hb dJ7_fill_53178_5 rfl (lv_at hl 1 rfl) ?_
      refine lv_iload_n hx hb dJ7_fill_53178_6 rfl (lv_at hl 0 rfl) ?_
      refine lv_icmp_ge (tgt := 20) hx hb dJ7_fill_53178_7 (by decide) (fun c => absurd c (nI_ge (by omega) (by omega))) (fun _ => ?_)
      refine lv_aload_n hx hb dJ7_fill_53178_10 rfl (lv_at hl 2 rfl) ?_
      refine lv_iload_n hx hb dJ7_fill_53178_11 rfl (lv_at hl 1 rfl) ?_
      refine lv_iload_n hx hb dJ7_fill_53178_12 rfl (lv_at hl 3 rfl) ?_
      have hcell : H[a]? = some (vp_cell cA (n, .inl g)) := hP 0 _ rfl
      have hin : vp_in (nI j) n := vp_in_nI (by omega) (by omega)
      refine W.iast (cell := vp_cell cA (n, .inl g)) hx hb hcell ((hK.2 0 _ rfl).1 n (fun j => .int (g j))) (fun q => by cases q) (by show ¬ (nI j < 0 ∨ (arrV _ _ _).slots.size ≤ _); rw [arrV_size]; exact hin) rfl rfl dJ7_fill_53178_13 (fun H1 e z oq => ?_)
      refine W.eq (g2 := F0 m 14 ls []) rfl ?_
      have hat : va_at D cl (a, .inl (cA, n, .inl (upd g (nI j).toNatClampNeg v))) H1 := by
        show H1[a]? = some (vp_cell cA (n, .inl (upd g (nI j).toNatClampNeg v)))
        rw [e, vp_cell_i, vp_cell_i, arrV_store]
        congr 2
        funext q
        by_cases hq : q = (nI j).toNatClampNeg
        · subst hq
          simp [updV, upd]
        · simp [updV, upd, hq]
      have hP1 := hP.set hD (p := 0) rfl hat oq
      have hD1 := hD.set (p := 0) (e := .inl (cA, n, .inl (upd g (nI j).toNatClampNeg v))) rfl
      have hS1 := hS.put (k := (nI j).toNatClampNeg) z oq (Or.inl rfl)
      have hsz1 : H1.size = s.heap.size := z.trans hsz
      refine lv_iinc (v := nI (j + 1)) (lv' := [(2, .int (nI (j + 1))), (3, .int (nI n)), (0, .ref a), (1, .int v)]) hx hb dJ7_fill_53178_14 hl (k := 1) rfl (nI_1 j) (by decide) rfl (fun ls hl => ?_)
      refine lv_goto (tgt := 5) hx hb dJ7_fill_53178_17 (by decide) ?_
      refine ih (j + 1) (by omega) _ H1 _ ls (fun q hq => ?_) hsz1 hP1 hD1 hS1 (lv_sub hl [1, 0, 2, 3] rfl)
      rw [nI_clamp (by omega)]
      unfold upd
      by_cases h : q = j
      · rw [if_pos h]
      · rw [if_neg h]
        exact hg q (by omega)
  exact loop n 0 (by omega) f s.heap [] ls (fun q hq => absurd hq (Nat.not_lt_zero q)) rfl hP hD hS hl
def z_fill (M : zM) (k : Nat) (v : Int32) : zM := fun a => if a = k then (fun _ => v) else M a
def z_cpy (M : zM) (k0 k : Nat) (n : Int32) : zM := fun a => if a = k then va_cpy (M k0) (M k) 0 0 n.toNatClampNeg else M a
theorem kc_nat : Cond.native arraycopyName ∈ z_TB := z_in 643 (by decide +kernel) rfl
theorem kc_st : Cond.static arraycopyName ∈ z_TB := z_in 642 (by decide +kernel) rfl
theorem kc_in : Cond.initialized "java/lang/System" ∈ z_TB := z_in 78 (by decide +kernel) rfl
theorem kc_X4_21 : Cond.methodLink RX4 21 arraycopyName ∈ z_TB := z_in 641 (by decide +kernel) rfl
theorem kc_X3_43 : Cond.methodLink RX3 43 arraycopyName ∈ z_TB := z_in 653 (by decide +kernel) rfl
theorem r_copy {Γ : zC} {G : zG} {b nL cs ss pc : Nat} {cc : ByteArray} {own : String} {rm : Room} {M : zM} {lv : List (Nat × Value)} {st : List Value} {k0 k idx nn : Nat} {n : Int32} {M1 : zM} (X : z_CX Γ G b nL cc own rm) (hk0 : z_kd k0 = 8) (hn0 : z_ln k0 = nn) (hk : z_kd k = 8) (hn : z_ln k = nn) (h1 : ¬ (0 : Int32) < 0) (h2 : ¬ (0 : Int32) < 0) (h3 : ¬ n < 0) (h4 : n.toNatClampNeg = nn) (hfr : 1 ≤ rm.frames ∧ (st.map fun v => v.category).sum + (nativeFrameWords "java/lang/System" "arraycopy" 5 + 11) ≤ rm.locals) (hl : Cond.methodLink own idx arraycopyName ∈ z_TB) (hM : z_cpy M k0 k n = M1) (hd : decode cc pc = .ok (.invokestatic idx, 3)) (pc' : Nat) (hp : pc + 3 = pc') (K : GW Γ G b cs ss M1 pc' lv st) : GW Γ G b cs ss M pc lv (.int n :: .int 0 :: .ref (b + k) :: .int 0 :: .ref (b + k0) :: st) := by
  obtain ⟨p, l, e, R, s, m, args, below, meth, c0, Q⟩ := Γ
  subst hp
  subst hM
  obtain ⟨hx, hb, hml, hown, hT, hK, hX, hRm, -⟩ := X
  intro H locs ls hW hS hl9
  have e0 : (0 : Int32).toNatClampNeg = 0 := rfl
  refine va_copyi (D := (G.1, G.2.1)) (cl := vwCl) (n0 := nn) (n1 := nn) (f := M k0) (g := M k) hx hb hl9.1.symm hown (hT.use hl) (hT.use kc_nat) (hT.use kc_st) (hT.use kc_in) hK (z_WP hW) z_WD hS k0 k 0 0 ((z_wl_get (z_lt rfl hk0)).trans (by rw [z_ent_a hk0 (by decide), hn0]; rfl)) ((z_wl_get (z_lt rfl hk)).trans (by rw [z_ent_a hk (by decide), hn]; rfl)) rfl rfl rfl h1 h2 h3 (by rw [e0, h4]; omega) (by rw [e0, h4]; omega) (fun i _ => rfl) (by rw [hRm]; exact hfr.1) (by rw [hRm]; exact hfr.2) hd (fun H1 locs1 hP1 _ hS1 => K H1 locs1 ls (z_Wset (z_lt rfl hk) hP1 ?_ (fun a ha => if_neg ha)) hS1 hl9)
  rw [z_ent_a hk (by decide), hn]
  show _ = Sum.inl (_, (nn, Sum.inl (z_cpy M k0 k n k)))
  unfold z_cpy
  rw [if_pos rfl]
  rfl
theorem r_fill {Γ : zC} {G : zG} {b nL cs ss pc : Nat} {cc : ByteArray} {own : String} {rm : Room} {M : zM} {lv : List (Nat × Value)} {st : List Value} {k idx n : Nat} {v : Int32} {M1 : zM} (X : z_CX Γ G b nL cc own rm) (hk : z_kd k = 8) (hn : z_ln k = n) (hl : Cond.methodLink own idx yJ7_fill_53178 ∈ z_TB) (hn2 : n < 2 ^ 31) (hR : (1 : Nat).ble rm.frames = true ∧ (23 : Nat).ble rm.locals = true) (hM : z_fill M k v = M1) (hro : cs ≤ rm.cells ∧ ss ≤ rm.slots) (hrs : (st.map fun v => v.category).sum ≤ 8) (hd : decode cc pc = .ok (.invokestatic idx, 3)) (pc' : Nat) (hp : pc + 3 = pc') (K : GW Γ G b cs ss M1 pc' lv st) : GW Γ G b cs ss M pc lv (.int v :: .ref (b + k) :: st) := by
  obtain ⟨p, l, e, R, s, m, args, below, meth, c0, Q⟩ := Γ
  subst hp
  subst hM
  obtain ⟨hx, hb, hml, hown, hT, hK, hX, hRm, -⟩ := X
  intro H locs ls hW hS hl9
  have hlt : k < 176 := z_lt rfl hk
  have hG : GoodIn z_TB (va_wsS own idx yJ7_fill_53178 [.code yJ7_fill_53178 cJ7_fill_53178 4 none]) := by
    intro w hw
    simp only [va_wsS, List.cons_append, List.nil_append, List.mem_cons, List.not_mem_nil, or_false] at hw
    rcases hw with rfl | rfl | rfl | rfl
    · exact ⟨hl, good_of_word rfl⟩
    · exact ⟨zs_J7_fill, good_of_word rfl⟩
    · exact ⟨zy_J7_fill.2.1, good_of_word rfl⟩
    · exact ⟨zy_J7_fill.2.2, good_of_word rfl⟩
  have hcell := hW k hlt
  rw [z_ent_a hk (by decide), hn] at hcell
  have hPc : va_P (G.1, G.2.1) vwCl [(b + k, .inl (G.2.2 8, n, .inl (M k)))] H := fun i q hi => by
    have h1 : i < 1 := (List.getElem?_eq_some_iff.mp hi).1
    have h2 : i = 0 := by omega
    subst h2
    cases hi
    exact hcell
  have hKc : va_K (G.1, G.2.1) vwCl [(G.2.2 8, .int)] s := hK.sub [0] rfl
  refine va_callv (A0 := fun q => b ≤ q) (H0 := s.heap) (va_runS (cc := cc) (nL := nL) (As := [.ref (b + k), .int v]) (rest := st) ⟨hx, hb, hml, hown, fun w (hw : w ∈ z_TB) => hT.use hw⟩ (c_fill l (G.1, G.2.1) vwCl (G.2.2 8) n hn2 (b + k) H.size (M k) v) (va_cwS 2 (fun w (hw : w ∈ z_TB) => hT.use hw) hG rfl rfl rfl zy_J7_fill.1 (by rw [hRm]; exact ⟨Nat.le_of_ble_eq_true hR.1, Nat.le_of_ble_eq_true hR.2⟩)) ⟨fun a U g mk q => by obtain ⟨q0, q1, q2, q3⟩ := q; exact ⟨q0, q1, q2, va_K.moved (u := U) (U := U.calling g mk a) (Vm.Alike.refl U.vm) q3⟩, fun U hU hw => ⟨rfl, by rw [hU], by rw [hU]; exact hPc, va_K.moved hw.alike hKc⟩⟩ rfl rfl (hl9.1.trans hml) rfl (lv_room hrs) hd (by rw [hRm]; exact hro)) hS (fun q h1 h2 => ?_) (fun q h2 => ?_) (fun u t H1 locs1 ht hvm _ hB hz hk1 hS1 => ?_)
  · rcases h2 with rfl | h2
    · exact Nat.le_add_right b k
    · omega
  · rcases h2 with rfl | h2
    · exact Nat.le_add_right b k
    · exact Nat.le_trans (Nat.le_add_right b 0) (Nat.le_trans (by have := (hW 0 (by decide)).lt; omega) h2)
  · refine K H1 locs1 ls (fun j hj => ?_) hS1 hl9
    by_cases hjk : j = k
    · subst hjk
      have h9 := hB.2 0 _ rfl
      rw [ht] at h9
      rw [z_ent_a hk (by decide), hn]
      show va_at _ _ (b + j, Sum.inl (_, (n, Sum.inl (z_fill M j v j)))) H1
      unfold z_fill
      rw [if_pos rfl]
      exact h9
    · have h8 : z_ent G b (z_fill M k v) j = z_ent G b M j := by
        unfold z_ent z_fill
        rw [if_neg hjk]
      rw [h8]
      refine (hW j hj).kept (hk1 _ (hW j hj).lt (fun h => ?_))
      rcases h with h | h
      · exact hjk (Nat.add_left_cancel h)
      · exact absurd (hW j hj).lt (Nat.not_lt.mpr h)
