/-! ===== the law's loop ===== -/
def z_step (k : Nat) (a1 a2 a3 a4 a5 a6 : Int32) (M : zM) : Option (Int32 × zM) := match k with
  | 0 => fL_c0 a1 a2 a3 a4 a5 a6 M
  | 1 => fL_c1 a1 a2 a3 a4 a5 a6 M
  | 2 => fL_c2 a1 a2 a3 a4 a5 a6 M
  | 3 => fL_c3 a1 a2 a3 a4 a5 a6 M
  | 4 => fL_c4 a1 a2 a3 a4 a5 a6 M
  | 5 => fL_c5 a1 a2 a3 a4 a5 a6 M
  | 6 => fL_c6 a1 a2 a3 a4 a5 a6 M
  | 7 => fL_c7 a1 a2 a3 a4 a5 a6 M
  | 8 => fL_c8 a1 a2 a3 a4 a5 a6 M
  | 9 => fL_c9 a1 a2 a3 a4 a5 a6 M
  | 10 => fL_c10 a1 a2 a3 a4 a5 a6 M
  | 11 => fL_c11 a1 a2 a3 a4 a5 a6 M
  | 12 => fL_c12 a1 a2 a3 a4 a5 a6 M
  | 13 => fL_c13 a1 a2 a3 a4 a5 a6 M
  | 14 => fL_c14 a1 a2 a3 a4 a5 a6 M
  | 15 => fL_c15 a1 a2 a3 a4 a5 a6 M
  | 16 => fL_c16 a1 a2 a3 a4 a5 a6 M
  | 17 => fL_c17 a1 a2 a3 a4 a5 a6 M
  | 18 => fL_c18 a1 a2 a3 a4 a5 a6 M
  | 19 => fL_c19 a1 a2 a3 a4 a5 a6 M
  | 20 => fL_c20 a1 a2 a3 a4 a5 a6 M
  | 21 => fL_c21 a1 a2 a3 a4 a5 a6 M
  | 22 => fL_c22 a1 a2 a3 a4 a5 a6 M
  | 23 => fL_c23 a1 a2 a3 a4 a5 a6 M
  | 24 => fL_c24 a1 a2 a3 a4 a5 a6 M
  | 25 => fL_c25 a1 a2 a3 a4 a5 a6 M
  | 26 => fL_c26 a1 a2 a3 a4 a5 a6 M
  | 27 => fL_c27 a1 a2 a3 a4 a5 a6 M
  | 28 => fL_c28 a1 a2 a3 a4 a5 a6 M
  | 29 => fL_c29 a1 a2 a3 a4 a5 a6 M
  | 30 => fL_c30 a1 a2 a3 a4 a5 a6 M
  | 31 => fL_c31 a1 a2 a3 a4 a5 a6 M
  | 32 => fL_c32 a1 a2 a3 a4 a5 a6 M
  | 33 => fL_c33 a1 a2 a3 a4 a5 a6 M
  | 34 => fL_c34 a1 a2 a3 a4 a5 a6 M
  | 35 => fL_c35 a1 a2 a3 a4 a5 a6 M
  | 36 => fL_c36 a1 a2 a3 a4 a5 a6 M
  | 37 => fL_c37 a1 a2 a3 a4 a5 a6 M
  | _ => some (1, M)
theorem r_tableIn {Γ : zC} {G : zG} {b nL cs ss pc len : Nat} {cc : ByteArray} {own : String} {rm : Room} {M : zM} {lv : List (Nat × Value)} {st : List Value} {dflt lo hi off : Int} {offs : Array Int} {x : Int32} (X : z_CX Γ G b nL cc own rm) (hd : decode cc pc = .ok (.tableswitch dflt lo hi offs, len)) (h1 : ¬ x.toInt < lo) (h2 : ¬ hi < x.toInt) (ho : offs[(x.toInt - lo).toNat]? = some off) (tgt : Nat) (ht : (pc : Int) + off = (tgt : Int)) (K : GW Γ G b cs ss M tgt lv st) : GW Γ G b cs ss M pc lv (.int x :: st) := by
  obtain ⟨p, l, e, R, s, m, args, below, meth, c, Q⟩ := Γ
  exact fun H locs ls hW hS hl => lv_tableIn X.1 X.2.1 hd h1 h2 ho ht (K H locs ls hW hS hl)
theorem r_tableOut {Γ : zC} {G : zG} {b nL cs ss pc len : Nat} {cc : ByteArray} {own : String} {rm : Room} {M : zM} {lv : List (Nat × Value)} {st : List Value} {dflt lo hi : Int} {offs : Array Int} {x : Int32} (X : z_CX Γ G b nL cc own rm) (hd : decode cc pc = .ok (.tableswitch dflt lo hi offs, len)) (h : x.toInt < lo ∨ hi < x.toInt) (tgt : Nat) (ht : (pc : Int) + dflt = (tgt : Int)) (K : GW Γ G b cs ss M tgt lv st) : GW Γ G b cs ss M pc lv (.int x :: st) := by
  obtain ⟨p, l, e, R, s, m, args, below, meth, c, Q⟩ := Γ
  exact fun H locs ls hW hS hl => lv_tableOut X.1 X.2.1 hd h ht (K H locs ls hW hS hl)
set_option maxRecDepth 100000 in
set_option maxHeartbeats 4000000 in
/-- the switch, and the case that it leads to -/
theorem law_switch {Γ : zC} {G : zG} {b sb cs ss L : Nat} {xs : Nat → Int32} {x4 : Int32} (X : z_CX Γ G b 7 cL_law RL room_1) (hl : Γ.2.1.stackTraces = false) (hX : va_X sb L xs (z_s Γ) (z_s Γ).heap) (hb9 : sb < (z_s Γ).heap.size ∧ sb < b) (hro : cs + 1 ≤ room_1.cells ∧ ss + 6 ≤ room_1.slots) (k : Nat) (hk : k < 64) (a1 a2 a3 a4 a5 a6 : Int32) (hs1 : z_sr L xs (x4 + 1) a1) (hs2 : z_sr L xs (x4 + 2) a2) (hs3 : z_sr L xs (x4 + 3) a3) (hs4 : z_sr L xs (x4 + 4) a4) (hs5 : z_sr L xs (x4 + 5) a5) (hs6 : z_sr L xs (x4 + 6) a6) (M : zM) {M9 : zM} (h : z_step k a1 a2 a3 a4 a5 a6 M = some (1, M9)) (K : GW Γ G b (cs + 1) (ss + 6) M9 2356 [(0, .ref sb), (1, .ref (b + 0)), (2, .ref (b + 169)), (3, .ref (b + 174)), (4, .int x4)] []) : GW Γ G b cs ss M 40 [(0, .ref sb), (1, .ref (b + 0)), (2, .ref (b + 169)), (3, .ref (b + 174)), (4, .int x4)] [.int (nI k)] := by
  by_cases hk2 : k < 38
  · rcases (by omega : k = 0 ∨ k = 1 ∨ k = 2 ∨ k = 3 ∨ k = 4 ∨ k = 5 ∨ k = 6 ∨ k = 7 ∨ k = 8 ∨ k = 9 ∨ k = 10 ∨ k = 11 ∨ k = 12 ∨ k = 13 ∨ k = 14 ∨ k = 15 ∨ k = 16 ∨ k = 17 ∨ k = 18 ∨ k = 19 ∨ k = 20 ∨ k = 21 ∨ k = 22 ∨ k = 23 ∨ k = 24 ∨ k = 25 ∨ k = 26 ∨ k = 27 ∨ k = 28 ∨ k = 29 ∨ k = 30 ∨ k = 31 ∨ k = 32 ∨ k = 33 ∨ k = 34 ∨ k = 35 ∨ k = 36 ∨ k = 37) with rfl | rfl | rfl | rfl | rfl | rfl | rfl | rfl | rfl | rfl | rfl | rfl | rfl | rfl | rfl | rfl | rfl | rfl | rfl | rfl | rfl | rfl | rfl | rfl | rfl | rfl | rfl | rfl | rfl | rfl | rfl | rfl | rfl | rfl | rfl | rfl | rfl | rfl
    · exact r_tableIn X dL_law_40 (by decide) (by decide) rfl 208 (by decide) (tL_c0 X hl hX hb9 hro a1 a2 a3 a4 a5 a6 hs1 hs2 hs3 hs4 hs5 hs6 M h K)
    · exact r_tableIn X dL_law_40 (by decide) (by decide) rfl 300 (by decide) (tL_c1 X hl hX hb9 hro a1 a2 a3 a4 a5 a6 hs1 hs2 hs3 hs4 hs5 hs6 M h K)
    · exact r_tableIn X dL_law_40 (by decide) (by decide) rfl 380 (by decide) (tL_c2 X hl hX hb9 hro a1 a2 a3 a4 a5 a6 hs1 hs2 hs3 hs4 hs5 hs6 M h K)
    · exact r_tableIn X dL_law_40 (by decide) (by decide) rfl 460 (by decide) (tL_c3 X hl hX hb9 hro a1 a2 a3 a4 a5 a6 hs1 hs2 hs3 hs4 hs5 hs6 M h K)
    · exact r_tableIn X dL_law_40 (by decide) (by decide) rfl 528 (by decide) (tL_c4 X hl hX hb9 hro a1 a2 a3 a4 a5 a6 hs1 hs2 hs3 hs4 hs5 hs6 M h K)
    · exact r_tableIn X dL_law_40 (by decide) (by decide) rfl 620 (by decide) (tL_c5 X hl hX hb9 hro a1 a2 a3 a4 a5 a6 hs1 hs2 hs3 hs4 hs5 hs6 M h K)
    · exact r_tableIn X dL_law_40 (by decide) (by decide) rfl 738 (by decide) (tL_c6 X hl hX hb9 hro a1 a2 a3 a4 a5 a6 hs1 hs2 hs3 hs4 hs5 hs6 M h K)
    · exact r_tableIn X dL_law_40 (by decide) (by decide) rfl 751 (by decide) (tL_c7 X hl hX hb9 hro a1 a2 a3 a4 a5 a6 hs1 hs2 hs3 hs4 hs5 hs6 M h K)
    · exact r_tableIn X dL_law_40 (by decide) (by decide) rfl 764 (by decide) (tL_c8 X hl hX hb9 hro a1 a2 a3 a4 a5 a6 hs1 hs2 hs3 hs4 hs5 hs6 M h K)
    · exact r_tableIn X dL_law_40 (by decide) (by decide) rfl 777 (by decide) (tL_c9 X hl hX hb9 hro a1 a2 a3 a4 a5 a6 hs1 hs2 hs3 hs4 hs5 hs6 M h K)
    · exact r_tableIn X dL_law_40 (by decide) (by decide) rfl 833 (by decide) (tL_c10 X hl hX hb9 hro a1 a2 a3 a4 a5 a6 hs1 hs2 hs3 hs4 hs5 hs6 M h K)
    · exact r_tableIn X dL_law_40 (by decide) (by decide) rfl 913 (by decide) (tL_c11 X hl hX hb9 hro a1 a2 a3 a4 a5 a6 hs1 hs2 hs3 hs4 hs5 hs6 M h K)
    · exact r_tableIn X dL_law_40 (by decide) (by decide) rfl 993 (by decide) (tL_c12 X hl hX hb9 hro a1 a2 a3 a4 a5 a6 hs1 hs2 hs3 hs4 hs5 hs6 M h K)
    · exact r_tableIn X dL_law_40 (by decide) (by decide) rfl 1049 (by decide) (tL_c13 X hl hX hb9 hro a1 a2 a3 a4 a5 a6 hs1 hs2 hs3 hs4 hs5 hs6 M h K)
    · exact r_tableIn X dL_law_40 (by decide) (by decide) rfl 1105 (by decide) (tL_c14 X hl hX hb9 hro a1 a2 a3 a4 a5 a6 hs1 hs2 hs3 hs4 hs5 hs6 M h K)
    · exact r_tableIn X dL_law_40 (by decide) (by decide) rfl 1161 (by decide) (tL_c15 X hl hX hb9 hro a1 a2 a3 a4 a5 a6 hs1 hs2 hs3 hs4 hs5 hs6 M h K)
    · exact r_tableIn X dL_law_40 (by decide) (by decide) rfl 1229 (by decide) (tL_c16 X hl hX hb9 hro a1 a2 a3 a4 a5 a6 hs1 hs2 hs3 hs4 hs5 hs6 M h K)
    · exact r_tableIn X dL_law_40 (by decide) (by decide) rfl 1285 (by decide) (tL_c17 X hl hX hb9 hro a1 a2 a3 a4 a5 a6 hs1 hs2 hs3 hs4 hs5 hs6 M h K)
    · exact r_tableIn X dL_law_40 (by decide) (by decide) rfl 1353 (by decide) (tL_c18 X hl hX hb9 hro a1 a2 a3 a4 a5 a6 hs1 hs2 hs3 hs4 hs5 hs6 M h K)
    · exact r_tableIn X dL_law_40 (by decide) (by decide) rfl 1421 (by decide) (tL_c19 X hl hX hb9 hro a1 a2 a3 a4 a5 a6 hs1 hs2 hs3 hs4 hs5 hs6 M h K)
    · exact r_tableIn X dL_law_40 (by decide) (by decide) rfl 1434 (by decide) (tL_c20 X hl hX hb9 hro a1 a2 a3 a4 a5 a6 hs1 hs2 hs3 hs4 hs5 hs6 M h K)
    · exact r_tableIn X dL_law_40 (by decide) (by decide) rfl 1490 (by decide) (tL_c21 X hl hX hb9 hro a1 a2 a3 a4 a5 a6 hs1 hs2 hs3 hs4 hs5 hs6 M h K)
    · exact r_tableIn X dL_law_40 (by decide) (by decide) rfl 1546 (by decide) (tL_c22 X hl hX hb9 hro a1 a2 a3 a4 a5 a6 hs1 hs2 hs3 hs4 hs5 hs6 M h K)
    · exact r_tableIn X dL_law_40 (by decide) (by decide) rfl 1602 (by decide) (tL_c23 X hl hX hb9 hro a1 a2 a3 a4 a5 a6 hs1 hs2 hs3 hs4 hs5 hs6 M h K)
    · exact r_tableIn X dL_law_40 (by decide) (by decide) rfl 1658 (by decide) (tL_c24 X hl hX hb9 hro a1 a2 a3 a4 a5 a6 hs1 hs2 hs3 hs4 hs5 hs6 M h K)
    · exact r_tableIn X dL_law_40 (by decide) (by decide) rfl 1714 (by decide) (tL_c25 X hl hX hb9 hro a1 a2 a3 a4 a5 a6 hs1 hs2 hs3 hs4 hs5 hs6 M h K)
    · exact r_tableIn X dL_law_40 (by decide) (by decide) rfl 1770 (by decide) (tL_c26 X hl hX hb9 hro a1 a2 a3 a4 a5 a6 hs1 hs2 hs3 hs4 hs5 hs6 M h K)
    · exact r_tableIn X dL_law_40 (by decide) (by decide) rfl 1826 (by decide) (tL_c27 X hl hX hb9 hro a1 a2 a3 a4 a5 a6 hs1 hs2 hs3 hs4 hs5 hs6 M h K)
    · exact r_tableIn X dL_law_40 (by decide) (by decide) rfl 1894 (by decide) (tL_c28 X hl hX hb9 hro a1 a2 a3 a4 a5 a6 hs1 hs2 hs3 hs4 hs5 hs6 M h K)
    · exact r_tableIn X dL_law_40 (by decide) (by decide) rfl 1950 (by decide) (tL_c29 X hl hX hb9 hro a1 a2 a3 a4 a5 a6 hs1 hs2 hs3 hs4 hs5 hs6 M h K)
    · exact r_tableIn X dL_law_40 (by decide) (by decide) rfl 2006 (by decide) (tL_c30 X hl hX hb9 hro a1 a2 a3 a4 a5 a6 hs1 hs2 hs3 hs4 hs5 hs6 M h K)
    · exact r_tableIn X dL_law_40 (by decide) (by decide) rfl 2019 (by decide) (tL_c31 X hl hX hb9 hro a1 a2 a3 a4 a5 a6 hs1 hs2 hs3 hs4 hs5 hs6 M h K)
    · exact r_tableIn X dL_law_40 (by decide) (by decide) rfl 2032 (by decide) (tL_c32 X hl hX hb9 hro a1 a2 a3 a4 a5 a6 hs1 hs2 hs3 hs4 hs5 hs6 M h K)
    · exact r_tableIn X dL_law_40 (by decide) (by decide) rfl 2088 (by decide) (tL_c33 X hl hX hb9 hro a1 a2 a3 a4 a5 a6 hs1 hs2 hs3 hs4 hs5 hs6 M h K)
    · exact r_tableIn X dL_law_40 (by decide) (by decide) rfl 2144 (by decide) (tL_c34 X hl hX hb9 hro a1 a2 a3 a4 a5 a6 hs1 hs2 hs3 hs4 hs5 hs6 M h K)
    · exact r_tableIn X dL_law_40 (by decide) (by decide) rfl 2212 (by decide) (tL_c35 X hl hX hb9 hro a1 a2 a3 a4 a5 a6 hs1 hs2 hs3 hs4 hs5 hs6 M h K)
    · exact r_tableIn X dL_law_40 (by decide) (by decide) rfl 2287 (by decide) (tL_c36 X hl hX hb9 hro a1 a2 a3 a4 a5 a6 hs1 hs2 hs3 hs4 hs5 hs6 M h K)
    · exact r_tableIn X dL_law_40 (by decide) (by decide) rfl 2343 (by decide) (tL_c37 X hl hX hb9 hro a1 a2 a3 a4 a5 a6 hs1 hs2 hs3 hs4 hs5 hs6 M h K)
  · have hM : M = M9 := by
      have h2 : z_step k a1 a2 a3 a4 a5 a6 M = some (1, M) := by
        unfold z_step
        split <;> first | rfl | (exfalso; omega)
      rw [h2] at h
      cases h
      rfl
    subst hM
    refine r_tableOut X dL_law_40 (Or.inr ?_) 2356 (by decide) (r_widen (cs + 1) (ss + 6) (Nat.le_add_right _ _) (Nat.le_add_right _ _) K)
    rw [nI_toInt (by omega)]
    omega
theorem z_ixle {L n : Nat} (hL : L ≤ 3584) (h : 7 * n + 7 ≤ L) : ¬ (nI L - 7) < nI (7 * n) := by
  rw [show nI L - 7 = nI L - nI 7 from rfl, pk_sub (by omega)]
  exact nI_nlt (by omega) (by omega)
theorem z_ixgt {L n : Nat} (hL : L ≤ 3584) (hn : 7 * n ≤ L) (h : ¬ 7 * n + 7 ≤ L) : (nI L - 7) < nI (7 * n) := by
  by_cases h7 : 7 ≤ L
  · rw [show nI L - 7 = nI L - nI 7 from rfl, pk_sub h7]
    exact nI_lt (by omega) (by omega)
  · have hn0 : n = 0 := by omega
    subst hn0
    exact pk_sneg (a := L) (b := 7) (by decide) (by omega)
/-- what the memory's part of the proof owes: a predicate that holds at first, is kept by every call, and makes answers alike -/
def z_Inv (P : Nat → zM → Prop) : Prop := P 0 z_M0 ∧ ∀ (n k : Nat) (a1 a2 a3 a4 a5 a6 : Int32) (M : zM), n < 512 → k < 64 → P n M → ∃ M9, z_step k a1 a2 a3 a4 a5 a6 M = some (1, M9) ∧ P (n + 1) M9
set_option maxRecDepth 100000 in
set_option maxHeartbeats 4000000 in
theorem law_loop {Γ : zC} {G : zG} {b sb L : Nat} {xs : Nat → Int32} {P : Nat → zM → Prop} (hP : z_Inv P) (hL : L ≤ 3584) (X : z_CX Γ G b 7 cL_law RL room_1) (hl : Γ.2.1.stackTraces = false) (hX : va_X sb L xs (z_s Γ) (z_s Γ).heap) (hb9 : sb < (z_s Γ).heap.size ∧ sb < b)
    (K : ∀ (cs ss : Nat) (M : zM) (lv : List (Nat × Value)), cs ≤ 601024 → ss ≤ 7293034 → GW Γ G b cs ss M 2362 lv []) :
    ∀ (r n : Nat) (M : zM), P n M → n + r = 513 → 7 * n ≤ L → GW Γ G b (175 + n) (14894 + 6 * n) M 23 [(0, .ref sb), (1, .ref (b + 0)), (2, .ref (b + 169)), (3, .ref (b + 174)), (4, .int (nI (7 * n)))] [] := by
  intro r
  induction r with
  | zero =>
    intro n M _ h1 h2
    exfalso
    omega
  | succ r ih =>
    intro n M hM h1 h2
    refine r_iload X 4 rfl dL_law_23 25 rfl ?_
    refine r_aload_n (x := sb) X 0 rfl dL_law_25 26 rfl ?_
    refine r_slen X hX hb9 dL_law_26 27 rfl ?_
    refine r_bipush (v := 7) X rfl dL_law_27 29 rfl ?_
    refine r_isub X dL_law_29 30 rfl ?_
    by_cases hc : 7 * n + 7 ≤ L
    · refine r_icmp_gt X dL_law_30 2362 (by decide) 33 rfl (fun q => absurd q (z_ixle hL hc)) (fun _ => ?_)
      have hs : ∀ j : Nat, j < 7 → z_sr L xs (nI (7 * n + j)) (xs (7 * n + j)) := fun j hj => ⟨vp_in_nI (by omega) (by omega), by rw [nI_clamp (by omega)]⟩
      refine r_aload_n (x := sb) X 0 rfl dL_law_33 34 rfl ?_
      refine r_iload X 4 rfl dL_law_34 36 rfl ?_
      refine r_sld X hX hb9 (hs 0 (by omega)) dL_law_36 37 rfl ?_
      refine r_bipush (v := 63) X rfl dL_law_37 39 rfl ?_
      refine r_iand X dL_law_39 40 rfl ?_
      have ha : ∃ j : Nat, j < 2 ^ 6 ∧ xs (7 * n + 0) &&& 63 = nI j := pk_andE _ 6 rfl
      obtain ⟨j, hj, e⟩ := ha
      rw [e]
      obtain ⟨M9, hM9, hP9⟩ := hP.2 n j (xs (7 * n + 1)) (xs (7 * n + 2)) (xs (7 * n + 3)) (xs (7 * n + 4)) (xs (7 * n + 5)) (xs (7 * n + 6)) M (by omega) hj hM
      have hadd : ∀ q : Nat, nI (7 * n) + nI q = nI (7 * n + q) := fun q => nI_add _ _
      refine law_switch X hl hX hb9 ⟨by show _ ≤ 601024; omega, by show _ ≤ 7293034; omega⟩ j hj _ _ _ _ _ _ (by rw [show nI (7 * n) + 1 = nI (7 * n + 1) from hadd 1]; exact hs 1 (by omega)) (by rw [show nI (7 * n) + 2 = nI (7 * n + 2) from hadd 2]; exact hs 2 (by omega)) (by rw [show nI (7 * n) + 3 = nI (7 * n + 3) from hadd 3]; exact hs 3 (by omega)) (by rw [show nI (7 * n) + 4 = nI (7 * n + 4) from hadd 4]; exact hs 4 (by omega)) (by rw [show nI (7 * n) + 5 = nI (7 * n + 5) from hadd 5]; exact hs 5 (by omega)) (by rw [show nI (7 * n) + 6 = nI (7 * n + 6) from hadd 6]; exact hs 6 (by omega)) M hM9 ?_
      refine r_iinc X dL_law_2356 2359 rfl [(0, .ref sb), (1, .ref (b + 0)), (2, .ref (b + 169)), (3, .ref (b + 174)), (4, .int (nI (7 * (n + 1))))] (by decide) 4 rfl (nI (7 * (n + 1))) (by rw [show Int32.ofInt 7 = nI 7 from rfl, nI_add]; congr 1) [1, 2, 3, 4, 0] rfl ?_
      refine r_goto X dL_law_2359 23 (by decide) ?_
      exact ih (n + 1) M9 hP9 (by omega) (by omega)
    · refine r_icmp_gt X dL_law_30 2362 (by decide) 33 rfl (fun _ => ?_) (fun q => absurd (z_ixgt hL h2 hc) q)
      exact K _ _ M _ (by omega) (by omega)
