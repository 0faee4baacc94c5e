/-! ===== the long rows: value, birth, pending, logged, allocated ===== -/
theorem l_9 : (9 : Int32) = nI 9 := rfl
theorem l_10 : (10 : Int32) = nI 10 := rfl
theorem l_13 : (13 : Int32) = nI 13 := rfl
theorem l_14 : (14 : Int32) = nI 14 := rfl
theorem l_17 : (17 : Int32) = nI 17 := rfl
theorem l_18 : (18 : Int32) = nI 18 := rfl
theorem l_19 : (19 : Int32) = nI 19 := rfl
theorem l_20 : (20 : Int32) = nI 20 := rfl
theorem l_21 : (21 : Int32) = nI 21 := rfl
theorem l_22 : (22 : Int32) = nI 22 := rfl
theorem l_24 : (24 : Int32) = nI 24 := rfl
theorem l_28 : (28 : Int32) = nI 28 := rfl
theorem l_60 : (60 : Int32) = nI 60 := rfl
theorem l_61 : (61 : Int32) = nI 61 := rfl
theorem l_62 : (62 : Int32) = nI 62 := rfl
theorem l_64 : (64 : Int32) = nI 64 := rfl
theorem l_98 : (98 : Int32) = nI 98 := rfl
theorem l_99 : (99 : Int32) = nI 99 := rfl
theorem u_tn {n : Nat} (h : n < 2 ^ 64) : (UInt64.ofNat n).toNat = n := Nat.mod_eq_of_lt h
theorem g_and {a b c : Nat} (ha : a < 2 ^ 64) (hb : b < 2 ^ 64) (hc : a &&& b = c) : lN a &&& lN b = lN c := by
  subst hc
  have h : UInt64.ofNat a &&& UInt64.ofNat b = UInt64.ofNat (a &&& b) := UInt64.toNat_inj.mp (by rw [UInt64.toNat_and, u_tn ha, u_tn hb, u_tn (Nat.and_lt_two_pow a hb)])
  have h2 := congrArg UInt64.toInt64 h
  exact h2
theorem g_orr {a b c : Nat} (ha : a < 2 ^ 64) (hb : b < 2 ^ 64) (hc : a ||| b = c) : lN a ||| lN b = lN c := by
  subst hc
  have h : UInt64.ofNat a ||| UInt64.ofNat b = UInt64.ofNat (a ||| b) := UInt64.toNat_inj.mp (by rw [UInt64.toNat_or, u_tn ha, u_tn hb, u_tn (Nat.or_lt_two_pow ha hb)])
  have h2 := congrArg UInt64.toInt64 h
  exact h2
theorem e_shr {a d : Nat} {D : Int64} (hD : (D.toBitVec.smod 64).toNat = d) (h : a < 2 ^ 63) : lN a >>> D = lN (a / 2 ^ d) := by
  have hd : a / 2 ^ d ≤ a := Nat.div_le_self _ _
  apply Int64.toInt_inj.mp
  have e : (lN a >>> D).toInt = (lN a).toInt >>> d := by
    rw [← hD]
    exact BitVec.toInt_sshiftRight ..
  rw [e, Int.shiftRight_eq_div_pow, show (lN a).toInt = (a : Int) from lg_ofNat_toInt h, show (lN (a / 2 ^ d)).toInt = ((a / 2 ^ d : Nat) : Int) from lg_ofNat_toInt (by omega)]
  rfl
theorem or_hi {A B x y : Nat} (hx : x < 2 ^ 60) (hy : y < 2 ^ 60) : (2 ^ 60 * A + x) ||| (2 ^ 60 * B + y) = 2 ^ 60 * (A ||| B) + (x ||| y) := by
  apply Nat.eq_of_testBit_eq
  intro i
  rw [Nat.testBit_or, Nat.testBit_two_pow_mul_add A hx, Nat.testBit_two_pow_mul_add B hy, Nat.testBit_two_pow_mul_add _ (Nat.or_lt_two_pow hx hy)]
  split
  · rw [Nat.testBit_or]
  · rw [Nat.testBit_or]
theorem and_hi {A B x y : Nat} (hx : x < 2 ^ 60) (hy : y < 2 ^ 60) : (2 ^ 60 * A + x) &&& (2 ^ 60 * B + y) = 2 ^ 60 * (A &&& B) + (x &&& y) := by
  apply Nat.eq_of_testBit_eq
  intro i
  rw [Nat.testBit_and, Nat.testBit_two_pow_mul_add A hx, Nat.testBit_two_pow_mul_add B hy, Nat.testBit_two_pow_mul_add _ (Nat.and_lt_two_pow x hy)]
  split
  · rw [Nat.testBit_and]
  · rw [Nat.testBit_and]
def y_fl (p l a : Nat) : Nat := (if p = 0 then 0 else 1) + (if l = 0 then 0 else 2) + (if a = 0 then 0 else 4)
def y_lw (v : Int32) (bi : Nat) : Nat := 2 ^ 32 * bi + v.toBitVec.toNat
def y_E (v : Int32) (bi p l a : Nat) : Int64 := lN (2 ^ 60 * y_fl p l a + y_lw v bi)
theorem fl_7 {p l a : Nat} : y_fl p l a ≤ 7 := by
  unfold y_fl
  split <;> split <;> split <;> omega
theorem v_32 (v : Int32) : v.toBitVec.toNat < 2 ^ 32 := v.toBitVec.isLt
theorem lw_lt {v : Int32} {bi : Nat} (hb : bi < 2 ^ 24) : y_lw v bi < 2 ^ 56 := by
  have := v_32 v
  unfold y_lw
  omega
theorem lw_60 {v : Int32} {bi : Nat} (hb : bi < 2 ^ 24) : y_lw v bi < 2 ^ 60 := by
  have := lw_lt (v := v) hb
  omega
theorem eN_63 {v : Int32} {bi p l a : Nat} (hb : bi < 2 ^ 24) : 2 ^ 60 * y_fl p l a + y_lw v bi < 2 ^ 63 := by
  have h1 := lw_60 (v := v) hb
  have h2 := fl_7 (p := p) (l := l) (a := a)
  omega
theorem eN_64 {v : Int32} {bi p l a : Nat} (hb : bi < 2 ^ 24) : 2 ^ 60 * y_fl p l a + y_lw v bi < 2 ^ 64 := by
  have := eN_63 (v := v) (p := p) (l := l) (a := a) hb
  omega
theorem lc_0 {x y : Int64} (h : x = y) : lg_cmp x y = 0 := by
  subst h
  unfold lg_cmp
  simp
theorem lc_1 {x y : Int64} (h : x ≠ y) : lg_cmp x y ≠ 0 := by
  unfold lg_cmp
  split
  · decide
  · first | decide | (rw [if_neg h]; decide)
theorem z_ldJn {M : zM} {k n i : Nat} (h : i < n) (hn : n < 2 ^ 31) : z_ldJ M k n (nI i) = some (z_jj (M k) i) := by
  unfold z_ldJ
  rw [if_neg (fun q => q.elim (fun q => nI_pos (show i < 2 ^ 31 by omega) q) (fun q => by rw [nI_clamp (by omega)] at q; omega)), nI_clamp (by omega)]
theorem z_saJn {M : zM} {k n i : Nat} {v : Int64} (h : i < n) (hn : n < 2 ^ 31) : z_saJ M k n (nI i) v = some (z_stJ M k i v) := by
  unfold z_saJ
  rw [if_neg (fun q => q.elim (fun q => nI_pos (show i < 2 ^ 31 by omega) q) (fun q => by rw [nI_clamp (by omega)] at q; omega)), nI_clamp (by omega)]
theorem jj_s {M : zM} {k i q : Nat} {v : Int64} : z_jj (z_stJ M k i v k) q = if q = i then v else z_jj (M k) q := by
  rw [z_stJ_same, z_jj_up]
theorem e_b60 {v : Int32} {bi p l a : Nat} (hb : bi < 2 ^ 24) : (y_E v bi p l a >>> ((nI 60).toInt64 &&& 63)) &&& (1 : Int64) = lN (if p = 0 then 0 else 1) := by
  have h1 := eN_63 (v := v) (p := p) (l := l) (a := a) hb
  have h2 := lw_60 (v := v) hb
  unfold y_E
  rw [e_shr (d := 60) (by decide) h1, show (1 : Int64) = lN 1 from rfl, g_and (c := if p = 0 then 0 else 1) (by omega) (by decide)]
  rw [show (1 : Nat) = 2 ^ 1 - 1 from rfl, Nat.and_two_pow_sub_one_eq_mod, Nat.mul_add_div (by decide), Nat.div_eq_of_lt h2]
  unfold y_fl
  by_cases c1 : p = 0 <;> by_cases c2 : l = 0 <;> by_cases c3 : a = 0 <;> simp [c1, c2, c3]
theorem e_b61 {v : Int32} {bi p l a : Nat} (hb : bi < 2 ^ 24) : (y_E v bi p l a >>> ((nI 61).toInt64 &&& 63)) &&& (1 : Int64) = lN (if l = 0 then 0 else 1) := by
  have h1 := eN_63 (v := v) (p := p) (l := l) (a := a) hb
  have h2 := lw_60 (v := v) hb
  unfold y_E
  rw [e_shr (d := 61) (by decide) h1, show (1 : Int64) = lN 1 from rfl, g_and (c := if l = 0 then 0 else 1) (by omega) (by decide)]
  rw [show (1 : Nat) = 2 ^ 1 - 1 from rfl, Nat.and_two_pow_sub_one_eq_mod, show (2 : Nat) ^ 61 = 2 ^ 60 * 2 from rfl, ← Nat.div_div_eq_div_mul, Nat.mul_add_div (by decide), Nat.div_eq_of_lt h2]
  unfold y_fl
  by_cases c1 : p = 0 <;> by_cases c2 : l = 0 <;> by_cases c3 : a = 0 <;> simp [c1, c2, c3]
theorem e_b62 {v : Int32} {bi p l a : Nat} (hb : bi < 2 ^ 24) : (y_E v bi p l a >>> ((nI 62).toInt64 &&& 63)) &&& (1 : Int64) = lN (if a = 0 then 0 else 1) := by
  have h1 := eN_63 (v := v) (p := p) (l := l) (a := a) hb
  have h2 := lw_60 (v := v) hb
  unfold y_E
  rw [e_shr (d := 62) (by decide) h1, show (1 : Int64) = lN 1 from rfl, g_and (c := if a = 0 then 0 else 1) (by omega) (by decide)]
  rw [show (1 : Nat) = 2 ^ 1 - 1 from rfl, Nat.and_two_pow_sub_one_eq_mod, show (2 : Nat) ^ 62 = 2 ^ 60 * 4 from rfl, ← Nat.div_div_eq_div_mul, Nat.mul_add_div (by decide), Nat.div_eq_of_lt h2]
  unfold y_fl
  by_cases c1 : p = 0 <;> by_cases c2 : l = 0 <;> by_cases c3 : a = 0 <;> simp [c1, c2, c3]
theorem f_hasG {M : zM} {B i : Nat} {k x : Int32} {f : Nat} (hi : i < 64) (h : ∃ w, z_jj (M B) i = w ∧ (w >>> (k.toInt64 &&& 63)) &&& (1 : Int64) = lN (if f = 0 then 0 else 1)) (hx : x = nI i) : fL_has B x k M = some (nI (if f = 0 then 0 else 1)) := by
  obtain ⟨w, h1, h2⟩ := h
  subst hx
  unfold fL_has
  rw [z_ldJn hi (by decide), z_bs, h1, h2]
  by_cases c : f = 0
  · simp only [if_pos c]
    rw [if_neg (lc_1 (by decide))]
    rfl
  · simp only [if_neg c]
    rw [if_pos (lc_0 (by decide))]
    rfl
/-- what the long of block i tells -/
def y_B1 (M : zM) (B i : Nat) (v : Int32) (bi p l a : Nat) : Prop := z_jj (M B) i = y_E v bi p l a ∧ bi < 2 ^ 24
theorem f_h60 {M : zM} {B i bi p l a : Nat} {v : Int32} (hi : i < 64) (h : y_B1 M B i v bi p l a) : fL_has B (nI i) (nI 60) M = some (nI (if p = 0 then 0 else 1)) := f_hasG hi ⟨_, h.1, e_b60 h.2⟩ rfl
theorem f_h61 {M : zM} {B i bi p l a : Nat} {v : Int32} (hi : i < 64) (h : y_B1 M B i v bi p l a) : fL_has B (nI i) (nI 61) M = some (nI (if l = 0 then 0 else 1)) := f_hasG hi ⟨_, h.1, e_b61 h.2⟩ rfl
theorem f_h62 {M : zM} {B i bi p l a : Nat} {v : Int32} (hi : i < 64) (h : y_B1 M B i v bi p l a) : fL_has B (nI i) (nI 62) M = some (nI (if a = 0 then 0 else 1)) := f_hasG hi ⟨_, h.1, e_b62 h.2⟩ rfl
theorem to32 (n : Nat) : (lN n).toInt32 = nI n := Int64.toInt32_ofNat'
theorem nI_v (v : Int32) : nI v.toBitVec.toNat = v := Int32.toBitVec_inj.mp (by show BitVec.ofNat 32 _ = _; simp)
theorem nI_mod {a b : Nat} (h : a % 2 ^ 32 = b % 2 ^ 32) : nI a = nI b := Int32.toBitVec_inj.mp (BitVec.eq_of_toNat_eq (by show (BitVec.ofNat 32 a).toNat = (BitVec.ofNat 32 b).toNat; rw [BitVec.toNat_ofNat, BitVec.toNat_ofNat]; exact h))
theorem e_val {v : Int32} {bi p l a : Nat} : (y_E v bi p l a).toInt32 = v := by
  unfold y_E y_lw
  rw [to32]
  refine Eq.trans (nI_mod ?_) (nI_v v)
  have : 2 ^ 60 * y_fl p l a + (2 ^ 32 * bi + v.toBitVec.toNat) = v.toBitVec.toNat + 2 ^ 32 * (2 ^ 28 * y_fl p l a + bi) := by omega
  rw [this, Nat.add_mul_mod_self_left]
theorem f_birth {M : zM} {B i bi p l a : Nat} {v : Int32} (hi : i < 64) (h : y_B1 M B i v bi p l a) : fL_birth B (nI i) M = some (nI bi) := by
  unfold fL_birth
  rw [z_ldJn hi (by decide), z_bs, h.1]
  have h1 := eN_63 (v := v) (p := p) (l := l) (a := a) h.2
  have hv := v_32 v
  unfold y_E
  rw [e_shr (d := 32) (by decide) h1, show (16777215 : Int64) = lN 16777215 from rfl, g_and (c := bi) (by omega) (by decide), to32]
  rw [show (16777215 : Nat) = 2 ^ 24 - 1 from rfl, Nat.and_two_pow_sub_one_eq_mod]
  unfold y_lw
  have hb := h.2
  omega
theorem f_with60 {v : Int32} {bi p l a s : Nat} {M : zM} (hb : bi < 2 ^ 24) (hs : s ≤ 1) : fL_with (y_E v bi p l a) (nI 60) (nI s) M = some (y_E v bi s l a) := by
  have h1 := eN_64 (v := v) (p := p) (l := l) (a := a) hb
  have h2 := lw_60 (v := v) hb
  have h3 : s = 0 ∨ s = 1 := by omega
  unfold fL_with y_E
  rcases h3 with rfl | rfl
  · rw [if_pos (show nI 0 = (0 : Int32) from rfl), show ((1 : Int64) <<< ((nI 60).toInt64 &&& 63)) ^^^ (-1 : Int64) = lN (2 ^ 60 * 14 + (2 ^ 60 - 1)) by decide, g_and h1 (by decide) (and_hi h2 (by decide))]
    rw [Nat.and_two_pow_sub_one_eq_mod, Nat.mod_eq_of_lt h2]
    congr 4
    unfold y_fl
    by_cases c1 : p = 0 <;> by_cases c2 : l = 0 <;> by_cases c3 : a = 0 <;> simp [c1, c2, c3]
  · rw [if_neg (by decide), show ((1 : Int64) <<< ((nI 60).toInt64 &&& 63)) = lN (2 ^ 60 * 1 + 0) by decide, g_orr h1 (by decide) (or_hi h2 (by decide))]
    rw [Nat.or_zero]
    congr 4
    unfold y_fl
    by_cases c1 : p = 0 <;> by_cases c2 : l = 0 <;> by_cases c3 : a = 0 <;> simp [c1, c2, c3]
theorem f_with61 {v : Int32} {bi p l a s : Nat} {M : zM} (hb : bi < 2 ^ 24) (hs : s ≤ 1) : fL_with (y_E v bi p l a) (nI 61) (nI s) M = some (y_E v bi p s a) := by
  have h1 := eN_64 (v := v) (p := p) (l := l) (a := a) hb
  have h2 := lw_60 (v := v) hb
  have h3 : s = 0 ∨ s = 1 := by omega
  unfold fL_with y_E
  rcases h3 with rfl | rfl
  · rw [if_pos (show nI 0 = (0 : Int32) from rfl), show ((1 : Int64) <<< ((nI 61).toInt64 &&& 63)) ^^^ (-1 : Int64) = lN (2 ^ 60 * 13 + (2 ^ 60 - 1)) by decide, g_and h1 (by decide) (and_hi h2 (by decide))]
    rw [Nat.and_two_pow_sub_one_eq_mod, Nat.mod_eq_of_lt h2]
    congr 4
    unfold y_fl
    by_cases c1 : p = 0 <;> by_cases c2 : l = 0 <;> by_cases c3 : a = 0 <;> simp [c1, c2, c3]
  · rw [if_neg (by decide), show ((1 : Int64) <<< ((nI 61).toInt64 &&& 63)) = lN (2 ^ 60 * 2 + 0) by decide, g_orr h1 (by decide) (or_hi h2 (by decide))]
    rw [Nat.or_zero]
    congr 4
    unfold y_fl
    by_cases c1 : p = 0 <;> by_cases c2 : l = 0 <;> by_cases c3 : a = 0 <;> simp [c1, c2, c3]
theorem f_with62 {v : Int32} {bi p l a s : Nat} {M : zM} (hb : bi < 2 ^ 24) (hs : s ≤ 1) : fL_with (y_E v bi p l a) (nI 62) (nI s) M = some (y_E v bi p l s) := by
  have h1 := eN_64 (v := v) (p := p) (l := l) (a := a) hb
  have h2 := lw_60 (v := v) hb
  have h3 : s = 0 ∨ s = 1 := by omega
  unfold fL_with y_E
  rcases h3 with rfl | rfl
  · rw [if_pos (show nI 0 = (0 : Int32) from rfl), show ((1 : Int64) <<< ((nI 62).toInt64 &&& 63)) ^^^ (-1 : Int64) = lN (2 ^ 60 * 11 + (2 ^ 60 - 1)) by decide, g_and h1 (by decide) (and_hi h2 (by decide))]
    rw [Nat.and_two_pow_sub_one_eq_mod, Nat.mod_eq_of_lt h2]
    congr 4
    unfold y_fl
    by_cases c1 : p = 0 <;> by_cases c2 : l = 0 <;> by_cases c3 : a = 0 <;> simp [c1, c2, c3]
  · rw [if_neg (by decide), show ((1 : Int64) <<< ((nI 62).toInt64 &&& 63)) = lN (2 ^ 60 * 4 + 0) by decide, g_orr h1 (by decide) (or_hi h2 (by decide))]
    rw [Nat.or_zero]
    congr 4
    unfold y_fl
    by_cases c1 : p = 0 <;> by_cases c2 : l = 0 <;> by_cases c3 : a = 0 <;> simp [c1, c2, c3]
/-- value and birth written anew -/
theorem i64_and (w : Int32) : w.toInt64 &&& (4294967295 : Int64) = lN w.toBitVec.toNat := by
  apply Int64.toBitVec_inj.mp
  apply BitVec.eq_of_toNat_eq
  show (w.toInt64.toBitVec &&& 4294967295#64).toNat = (BitVec.ofNat 64 w.toBitVec.toNat).toNat
  have hv := v_32 w
  rw [BitVec.toNat_and, show (4294967295#64).toNat = 2 ^ 32 - 1 from by decide, Nat.and_two_pow_sub_one_eq_mod, BitVec.toNat_ofNat, Nat.mod_eq_of_lt (show w.toBitVec.toNat < 2 ^ 64 by omega)]
  show (w.toBitVec.signExtend 64).toNat % 2 ^ 32 = _
  have h : (w.toBitVec.signExtend 64).setWidth 32 = w.toBitVec := by
    apply BitVec.eq_of_getLsbD_eq
    intro i hi
    rw [BitVec.getLsbD_setWidth, BitVec.getLsbD_signExtend, if_pos hi, decide_eq_true hi, decide_eq_true (show i < 64 by omega), Bool.true_and, Bool.true_and]
  have h2 := congrArg BitVec.toNat h
  rw [BitVec.toNat_setWidth] at h2
  exact h2
theorem i64_n {o : Nat} (h : o < 2 ^ 31) : (nI o).toInt64 = lN o := by
  apply Int64.toInt_inj.mp
  rw [Int32.toInt_toInt64, nI_toInt h, show (lN o).toInt = (o : Int) from lg_ofNat_toInt (by omega)]
theorem e_shl {a k : Nat} {y : Int64} (hy : y.toBitVec.smod 64 = BitVec.ofNat 64 k) (hk : k < 64) (ha : a < 2 ^ 64) : lN a <<< y = lN (a * 2 ^ k) := by
  apply Int64.toBitVec_inj.mp
  rw [Int64.toBitVec_shiftLeft, hy]
  apply BitVec.eq_of_toNat_eq
  have hb : (lN a).toBitVec.toNat = a := Nat.mod_eq_of_lt ha
  have hk' : (BitVec.ofNat 64 k).toNat = k := Nat.mod_eq_of_lt (by omega)
  have h : ((lN a).toBitVec <<< BitVec.ofNat 64 k).toNat = (a * 2 ^ k) % 2 ^ 64 := by simp only [BitVec.shiftLeft_eq', BitVec.toNat_shiftLeft, hb, hk', Nat.shiftLeft_eq]
  exact h
theorem e_nw {v w : Int32} {bi p l a o : Nat} (hb : bi < 2 ^ 24) (ho : o < 2 ^ 24) : ((y_E v bi p l a &&& (-72057594037927936 : Int64)) ||| (w.toInt64 &&& (4294967295 : Int64))) ||| ((nI o).toInt64 <<< ((nI 32).toInt64 &&& 63)) = y_E w o p l a := by
  have h1 := eN_64 (v := v) (p := p) (l := l) (a := a) hb
  have h2 := lw_60 (v := v) hb
  have h7 := fl_7 (p := p) (l := l) (a := a)
  have hv := v_32 w
  have e1 : y_E v bi p l a &&& (-72057594037927936 : Int64) = lN (2 ^ 60 * y_fl p l a) := by
    unfold y_E
    rw [show (-72057594037927936 : Int64) = lN (2 ^ 60 * 15 + 2 ^ 56 * 15) by decide, g_and h1 (by decide) (and_hi h2 (by decide))]
    have e2 : y_fl p l a &&& 15 = y_fl p l a := by
      rw [show (15 : Nat) = 2 ^ 4 - 1 from rfl, Nat.and_two_pow_sub_one_eq_mod]
      omega
    have e3 : y_lw v bi &&& 2 ^ 56 * 15 = 0 := by
      apply Nat.eq_of_testBit_eq
      intro i
      rw [Nat.testBit_and, Nat.testBit_two_pow_mul, Nat.zero_testBit]
      by_cases c : i < 56
      · simp [show ¬ i ≥ 56 by omega]
      · rw [Nat.testBit_lt_two_pow (show y_lw v bi < 2 ^ i from Nat.lt_of_lt_of_le (lw_lt hb) (Nat.pow_le_pow_right (by decide) (by omega)))]
        rfl
    rw [e2, e3, Nat.add_zero]
  have e4 : (nI o).toInt64 <<< ((nI 32).toInt64 &&& 63) = lN (2 ^ 32 * o) := by
    rw [i64_n (by omega), e_shl (k := 32) (by decide) (by decide) (by omega), Nat.mul_comm]
  rw [e1, i64_and, e4, Int64.or_assoc]
  rw [g_orr (c := y_lw w o) (by omega) (by omega) (by rw [Nat.or_comm]; exact (Nat.two_pow_add_eq_or_of_lt hv o).symm)]
  unfold y_E
  exact g_orr (by omega) (by have := lw_lt (v := w) ho; omega) (Nat.two_pow_add_eq_or_of_lt (lw_60 ho) _).symm
