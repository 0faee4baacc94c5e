/-! ===== the class: tables and the counts of uses ===== -/
/-- the tables are T, and the counts of uses are T's -/
def z_T (V : Nat) (M : zM) (T : Nat → Nat) : Prop := (∀ t, t < 18 → ∀ p, p < 128 → M (V + 9 + 3 * t + 1 + 1) p = nI (T (128 * t + p)) - nI 1) ∧ (∀ b, b < 128 → M (V + 3 + 4) b = nI (cntN T (b + 1) 2304)) ∧ ∀ k, k < 2304 → T k ≤ 128
theorem z_T_T {V : Nat} {M : zM} {T T' : Nat → Nat} (h : z_T V M T) (hc : ∀ k, k < 2304 → T' k = T k) : z_T V M T' := ⟨fun t ht p hp => by rw [hc _ (by omega)]; exact h.1 t ht p hp, fun b hb => by rw [cntN_cg (T := T') (T' := T) hc]; exact h.2.1 b hb, fun k hk => by rw [hc k hk]; exact h.2.2 k hk⟩
theorem z_T_cg {V : Nat} {M M' : zM} {T : Nat → Nat} (h : z_T V M T) (h1 : M' (V + 3 + 4) = M (V + 3 + 4)) (h2 : ∀ t, t < 18 → M' (V + 9 + 3 * t + 1 + 1) = M (V + 9 + 3 * t + 1 + 1)) : z_T V M' T := ⟨fun t ht p hp => by rw [h2 t ht]; exact h.1 t ht p hp, fun b hb => by rw [h1]; exact h.2.1 b hb, h.2.2⟩
theorem cRm {V y : Nat} {M : zM} (hy : y ≤ 128) : ∃ M', fX3_removeUse (V + 3) (nI y - nI 1) M = some M' ∧ (∀ a, a ≠ V + 3 + 4 → M' a = M a) ∧ ∀ b, b < 128 → M' (V + 3 + 4) b = if b + 1 = y then M (V + 3 + 4) b - nI 1 else M (V + 3 + 4) b := by
  unfold fX3_removeUse
  by_cases q : y = 0
  · subst q
    exact ⟨M, by simp (disch := first | omega | assumption) only [l_0, l_1, l_2, l_3, l_4, l_5, l_6, l_7, l_8, l_11, l_12, l_15, l_16, l_31, l_32, l_66, l_80, l_100, l_127, l_128, l_768, l_2304, l_2310, l_2316, l_2388, l_2394, l_2406, l_2418, l_2430, l_2558, l_2686, l_2814, l_2942, l_3070, l_3390, l_3394, l_3395, l_3396, l_3397, n_leT, n_leF, n_ltT, n_ltF, n_eqT, n_eqF, nI_add, pk_mul, n_sub, z_ldn, z_san, z_bs, z_b2s, z_b3s, z_ocN, z_ocS, z_oxL, z_oxR, z_scL, z_scR, ↓reduceIte, st_170, st_171, st_172, st_173, Nat.zero_add, Nat.add_zero, Nat.zero_lt_succ, true_and, and_true, eq_self, cIb0], fun _ _ => rfl, fun b _ => by rw [if_neg (by omega)]⟩
  · refine ⟨z_st M (V + 3 + 4) (y - 1) (M (V + 3 + 4) (y - 1) - nI 1), by simp (disch := first | omega | assumption) only [l_0, l_1, l_2, l_3, l_4, l_5, l_6, l_7, l_8, l_11, l_12, l_15, l_16, l_31, l_32, l_66, l_80, l_100, l_127, l_128, l_768, l_2304, l_2310, l_2316, l_2388, l_2394, l_2406, l_2418, l_2430, l_2558, l_2686, l_2814, l_2942, l_3070, l_3390, l_3394, l_3395, l_3396, l_3397, n_leT, n_leF, n_ltT, n_ltF, n_eqT, n_eqF, nI_add, pk_mul, n_sub, z_ldn, z_san, z_bs, z_b2s, z_b3s, z_ocN, z_ocS, z_oxL, z_oxR, z_scL, z_scR, ↓reduceIte, st_170, st_171, st_172, st_173, Nat.zero_add, Nat.add_zero, Nat.zero_lt_succ, true_and, and_true, eq_self, cIb], fun a ha => s_n ha, fun b hb => ?_⟩
    rw [s_s]
    by_cases q2 : b + 1 = y
    · rw [if_pos q2, show b = y - 1 by omega, u_s]
    · rw [if_neg q2, u_n (by omega)]
theorem cAd {V y : Nat} {M : zM} (hy : y ≤ 128) : ∃ M', fX3_addUse (V + 3) (nI y - nI 1) M = some M' ∧ (∀ a, a ≠ V + 3 + 4 → M' a = M a) ∧ ∀ b, b < 128 → M' (V + 3 + 4) b = if b + 1 = y then M (V + 3 + 4) b + nI 1 else M (V + 3 + 4) b := by
  unfold fX3_addUse
  by_cases q : y = 0
  · subst q
    exact ⟨M, by simp (disch := first | omega | assumption) only [l_0, l_1, l_2, l_3, l_4, l_5, l_6, l_7, l_8, l_11, l_12, l_15, l_16, l_31, l_32, l_66, l_80, l_100, l_127, l_128, l_768, l_2304, l_2310, l_2316, l_2388, l_2394, l_2406, l_2418, l_2430, l_2558, l_2686, l_2814, l_2942, l_3070, l_3390, l_3394, l_3395, l_3396, l_3397, n_leT, n_leF, n_ltT, n_ltF, n_eqT, n_eqF, nI_add, pk_mul, n_sub, z_ldn, z_san, z_bs, z_b2s, z_b3s, z_ocN, z_ocS, z_oxL, z_oxR, z_scL, z_scR, ↓reduceIte, st_170, st_171, st_172, st_173, Nat.zero_add, Nat.add_zero, Nat.zero_lt_succ, true_and, and_true, eq_self, cIb0], fun _ _ => rfl, fun b _ => by rw [if_neg (by omega)]⟩
  · refine ⟨z_st M (V + 3 + 4) (y - 1) (M (V + 3 + 4) (y - 1) + nI 1), by simp (disch := first | omega | assumption) only [l_0, l_1, l_2, l_3, l_4, l_5, l_6, l_7, l_8, l_11, l_12, l_15, l_16, l_31, l_32, l_66, l_80, l_100, l_127, l_128, l_768, l_2304, l_2310, l_2316, l_2388, l_2394, l_2406, l_2418, l_2430, l_2558, l_2686, l_2814, l_2942, l_3070, l_3390, l_3394, l_3395, l_3396, l_3397, n_leT, n_leF, n_ltT, n_ltF, n_eqT, n_eqF, nI_add, pk_mul, n_sub, z_ldn, z_san, z_bs, z_b2s, z_b3s, z_ocN, z_ocS, z_oxL, z_oxR, z_scL, z_scR, ↓reduceIte, st_170, st_171, st_172, st_173, Nat.zero_add, Nat.add_zero, Nat.zero_lt_succ, true_and, and_true, eq_self, cIb], fun a ha => s_n ha, fun b hb => ?_⟩
    rw [s_s]
    by_cases q2 : b + 1 = y
    · rw [if_pos q2, show b = y - 1 by omega, u_s]
    · rw [if_neg q2, u_n (by omega)]
theorem cPut {V t p x : Nat} {M : zM} {T : Nat → Nat} (hT : z_T V M T) (ht : t < 18) (hp : p < 128) (hx : x ≤ 128) : ∃ M', fX5_put V (V + 9 + 3 * t + 1) (nI p) (nI x - nI 1) M = some M' ∧ z_T V M' (updN T (128 * t + p) x) ∧ ∀ a, a ≠ V + 3 + 4 → a ≠ V + 9 + 3 * t + 1 + 1 → M' a = M a := by
  have hy := hT.2.2 (128 * t + p) (by omega)
  obtain ⟨M1, r1, r2, r3⟩ := cRm (V := V) (M := M) hy
  obtain ⟨M2, s1, s2, s3⟩ := cAd (V := V) (M := M1) hx
  have hT1 := hT.1 t ht p hp
  have hk : 128 * t + p < 2304 := by omega
  refine ⟨z_st M2 (V + 9 + 3 * t + 1 + 1) p (nI x - nI 1), ?_, ⟨fun u hu q hq => ?_, fun b hb => ?_, fun k hk => ?_⟩, fun a h1 h2 => by rw [s_n h2, s2 a h1, r2 a h1]⟩
  · unfold fX5_put fX4_set
    simp (disch := first | omega | assumption) only [l_0, l_1, l_2, l_3, l_4, l_5, l_6, l_7, l_8, l_11, l_12, l_15, l_16, l_31, l_32, l_66, l_80, l_100, l_127, l_128, l_768, l_2304, l_2310, l_2316, l_2388, l_2394, l_2406, l_2418, l_2430, l_2558, l_2686, l_2814, l_2942, l_3070, l_3390, l_3394, l_3395, l_3396, l_3397, n_leT, n_leF, n_ltT, n_ltF, n_eqT, n_eqF, nI_add, pk_mul, n_sub, z_ldn, z_san, z_bs, z_b2s, z_b3s, z_ocN, z_ocS, z_oxL, z_oxR, z_scL, z_scR, ↓reduceIte, st_170, st_171, st_172, st_173, Nat.zero_add, Nat.add_zero, Nat.zero_lt_succ, true_and, and_true, eq_self, cBo, hT1, r1, s1]
  · by_cases h1 : u = t
    · subst h1
      rw [s_s]
      by_cases h2 : q = p
      · subst h2
        rw [u_s, show updN T (128 * u + q) x (128 * u + q) = x from if_pos rfl]
      · rw [u_n h2, s2 _ (by omega), r2 _ (by omega), hT.1 u hu q hq, show updN T (128 * u + p) x (128 * u + q) = T (128 * u + q) from if_neg (by omega)]
    · rw [s_n (by omega), s2 _ (by omega), r2 _ (by omega), hT.1 u hu q hq, show updN T (128 * t + p) x (128 * u + q) = T (128 * u + q) from if_neg (by omega)]
  · rw [s_n (by omega), s3 b hb, r3 b hb, hT.2.1 b hb]
    have e := cntN_up (T := T) (k := 128 * t + p) (x := x) (y := b + 1) hk
    by_cases h1 : T (128 * t + p) = b + 1
    · have hc : cntN T (b + 1) 2304 ≠ 0 := cntN_pos.mpr ⟨_, hk, h1⟩
      rw [if_pos h1] at e
      rw [if_pos h1.symm, n_sub (by omega)]
      by_cases h2 : x = b + 1
      · rw [if_pos h2] at e
        rw [if_pos h2.symm, nI_add]
        exact congrArg nI (by omega)
      · rw [if_neg h2] at e
        rw [if_neg (show ¬ b + 1 = x from fun q => h2 q.symm)]
        exact congrArg nI (by omega)
    · rw [if_neg h1] at e
      rw [if_neg (show ¬ b + 1 = T (128 * t + p) from fun q => h1 q.symm)]
      by_cases h2 : x = b + 1
      · rw [if_pos h2] at e
        rw [if_pos h2.symm, nI_add]
        exact congrArg nI (by omega)
      · rw [if_neg h2] at e
        rw [if_neg (show ¬ b + 1 = x from fun q => h2 q.symm)]
        exact congrArg nI (by omega)
  · unfold updN
    split
    · exact hx
    · exact hT.2.2 k hk
/-- table t as table u is -/
def z_fillT (T : Nat → Nat) (t u : Nat) : Nat → Nat := fun k => if 128 * t ≤ k ∧ k < 128 * t + 128 then T (128 * u + (k - 128 * t)) else T k
def z_clrT (T : Nat → Nat) (t : Nat) : Nat → Nat := fun k => if 128 * t ≤ k ∧ k < 128 * t + 128 then 0 else T k
theorem cFill {V t u : Nat} {M : zM} {T : Nat → Nat} (hT : z_T V M T) (ht : t < 18) (hu : u < 18) (htu : t ≠ u) : ∃ M', fX5_fill V (V + 9 + 3 * t + 1) (V + 9 + 3 * u + 1) M = some M' ∧ z_T V M' (z_fillT T t u) ∧ ∀ a, a ≠ V + 3 + 4 → a ≠ V + 9 + 3 * t + 1 + 1 → M' a = M a := by
  unfold fX5_fill
  obtain ⟨M', h1, h2⟩ := z_loopM (f := fun s : Int32 × zM => fX5_fill_L1 V (V + 9 + 3 * t + 1) (V + 9 + 3 * u + 1) s.1 s.2) (fun i M' => (∃ T', z_T V M' T' ∧ ∀ k, k < 2304 → T' k = if 128 * t ≤ k ∧ k < 128 * t + i then T (128 * u + (k - 128 * t)) else T k) ∧ ∀ a, a ≠ V + 3 + 4 → a ≠ V + 9 + 3 * t + 1 + 1 → M' a = M a) (fun M' => z_T V M' (z_fillT T t u) ∧ ∀ a, a ≠ V + 3 + 4 → a ≠ V + 9 + 3 * t + 1 + 1 → M' a = M a) 0 128 (by decide) (s := 0) (M := M) rfl ⟨⟨T, hT, fun k _ => by rw [if_neg (by omega)]⟩, fun _ _ _ => rfl⟩ (fun i M' hi hI => by
    obtain ⟨⟨T', a1, a2⟩, a3⟩ := hI
    have b1 := a1.1 u hu i hi
    have b2 : T' (128 * u + i) = T (128 * u + i) := by rw [a2 _ (by omega), if_neg (by omega)]
    rw [b2] at b1
    obtain ⟨M2, c1, c2, c3⟩ := cPut (x := T (128 * u + i)) a1 ht hi (hT.2.2 _ (by omega))
    refine ⟨M2, by simp (disch := first | omega | assumption) only [l_0, l_1, l_2, l_3, l_4, l_5, l_6, l_7, l_8, l_11, l_12, l_15, l_16, l_31, l_32, l_66, l_80, l_100, l_127, l_128, l_768, l_2304, l_2310, l_2316, l_2388, l_2394, l_2406, l_2418, l_2430, l_2558, l_2686, l_2814, l_2942, l_3070, l_3390, l_3394, l_3395, l_3396, l_3397, n_leT, n_leF, n_ltT, n_ltF, n_eqT, n_eqF, nI_add, pk_mul, n_sub, z_ldn, z_san, z_bs, z_b2s, z_b3s, z_ocN, z_ocS, z_oxL, z_oxR, z_scL, z_scR, ↓reduceIte, st_170, st_171, st_172, st_173, Nat.zero_add, Nat.add_zero, Nat.zero_lt_succ, true_and, and_true, eq_self, fX5_fill_L1, cBo, b1, c1], ⟨_, c2, fun k hk => ?_⟩, fun a q1 q2 => by rw [c3 a q1 q2, a3 a q1 q2]⟩
    unfold updN
    by_cases q : k = 128 * t + i
    · rw [if_pos q, if_pos (by omega), q, Nat.add_sub_cancel_left]
    · rw [if_neg q, a2 k hk]
      by_cases q2 : 128 * t ≤ k ∧ k < 128 * t + i
      · rw [if_pos q2, if_pos (by omega)]
      · rw [if_neg q2, if_neg (by omega)]) (fun M' hI => by
    obtain ⟨⟨T', a1, a2⟩, a3⟩ := hI
    exact ⟨M', by simp (disch := first | omega | assumption) only [l_0, l_1, l_2, l_3, l_4, l_5, l_6, l_7, l_8, l_11, l_12, l_15, l_16, l_31, l_32, l_66, l_80, l_100, l_127, l_128, l_768, l_2304, l_2310, l_2316, l_2388, l_2394, l_2406, l_2418, l_2430, l_2558, l_2686, l_2814, l_2942, l_3070, l_3390, l_3394, l_3395, l_3396, l_3397, n_leT, n_leF, n_ltT, n_ltF, n_eqT, n_eqF, nI_add, pk_mul, n_sub, z_ldn, z_san, z_bs, z_b2s, z_b3s, z_ocN, z_ocS, z_oxL, z_oxR, z_scL, z_scR, ↓reduceIte, st_170, st_171, st_172, st_173, Nat.zero_add, Nat.add_zero, Nat.zero_lt_succ, true_and, and_true, eq_self, fX5_fill_L1], z_T_T a1 (fun k hk => (a2 k hk).symm), a3⟩)
  refine ⟨M', ?_, h2⟩
  rw [h1]
  rfl
theorem cClr {V t : Nat} {M : zM} {T : Nat → Nat} (hT : z_T V M T) (ht : t < 18) : ∃ M', fX5_clear V (V + 9 + 3 * t + 1) M = some M' ∧ z_T V M' (z_clrT T t) ∧ ∀ a, a ≠ V + 3 + 4 → a ≠ V + 9 + 3 * t + 1 + 1 → M' a = M a := by
  unfold fX5_clear
  obtain ⟨M', h1, h2⟩ := z_loopM (f := fun s : Int32 × zM => fX5_clear_L1 V (V + 9 + 3 * t + 1) s.1 s.2) (fun i M' => (∃ T', z_T V M' T' ∧ ∀ k, k < 2304 → T' k = if 128 * t ≤ k ∧ k < 128 * t + i then 0 else T k) ∧ ∀ a, a ≠ V + 3 + 4 → a ≠ V + 9 + 3 * t + 1 + 1 → M' a = M a) (fun M' => z_T V M' (z_clrT T t) ∧ ∀ a, a ≠ V + 3 + 4 → a ≠ V + 9 + 3 * t + 1 + 1 → M' a = M a) 0 128 (by decide) (s := 0) (M := M) rfl ⟨⟨T, hT, fun k _ => by rw [if_neg (by omega)]⟩, fun _ _ _ => rfl⟩ (fun i M' hi hI => by
    obtain ⟨⟨T', a1, a2⟩, a3⟩ := hI
    obtain ⟨M2, c1, c2, c3⟩ := cPut (x := 0) a1 ht hi (by decide)
    refine ⟨M2, by simp (disch := first | omega | assumption) only [l_0, l_1, l_2, l_3, l_4, l_5, l_6, l_7, l_8, l_11, l_12, l_15, l_16, l_31, l_32, l_66, l_80, l_100, l_127, l_128, l_768, l_2304, l_2310, l_2316, l_2388, l_2394, l_2406, l_2418, l_2430, l_2558, l_2686, l_2814, l_2942, l_3070, l_3390, l_3394, l_3395, l_3396, l_3397, n_leT, n_leF, n_ltT, n_ltF, n_eqT, n_eqF, nI_add, pk_mul, n_sub, z_ldn, z_san, z_bs, z_b2s, z_b3s, z_ocN, z_ocS, z_oxL, z_oxR, z_scL, z_scR, ↓reduceIte, st_170, st_171, st_172, st_173, Nat.zero_add, Nat.add_zero, Nat.zero_lt_succ, true_and, and_true, eq_self, fX5_clear_L1, show -nI 1 = nI 0 - nI 1 by decide, c1], ⟨_, c2, fun k hk => ?_⟩, fun a q1 q2 => by rw [c3 a q1 q2, a3 a q1 q2]⟩
    unfold updN
    by_cases q : k = 128 * t + i
    · rw [if_pos q, if_pos (by omega)]
    · rw [if_neg q, a2 k hk]
      by_cases q2 : 128 * t ≤ k ∧ k < 128 * t + i
      · rw [if_pos q2, if_pos (by omega)]
      · rw [if_neg q2, if_neg (by omega)]) (fun M' hI => by
    obtain ⟨⟨T', a1, a2⟩, a3⟩ := hI
    exact ⟨M', by simp (disch := first | omega | assumption) only [l_0, l_1, l_2, l_3, l_4, l_5, l_6, l_7, l_8, l_11, l_12, l_15, l_16, l_31, l_32, l_66, l_80, l_100, l_127, l_128, l_768, l_2304, l_2310, l_2316, l_2388, l_2394, l_2406, l_2418, l_2430, l_2558, l_2686, l_2814, l_2942, l_3070, l_3390, l_3394, l_3395, l_3396, l_3397, n_leT, n_leF, n_ltT, n_ltF, n_eqT, n_eqF, nI_add, pk_mul, n_sub, z_ldn, z_san, z_bs, z_b2s, z_b3s, z_ocN, z_ocS, z_oxL, z_oxR, z_scL, z_scR, ↓reduceIte, st_170, st_171, st_172, st_173, Nat.zero_add, Nat.add_zero, Nat.zero_lt_succ, true_and, and_true, eq_self, fX5_clear_L1], z_T_T a1 (fun k hk => (a2 k hk).symm), a3⟩)
  refine ⟨M', ?_, h2⟩
  rw [h1]
  rfl
/-- the class: blocks that nothing uses any more -/
theorem cSet {V o : Nat} {M : zM} {st c bi : Nat → Nat} (h1 : ∀ b, b < 128 → M (V + 3 + 1) b = nI (st b) ∧ st b ≤ 2) (h2 : ∀ b, b < 128 → M (V + 3 + 4) b = nI (c b) ∧ c b ≤ 2304) (h3 : ∀ b, b < 128 → M (V + 3 + 3) b = nI (bi b) ∧ bi b < 2 ^ 30) (ho : M V 4 = nI o) (ho2 : o < 2 ^ 30) : ∃ M', fX5_settle V M = some (nI (sumN (fun b => if st b = 1 ∧ c b = 0 then 1 else 0) 128), M') ∧ (∀ a, a ≠ V + 3 + 1 → M' a = M a) ∧ ∀ b, b < 128 → M' (V + 3 + 1) b = nI (if st b = 1 ∧ c b = 0 then (if bi b = o then 0 else 2) else st b) := by
  unfold fX5_settle fX3_retireUnused
  obtain ⟨r, q1, q2⟩ := z_loopA (f := fun s : Int32 × Int32 × zM => fX3_retireUnused_L1 (V + 3) (nI o) s.1 s.2.1 s.2.2) (fun i x M' => x = nI (sumN (fun b => if st b = 1 ∧ c b = 0 then 1 else 0) i) ∧ (∀ a, a ≠ V + 3 + 1 → M' a = M a) ∧ ∀ b, b < 128 → M' (V + 3 + 1) b = nI (if b < i ∧ st b = 1 ∧ c b = 0 then (if bi b = o then 0 else 2) else st b)) (fun r => r.1 = nI (sumN (fun b => if st b = 1 ∧ c b = 0 then 1 else 0) 128) ∧ (∀ a, a ≠ V + 3 + 1 → r.2 a = M a) ∧ ∀ b, b < 128 → r.2 (V + 3 + 1) b = nI (if st b = 1 ∧ c b = 0 then (if bi b = o then 0 else 2) else st b)) 0 128 (by decide) (x := 0) (s := 0) (M := M) rfl ⟨rfl, fun _ _ => rfl, fun b hb => by rw [if_neg (by omega)]; exact (h1 b hb).1⟩ (fun i x M' hi hI => by
    obtain ⟨a1, a2, a3⟩ := hI
    obtain ⟨b1, b2⟩ := h1 i hi
    obtain ⟨c1, c2⟩ := h2 i hi
    obtain ⟨d1, d2⟩ := h3 i hi
    have e1 : M' (V + 3 + 1) i = nI (st i) := by rw [a3 i hi, if_neg (by omega)]
    have e2 : M' (V + 3 + 4) i = nI (c i) := by rw [a2 _ (by omega)]; exact c1
    have e3 : M' (V + 3 + 3) i = nI (bi i) := by rw [a2 _ (by omega)]; exact d1
    subst a1
    by_cases p1 : st i = 1 ∧ c i = 0
    · have hs : sumN (fun b => if st b = 1 ∧ c b = 0 then 1 else 0) (i + 1) = sumN (fun b => if st b = 1 ∧ c b = 0 then 1 else 0) i + 1 := by
        show _ + (if st i = 1 ∧ c i = 0 then 1 else 0) = _
        rw [if_pos p1]
      have hrow : ∀ v : Nat, v = (if bi i = o then 0 else 2) → ∀ b, b < 128 → z_st M' (V + 3 + 1) i (nI v) (V + 3 + 1) b = nI (if b < i + 1 ∧ st b = 1 ∧ c b = 0 then (if bi b = o then 0 else 2) else st b) := fun v hv b hb => by
        rw [s_s]
        by_cases q : b = i
        · subst q
          rw [u_s, if_pos ⟨Nat.lt_succ_self _, p1⟩, hv]
        · rw [u_n q, a3 b hb]
          congr 1
          by_cases q2 : b < i ∧ st b = 1 ∧ c b = 0
          · rw [if_pos q2, if_pos (show b < i + 1 ∧ st b = 1 ∧ c b = 0 from ⟨by omega, q2.2⟩)]
          · rw [if_neg q2, if_neg (show ¬ (b < i + 1 ∧ st b = 1 ∧ c b = 0) from fun q3 => q2 ⟨by omega, q3.2⟩)]
      by_cases p2 : bi i = o
      · refine ⟨_, z_st M' (V + 3 + 1) i (nI 0), ?_, congrArg nI hs.symm, fun a ha => by rw [s_n ha]; exact a2 a ha, hrow 0 (by rw [if_pos p2])⟩
        simp (disch := first | omega | assumption) only [l_0, l_1, l_2, l_3, l_4, l_5, l_6, l_7, l_8, l_11, l_12, l_15, l_16, l_31, l_32, l_66, l_80, l_100, l_127, l_128, l_768, l_2304, l_2310, l_2316, l_2388, l_2394, l_2406, l_2418, l_2430, l_2558, l_2686, l_2814, l_2942, l_3070, l_3390, l_3394, l_3395, l_3396, l_3397, n_leT, n_leF, n_ltT, n_ltF, n_eqT, n_eqF, nI_add, pk_mul, n_sub, z_ldn, z_san, z_bs, z_b2s, z_b3s, z_ocN, z_ocS, z_oxL, z_oxR, z_scL, z_scR, ↓reduceIte, st_170, st_171, st_172, st_173, Nat.zero_add, Nat.add_zero, Nat.zero_lt_succ, true_and, and_true, eq_self, fX3_retireUnused_L1, e1, e2, e3, p1.1, p1.2, p2]
      · refine ⟨_, z_st M' (V + 3 + 1) i (nI 2), ?_, congrArg nI hs.symm, fun a ha => by rw [s_n ha]; exact a2 a ha, hrow 2 (by rw [if_neg p2])⟩
        simp (disch := first | omega | assumption) only [l_0, l_1, l_2, l_3, l_4, l_5, l_6, l_7, l_8, l_11, l_12, l_15, l_16, l_31, l_32, l_66, l_80, l_100, l_127, l_128, l_768, l_2304, l_2310, l_2316, l_2388, l_2394, l_2406, l_2418, l_2430, l_2558, l_2686, l_2814, l_2942, l_3070, l_3390, l_3394, l_3395, l_3396, l_3397, n_leT, n_leF, n_ltT, n_ltF, n_eqT, n_eqF, nI_add, pk_mul, n_sub, z_ldn, z_san, z_bs, z_b2s, z_b3s, z_ocN, z_ocS, z_oxL, z_oxR, z_scL, z_scR, ↓reduceIte, st_170, st_171, st_172, st_173, Nat.zero_add, Nat.add_zero, Nat.zero_lt_succ, true_and, and_true, eq_self, fX3_retireUnused_L1, e1, e2, e3, p1.1, p1.2]
    · have hs : sumN (fun b => if st b = 1 ∧ c b = 0 then 1 else 0) (i + 1) = sumN (fun b => if st b = 1 ∧ c b = 0 then 1 else 0) i := by
        show _ + (if st i = 1 ∧ c i = 0 then 1 else 0) = _
        rw [if_neg p1]
        rfl
      refine ⟨_, M', ?_, congrArg nI hs.symm, a2, fun b hb => ?_⟩
      · by_cases p2 : st i = 1
        · have p3 : c i ≠ 0 := fun q => p1 ⟨p2, q⟩
          simp (disch := first | omega | assumption) only [l_0, l_1, l_2, l_3, l_4, l_5, l_6, l_7, l_8, l_11, l_12, l_15, l_16, l_31, l_32, l_66, l_80, l_100, l_127, l_128, l_768, l_2304, l_2310, l_2316, l_2388, l_2394, l_2406, l_2418, l_2430, l_2558, l_2686, l_2814, l_2942, l_3070, l_3390, l_3394, l_3395, l_3396, l_3397, n_leT, n_leF, n_ltT, n_ltF, n_eqT, n_eqF, nI_add, pk_mul, n_sub, z_ldn, z_san, z_bs, z_b2s, z_b3s, z_ocN, z_ocS, z_oxL, z_oxR, z_scL, z_scR, ↓reduceIte, st_170, st_171, st_172, st_173, Nat.zero_add, Nat.add_zero, Nat.zero_lt_succ, true_and, and_true, eq_self, fX3_retireUnused_L1, e1, e2, p2]
        · simp (disch := first | omega | assumption) only [l_0, l_1, l_2, l_3, l_4, l_5, l_6, l_7, l_8, l_11, l_12, l_15, l_16, l_31, l_32, l_66, l_80, l_100, l_127, l_128, l_768, l_2304, l_2310, l_2316, l_2388, l_2394, l_2406, l_2418, l_2430, l_2558, l_2686, l_2814, l_2942, l_3070, l_3390, l_3394, l_3395, l_3396, l_3397, n_leT, n_leF, n_ltT, n_ltF, n_eqT, n_eqF, nI_add, pk_mul, n_sub, z_ldn, z_san, z_bs, z_b2s, z_b3s, z_ocN, z_ocS, z_oxL, z_oxR, z_scL, z_scR, ↓reduceIte, st_170, st_171, st_172, st_173, Nat.zero_add, Nat.add_zero, Nat.zero_lt_succ, true_and, and_true, eq_self, fX3_retireUnused_L1, e1]
      · rw [a3 b hb]
        congr 1
        by_cases q2 : b < i ∧ st b = 1 ∧ c b = 0
        · rw [if_pos q2, if_pos (show b < i + 1 ∧ st b = 1 ∧ c b = 0 from ⟨by omega, q2.2⟩)]
        · rw [if_neg q2, if_neg (show ¬ (b < i + 1 ∧ st b = 1 ∧ c b = 0) from fun q3 => by
            rcases Nat.lt_or_ge b i with q4 | q4
            · exact q2 ⟨q4, q3.2⟩
            · have : b = i := by omega
              subst this
              exact p1 q3.2)]) (fun x M' hI => by
    obtain ⟨a1, a2, a3⟩ := hI
    refine ⟨(x, M'), by simp (disch := first | omega | assumption) only [l_0, l_1, l_2, l_3, l_4, l_5, l_6, l_7, l_8, l_11, l_12, l_15, l_16, l_31, l_32, l_66, l_80, l_100, l_127, l_128, l_768, l_2304, l_2310, l_2316, l_2388, l_2394, l_2406, l_2418, l_2430, l_2558, l_2686, l_2814, l_2942, l_3070, l_3390, l_3394, l_3395, l_3396, l_3397, n_leT, n_leF, n_ltT, n_ltF, n_eqT, n_eqF, nI_add, pk_mul, n_sub, z_ldn, z_san, z_bs, z_b2s, z_b3s, z_ocN, z_ocS, z_oxL, z_oxR, z_scL, z_scR, ↓reduceIte, st_170, st_171, st_172, st_173, Nat.zero_add, Nat.add_zero, Nat.zero_lt_succ, true_and, and_true, eq_self, fX3_retireUnused_L1], a1, a2, fun b hb => ?_⟩
    show M' (V + 3 + 1) b = _
    rw [a3 b hb]
    congr 1
    by_cases q2 : st b = 1 ∧ c b = 0
    · rw [if_pos q2, if_pos (show b < 128 ∧ st b = 1 ∧ c b = 0 from ⟨hb, q2⟩)]
    · rw [if_neg q2, if_neg (show ¬ (b < 128 ∧ st b = 1 ∧ c b = 0) from fun q3 => q2 q3.2)])
  obtain ⟨r1, r2⟩ := r
  obtain ⟨q2, q3⟩ := q2
  have q2 : r1 = _ := q2
  subst q2
  refine ⟨r2, ?_, q3⟩
  rw [ho, q1]
  rfl
