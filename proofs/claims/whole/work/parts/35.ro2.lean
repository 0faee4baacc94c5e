/-! ===== the calls that change nothing: files, snapshots' records ===== -/
theorem roZ {n : Nat} {M : zM} (h : z_P n M) {Hc : Option Int32} {Mo : zM → Option (Int32 × zM)} {v : Int32} (h1 : Hc = some v) (h2 : Mo M = some (v, z_st M 169 4 (nI 0))) : ∃ M9, (Hc.bind fun x1 => z_b2 (Mo M) fun x2 M3 => if x1 = x2 then (some ((1 : Int32), M3)) else (some (0, M3))) = some (1, M9) ∧ z_P (n + 1) M9 :=
  ⟨_, by rw [h1, z_bs, h2, z_b2s, if_pos rfl], z_P_same h (z_same_st z_same_rfl (by omega))⟩
theorem N1' {M M' : zM} {S : Nat → Nat} (h : z_N (M 170) S) (hM : M' 170 = M 170) : ∀ k, k < 2430 → M' (169 + 1) k = nI (S k) := N1 (by rw [hM]; exact h)
theorem N2' {M M' : zM} {S : Nat → Nat} (h : z_N (M 170) S) (hM : M' 170 = M 170) : ∀ k, 2558 ≤ k → k < 3070 → M' (169 + 1) k = nI (S k) := N2 (by rw [hM]; exact h)
theorem N3' {M M' : zM} {S : Nat → Nat} (h : z_N (M 170) S) (hM : M' 170 = M 170) : ∀ k, 3390 ≤ k → k < 3397 → M' (169 + 1) k = nI (S k) := N3 (by rw [hM]; exact h)
theorem n_m0d : -nI 1 = nI 0 - nI 1 := by decide
theorem n_m1lt : (-nI 1 < nI 0) = True := eq_true (by decide)
theorem hb30 {n : Nat} {S : Nat → Nat} (hI : z_I n S) (hn : n < 512) : ∀ s, s < 12 → S (2394 + s) < 2 ^ 30 := fun s hs => by
  have := I_nb hI s hs
  omega
theorem op_2 {n : Nat} {M : zM} (h : z_P n M) (a1 a2 a3 a4 a5 a6 : Int32) : ∃ M9, fL_c2 a1 a2 a3 a4 a5 a6 M = some (1, M9) ∧ z_P (n + 1) M9 := by
  obtain ⟨S, S0, hN, _, hR, _, hI, _⟩ := id h
  unfold fL_c2 fL_blockAt
  refine roIO h ?_
  have hN1 := N1 hN
  rcases ds_cases a1 (I_ex hI) with ⟨d, hd, rfl, h1⟩ | h1
  · rcases pl_cases a2 a3 with ⟨f, i, hf, hi, rfl, rfl⟩ | h2
    · have hp : 16 * f + i < 128 := by omega
      have hk := kd1_ds hd
      have hT := hR.1 d (by omega) (16 * f + i) hp
      refine Or.inr ⟨nI (S (128 * d + (16 * f + i))) - nI 1, ?_, fun M' hM => ?_⟩
      · unfold fX6_blockAt
        simp (disch := first | omega | assumption) only [l_0, l_1, l_2, l_3, l_4, l_5, l_6, l_7, l_8, l_11, l_12, l_15, l_16, l_31, l_32, l_66, l_80, l_100, l_127, l_128, l_768, l_2304, l_2310, l_2316, l_2388, l_2394, l_2406, l_2418, l_2430, l_2558, l_2686, l_2814, l_2942, l_3070, l_3390, l_3394, l_3395, l_3396, l_3397, n_leT, n_leF, n_ltT, n_ltF, n_eqT, n_eqF, nI_add, pk_mul, n_sub, z_ldn, z_san, z_bs, z_b2s, z_b3s, z_ocN, z_ocS, z_oxL, z_oxR, z_scL, z_scR, ↓reduceIte, st_170, st_171, st_172, st_173, Nat.zero_add, Nat.add_zero, Nat.zero_lt_succ, true_and, and_true, eq_self, cDs_ok hR.2.1 hd h1, z_gdp hk, cPl_ok hf hi, cBo hp, hT]
      · have hN2 := N1' hN hM
        unfold fX7_blockAt
        rw [mKn_ok hN2 hd h1 hf hi, z_b2s]
        simp (disch := first | omega | assumption) only [l_0, l_1, l_2, l_3, l_4, l_5, l_6, l_7, l_8, l_11, l_12, l_15, l_16, l_31, l_32, l_66, l_80, l_100, l_127, l_128, l_768, l_2304, l_2310, l_2316, l_2388, l_2394, l_2406, l_2418, l_2430, l_2558, l_2686, l_2814, l_2942, l_3070, l_3390, l_3394, l_3395, l_3396, l_3397, n_leT, n_leF, n_ltT, n_ltF, n_eqT, n_eqF, nI_add, pk_mul, n_sub, z_ldn, z_san, z_bs, z_b2s, z_b3s, z_ocN, z_ocS, z_oxL, z_oxR, z_scL, z_scR, ↓reduceIte, st_170, st_171, st_172, st_173, Nat.zero_add, Nat.add_zero, Nat.zero_lt_succ, true_and, and_true, eq_self, mSp, hN2]
    · refine Or.inl ⟨?_, nI 0, ?_⟩
      · unfold fX6_blockAt
        simp (disch := first | omega | assumption) only [l_0, l_1, l_2, l_3, l_4, l_5, l_6, l_7, l_8, l_11, l_12, l_15, l_16, l_31, l_32, l_66, l_80, l_100, l_127, l_128, l_768, l_2304, l_2310, l_2316, l_2388, l_2394, l_2406, l_2418, l_2430, l_2558, l_2686, l_2814, l_2942, l_3070, l_3390, l_3394, l_3395, l_3396, l_3397, n_leT, n_leF, n_ltT, n_ltF, n_eqT, n_eqF, nI_add, pk_mul, n_sub, z_ldn, z_san, z_bs, z_b2s, z_b3s, z_ocN, z_ocS, z_oxL, z_oxR, z_scL, z_scR, ↓reduceIte, st_170, st_171, st_172, st_173, Nat.zero_add, Nat.add_zero, Nat.zero_lt_succ, true_and, and_true, eq_self, cDs_ok hR.2.1 hd h1, z_gdp (kd1_ds hd), cPl_no h2]
      · unfold fX7_blockAt
        rw [mKn_no hN1 (Or.inr ⟨d, hd, rfl, h1, h2⟩), z_b2s]
        simp (disch := first | omega | assumption) only [l_0, l_1, l_2, l_3, l_4, l_5, l_6, l_7, l_8, l_11, l_12, l_15, l_16, l_31, l_32, l_66, l_80, l_100, l_127, l_128, l_768, l_2304, l_2310, l_2316, l_2388, l_2394, l_2406, l_2418, l_2430, l_2558, l_2686, l_2814, l_2942, l_3070, l_3390, l_3394, l_3395, l_3396, l_3397, n_leT, n_leF, n_ltT, n_ltF, n_eqT, n_eqF, nI_add, pk_mul, n_sub, z_ldn, z_san, z_bs, z_b2s, z_b3s, z_ocN, z_ocS, z_oxL, z_oxR, z_scL, z_scR, ↓reduceIte, st_170, st_171, st_172, st_173, Nat.zero_add, Nat.add_zero, Nat.zero_lt_succ, true_and, and_true, eq_self]
  · refine Or.inl ⟨?_, nI 0, ?_⟩
    · unfold fX6_blockAt
      simp (disch := first | omega | assumption) only [l_0, l_1, l_2, l_3, l_4, l_5, l_6, l_7, l_8, l_11, l_12, l_15, l_16, l_31, l_32, l_66, l_80, l_100, l_127, l_128, l_768, l_2304, l_2310, l_2316, l_2388, l_2394, l_2406, l_2418, l_2430, l_2558, l_2686, l_2814, l_2942, l_3070, l_3390, l_3394, l_3395, l_3396, l_3397, n_leT, n_leF, n_ltT, n_ltF, n_eqT, n_eqF, nI_add, pk_mul, n_sub, z_ldn, z_san, z_bs, z_b2s, z_b3s, z_ocN, z_ocS, z_oxL, z_oxR, z_scL, z_scR, ↓reduceIte, st_170, st_171, st_172, st_173, Nat.zero_add, Nat.add_zero, Nat.zero_lt_succ, true_and, and_true, eq_self, cDs_no hR.2.1 h1]
    · unfold fX7_blockAt
      rw [mKn_no hN1 (Or.inl h1), z_b2s]
      simp (disch := first | omega | assumption) only [l_0, l_1, l_2, l_3, l_4, l_5, l_6, l_7, l_8, l_11, l_12, l_15, l_16, l_31, l_32, l_66, l_80, l_100, l_127, l_128, l_768, l_2304, l_2310, l_2316, l_2388, l_2394, l_2406, l_2418, l_2430, l_2558, l_2686, l_2814, l_2942, l_3070, l_3390, l_3394, l_3395, l_3396, l_3397, n_leT, n_leF, n_ltT, n_ltF, n_eqT, n_eqF, nI_add, pk_mul, n_sub, z_ldn, z_san, z_bs, z_b2s, z_b3s, z_ocN, z_ocS, z_oxL, z_oxR, z_scL, z_scR, ↓reduceIte, st_170, st_171, st_172, st_173, Nat.zero_add, Nat.add_zero, Nat.zero_lt_succ, true_and, and_true, eq_self]
/-- the place behind the last that isn't 0 -/
def lenN (g : Nat → Nat) : Nat → Nat
  | 0 => 0
  | n + 1 => if g n = 0 then lenN g n else n + 1
theorem op_3 {n : Nat} {M : zM} (h : z_P n M) (a1 a2 a3 a4 a5 a6 : Int32) : ∃ M9, fL_c3 a1 a2 a3 a4 a5 a6 M = some (1, M9) ∧ z_P (n + 1) M9 := by
  obtain ⟨S, S0, hN, _, hR, _, hI, _⟩ := id h
  unfold fL_c3 fL_length
  refine roIO h ?_
  have hN1 := N1 hN
  rcases ds_cases a1 (I_ex hI) with ⟨d, hd, rfl, h1⟩ | h1
  · rcases is_cases a2 8 with ⟨f, hf, rfl⟩ | h2
    · have hk := kd1_ds hd
      have hT := hR.1 d (by omega)
      have hpl := cPl_ok (M := M) (f := f) (i := 0) hf (by omega)
      have hx := fun i (hi : i < 16) => I_tab hI (128 * d + (16 * f + i)) (by omega)
      refine Or.inr ⟨nI (lenN (fun i => S (128 * d + (16 * f + i))) 16), ?_, fun M' hM => ?_⟩
      · have e := z_loopC (f := fun s : Int32 × Int32 => fX6_length_L1 M (1 + 9 + 3 * d) (nI (16 * f + 0)) s.1 s.2) (fun i => (nI (lenN (fun i => S (128 * d + (16 * f + i))) i), nI i)) 16 (nI (lenN (fun i => S (128 * d + (16 * f + i))) 16)) (by decide) (fun i hi => by
          have hx1 := hx i hi
          have hq := hT (16 * f + i) (by omega)
          by_cases q : S (128 * d + (16 * f + i)) = 0
          · simp (disch := first | omega | assumption) only [l_0, l_1, l_2, l_3, l_4, l_5, l_6, l_7, l_8, l_11, l_12, l_15, l_16, l_31, l_32, l_66, l_80, l_100, l_127, l_128, l_768, l_2304, l_2310, l_2316, l_2388, l_2394, l_2406, l_2418, l_2430, l_2558, l_2686, l_2814, l_2942, l_3070, l_3390, l_3394, l_3395, l_3396, l_3397, n_leT, n_leF, n_ltT, n_ltF, n_eqT, n_eqF, nI_add, pk_mul, n_sub, z_ldn, z_san, z_bs, z_b2s, z_b3s, z_ocN, z_ocS, z_oxL, z_oxR, z_scL, z_scR, ↓reduceIte, st_170, st_171, st_172, st_173, Nat.zero_add, Nat.add_zero, Nat.zero_lt_succ, true_and, and_true, eq_self, fX6_length_L1, cBo, hq, q, n_m0b, lenN]
          · have q2 : 1 ≤ S (128 * d + (16 * f + i)) := by omega
            simp (disch := first | omega | assumption) only [l_0, l_1, l_2, l_3, l_4, l_5, l_6, l_7, l_8, l_11, l_12, l_15, l_16, l_31, l_32, l_66, l_80, l_100, l_127, l_128, l_768, l_2304, l_2310, l_2316, l_2388, l_2394, l_2406, l_2418, l_2430, l_2558, l_2686, l_2814, l_2942, l_3070, l_3390, l_3394, l_3395, l_3396, l_3397, n_leT, n_leF, n_ltT, n_ltF, n_eqT, n_eqF, nI_add, pk_mul, n_sub, z_ldn, z_san, z_bs, z_b2s, z_b3s, z_ocN, z_ocS, z_oxL, z_oxR, z_scL, z_scR, ↓reduceIte, st_170, st_171, st_172, st_173, Nat.zero_add, Nat.add_zero, Nat.zero_lt_succ, true_and, and_true, eq_self, fX6_length_L1, cBo, hq, n_m1c, lenN, q]) (by simp (disch := first | omega | assumption) only [l_0, l_1, l_2, l_3, l_4, l_5, l_6, l_7, l_8, l_11, l_12, l_15, l_16, l_31, l_32, l_66, l_80, l_100, l_127, l_128, l_768, l_2304, l_2310, l_2316, l_2388, l_2394, l_2406, l_2418, l_2430, l_2558, l_2686, l_2814, l_2942, l_3070, l_3390, l_3394, l_3395, l_3396, l_3397, n_leT, n_leF, n_ltT, n_ltF, n_eqT, n_eqF, nI_add, pk_mul, n_sub, z_ldn, z_san, z_bs, z_b2s, z_b3s, z_ocN, z_ocS, z_oxL, z_oxR, z_scL, z_scR, ↓reduceIte, st_170, st_171, st_172, st_173, Nat.zero_add, Nat.add_zero, Nat.zero_lt_succ, true_and, and_true, eq_self, fX6_length_L1])
        unfold fX6_length
        simp (disch := first | omega | assumption) only [l_0, l_1, l_2, l_3, l_4, l_5, l_6, l_7, l_8, l_11, l_12, l_15, l_16, l_31, l_32, l_66, l_80, l_100, l_127, l_128, l_768, l_2304, l_2310, l_2316, l_2388, l_2394, l_2406, l_2418, l_2430, l_2558, l_2686, l_2814, l_2942, l_3070, l_3390, l_3394, l_3395, l_3396, l_3397, n_leT, n_leF, n_ltT, n_ltF, n_eqT, n_eqF, nI_add, pk_mul, n_sub, z_ldn, z_san, z_bs, z_b2s, z_b3s, z_ocN, z_ocS, z_oxL, z_oxR, z_scL, z_scR, ↓reduceIte, st_170, st_171, st_172, st_173, Nat.zero_add, Nat.add_zero, Nat.zero_lt_succ, true_and, and_true, eq_self, cDs_ok hR.2.1 hd h1, z_gdp hk, hpl]
        rw [show z_loop (fun s : Int32 × Int32 => fX6_length_L1 M (1 + 9 + 3 * d) (nI (16 * f)) s.1 s.2) z_FU (nI 0, nI 0) = _ from e]
        simp (disch := first | omega | assumption) only [l_0, l_1, l_2, l_3, l_4, l_5, l_6, l_7, l_8, l_11, l_12, l_15, l_16, l_31, l_32, l_66, l_80, l_100, l_127, l_128, l_768, l_2304, l_2310, l_2316, l_2388, l_2394, l_2406, l_2418, l_2430, l_2558, l_2686, l_2814, l_2942, l_3070, l_3390, l_3394, l_3395, l_3396, l_3397, n_leT, n_leF, n_ltT, n_ltF, n_eqT, n_eqF, nI_add, pk_mul, n_sub, z_ldn, z_san, z_bs, z_b2s, z_b3s, z_ocN, z_ocS, z_oxL, z_oxR, z_scL, z_scR, ↓reduceIte, st_170, st_171, st_172, st_173, Nat.zero_add, Nat.add_zero, Nat.zero_lt_succ, true_and, and_true, eq_self]
      · have hN2 := N1' hN hM
        have e := z_loopC (f := fun s : Int32 × Int32 => fX7_length_L1 169 (nI d) (nI f) (nI 1) (z_st M' 169 4 (nI 0)) s.1 s.2) (fun i => (nI (lenN (fun i => S (128 * d + (16 * f + i))) i), nI i)) 16 (nI (lenN (fun i => S (128 * d + (16 * f + i))) 16)) (by decide) (fun i hi => by
          have hx1 := hx i hi
          by_cases q : S (128 * d + (16 * f + i)) = 0
          · simp (disch := first | omega | assumption) only [l_0, l_1, l_2, l_3, l_4, l_5, l_6, l_7, l_8, l_11, l_12, l_15, l_16, l_31, l_32, l_66, l_80, l_100, l_127, l_128, l_768, l_2304, l_2310, l_2316, l_2388, l_2394, l_2406, l_2418, l_2430, l_2558, l_2686, l_2814, l_2942, l_3070, l_3390, l_3394, l_3395, l_3396, l_3397, n_leT, n_leF, n_ltT, n_ltF, n_eqT, n_eqF, nI_add, pk_mul, n_sub, z_ldn, z_san, z_bs, z_b2s, z_b3s, z_ocN, z_ocS, z_oxL, z_oxR, z_scL, z_scR, ↓reduceIte, st_170, st_171, st_172, st_173, Nat.zero_add, Nat.add_zero, Nat.zero_lt_succ, true_and, and_true, eq_self, fX7_length_L1, mSp, hN2, q, lenN]
          · simp (disch := first | omega | assumption) only [l_0, l_1, l_2, l_3, l_4, l_5, l_6, l_7, l_8, l_11, l_12, l_15, l_16, l_31, l_32, l_66, l_80, l_100, l_127, l_128, l_768, l_2304, l_2310, l_2316, l_2388, l_2394, l_2406, l_2418, l_2430, l_2558, l_2686, l_2814, l_2942, l_3070, l_3390, l_3394, l_3395, l_3396, l_3397, n_leT, n_leF, n_ltT, n_ltF, n_eqT, n_eqF, nI_add, pk_mul, n_sub, z_ldn, z_san, z_bs, z_b2s, z_b3s, z_ocN, z_ocS, z_oxL, z_oxR, z_scL, z_scR, ↓reduceIte, st_170, st_171, st_172, st_173, Nat.zero_add, Nat.add_zero, Nat.zero_lt_succ, true_and, and_true, eq_self, fX7_length_L1, mSp, hN2, lenN, q]) (by simp (disch := first | omega | assumption) only [l_0, l_1, l_2, l_3, l_4, l_5, l_6, l_7, l_8, l_11, l_12, l_15, l_16, l_31, l_32, l_66, l_80, l_100, l_127, l_128, l_768, l_2304, l_2310, l_2316, l_2388, l_2394, l_2406, l_2418, l_2430, l_2558, l_2686, l_2814, l_2942, l_3070, l_3390, l_3394, l_3395, l_3396, l_3397, n_leT, n_leF, n_ltT, n_ltF, n_eqT, n_eqF, nI_add, pk_mul, n_sub, z_ldn, z_san, z_bs, z_b2s, z_b3s, z_ocN, z_ocS, z_oxL, z_oxR, z_scL, z_scR, ↓reduceIte, st_170, st_171, st_172, st_173, Nat.zero_add, Nat.add_zero, Nat.zero_lt_succ, true_and, and_true, eq_self, fX7_length_L1])
        unfold fX7_length
        simp (disch := first | omega | assumption) only [l_0, l_1, l_2, l_3, l_4, l_5, l_6, l_7, l_8, l_11, l_12, l_15, l_16, l_31, l_32, l_66, l_80, l_100, l_127, l_128, l_768, l_2304, l_2310, l_2316, l_2388, l_2394, l_2406, l_2418, l_2430, l_2558, l_2686, l_2814, l_2942, l_3070, l_3390, l_3394, l_3395, l_3396, l_3397, n_leT, n_leF, n_ltT, n_ltF, n_eqT, n_eqF, nI_add, pk_mul, n_sub, z_ldn, z_san, z_bs, z_b2s, z_b3s, z_ocN, z_ocS, z_oxL, z_oxR, z_scL, z_scR, ↓reduceIte, st_170, st_171, st_172, st_173, Nat.zero_add, Nat.add_zero, Nat.zero_lt_succ, true_and, and_true, eq_self, mSet_ok hN2 hd h1, mFile_ok hf, mFits0]
        rw [show z_loop (fun s : Int32 × Int32 => fX7_length_L1 169 (nI d) (nI f) (nI 1) (z_st M' 169 4 (nI 0)) s.1 s.2) z_FU (nI 0, nI 0) = _ from e]
        simp (disch := first | omega | assumption) only [l_0, l_1, l_2, l_3, l_4, l_5, l_6, l_7, l_8, l_11, l_12, l_15, l_16, l_31, l_32, l_66, l_80, l_100, l_127, l_128, l_768, l_2304, l_2310, l_2316, l_2388, l_2394, l_2406, l_2418, l_2430, l_2558, l_2686, l_2814, l_2942, l_3070, l_3390, l_3394, l_3395, l_3396, l_3397, n_leT, n_leF, n_ltT, n_ltF, n_eqT, n_eqF, nI_add, pk_mul, n_sub, z_ldn, z_san, z_bs, z_b2s, z_b3s, z_ocN, z_ocS, z_oxL, z_oxR, z_scL, z_scR, ↓reduceIte, st_170, st_171, st_172, st_173, Nat.zero_add, Nat.add_zero, Nat.zero_lt_succ, true_and, and_true, eq_self]
    · refine Or.inl ⟨?_, nI 0, ?_⟩
      · unfold fX6_length
        simp (disch := first | omega | assumption) only [l_0, l_1, l_2, l_3, l_4, l_5, l_6, l_7, l_8, l_11, l_12, l_15, l_16, l_31, l_32, l_66, l_80, l_100, l_127, l_128, l_768, l_2304, l_2310, l_2316, l_2388, l_2394, l_2406, l_2418, l_2430, l_2558, l_2686, l_2814, l_2942, l_3070, l_3390, l_3394, l_3395, l_3396, l_3397, n_leT, n_leF, n_ltT, n_ltF, n_eqT, n_eqF, nI_add, pk_mul, n_sub, z_ldn, z_san, z_bs, z_b2s, z_b3s, z_ocN, z_ocS, z_oxL, z_oxR, z_scL, z_scR, ↓reduceIte, st_170, st_171, st_172, st_173, Nat.zero_add, Nat.add_zero, Nat.zero_lt_succ, true_and, and_true, eq_self, cDs_ok hR.2.1 hd h1, z_gdp (kd1_ds hd), cPl_no (fun q => h2 q.1)]
      · unfold fX7_length
        have e := z_loopC (f := fun s : Int32 × Int32 => fX7_length_L1 169 (nI d) a2 (nI 0) (z_st M 169 4 (nI 1)) s.1 s.2) (fun i => (nI 0, nI 0)) 0 (nI 0) (by decide) (fun i hi => absurd hi (Nat.not_lt_zero _)) (by simp (disch := first | omega | assumption) only [l_0, l_1, l_2, l_3, l_4, l_5, l_6, l_7, l_8, l_11, l_12, l_15, l_16, l_31, l_32, l_66, l_80, l_100, l_127, l_128, l_768, l_2304, l_2310, l_2316, l_2388, l_2394, l_2406, l_2418, l_2430, l_2558, l_2686, l_2814, l_2942, l_3070, l_3390, l_3394, l_3395, l_3396, l_3397, n_leT, n_leF, n_ltT, n_ltF, n_eqT, n_eqF, nI_add, pk_mul, n_sub, z_ldn, z_san, z_bs, z_b2s, z_b3s, z_ocN, z_ocS, z_oxL, z_oxR, z_scL, z_scR, ↓reduceIte, st_170, st_171, st_172, st_173, Nat.zero_add, Nat.add_zero, Nat.zero_lt_succ, true_and, and_true, eq_self, fX7_length_L1])
        simp (disch := first | omega | assumption) only [l_0, l_1, l_2, l_3, l_4, l_5, l_6, l_7, l_8, l_11, l_12, l_15, l_16, l_31, l_32, l_66, l_80, l_100, l_127, l_128, l_768, l_2304, l_2310, l_2316, l_2388, l_2394, l_2406, l_2418, l_2430, l_2558, l_2686, l_2814, l_2942, l_3070, l_3390, l_3394, l_3395, l_3396, l_3397, n_leT, n_leF, n_ltT, n_ltF, n_eqT, n_eqF, nI_add, pk_mul, n_sub, z_ldn, z_san, z_bs, z_b2s, z_b3s, z_ocN, z_ocS, z_oxL, z_oxR, z_scL, z_scR, ↓reduceIte, st_170, st_171, st_172, st_173, Nat.zero_add, Nat.add_zero, Nat.zero_lt_succ, true_and, and_true, eq_self, mSet_ok hN1 hd h1, mFile_no h2, mFits1]
        rw [show z_loop (fun s : Int32 × Int32 => fX7_length_L1 169 (nI d) a2 (nI 0) (z_st M 169 4 (nI 1)) s.1 s.2) z_FU (nI 0, nI 0) = _ from e]
        simp (disch := first | omega | assumption) only [l_0, l_1, l_2, l_3, l_4, l_5, l_6, l_7, l_8, l_11, l_12, l_15, l_16, l_31, l_32, l_66, l_80, l_100, l_127, l_128, l_768, l_2304, l_2310, l_2316, l_2388, l_2394, l_2406, l_2418, l_2430, l_2558, l_2686, l_2814, l_2942, l_3070, l_3390, l_3394, l_3395, l_3396, l_3397, n_leT, n_leF, n_ltT, n_ltF, n_eqT, n_eqF, nI_add, pk_mul, n_sub, z_ldn, z_san, z_bs, z_b2s, z_b3s, z_ocN, z_ocS, z_oxL, z_oxR, z_scL, z_scR, ↓reduceIte, st_170, st_171, st_172, st_173, Nat.zero_add, Nat.add_zero, Nat.zero_lt_succ, true_and, and_true, eq_self]
  · refine Or.inl ⟨?_, nI 0, ?_⟩
    · unfold fX6_length
      simp (disch := first | omega | assumption) only [l_0, l_1, l_2, l_3, l_4, l_5, l_6, l_7, l_8, l_11, l_12, l_15, l_16, l_31, l_32, l_66, l_80, l_100, l_127, l_128, l_768, l_2304, l_2310, l_2316, l_2388, l_2394, l_2406, l_2418, l_2430, l_2558, l_2686, l_2814, l_2942, l_3070, l_3390, l_3394, l_3395, l_3396, l_3397, n_leT, n_leF, n_ltT, n_ltF, n_eqT, n_eqF, nI_add, pk_mul, n_sub, z_ldn, z_san, z_bs, z_b2s, z_b3s, z_ocN, z_ocS, z_oxL, z_oxR, z_scL, z_scR, ↓reduceIte, st_170, st_171, st_172, st_173, Nat.zero_add, Nat.add_zero, Nat.zero_lt_succ, true_and, and_true, eq_self, cDs_no hR.2.1 h1]
    · unfold fX7_length
      have e := z_loopC (f := fun s : Int32 × Int32 => fX7_length_L1 169 a1 a2 (nI 0) (z_st M 169 4 (nI 1)) s.1 s.2) (fun i => (nI 0, nI 0)) 0 (nI 0) (by decide) (fun i hi => absurd hi (Nat.not_lt_zero _)) (by simp (disch := first | omega | assumption) only [l_0, l_1, l_2, l_3, l_4, l_5, l_6, l_7, l_8, l_11, l_12, l_15, l_16, l_31, l_32, l_66, l_80, l_100, l_127, l_128, l_768, l_2304, l_2310, l_2316, l_2388, l_2394, l_2406, l_2418, l_2430, l_2558, l_2686, l_2814, l_2942, l_3070, l_3390, l_3394, l_3395, l_3396, l_3397, n_leT, n_leF, n_ltT, n_ltF, n_eqT, n_eqF, nI_add, pk_mul, n_sub, z_ldn, z_san, z_bs, z_b2s, z_b3s, z_ocN, z_ocS, z_oxL, z_oxR, z_scL, z_scR, ↓reduceIte, st_170, st_171, st_172, st_173, Nat.zero_add, Nat.add_zero, Nat.zero_lt_succ, true_and, and_true, eq_self, fX7_length_L1])
      simp (disch := first | omega | assumption) only [l_0, l_1, l_2, l_3, l_4, l_5, l_6, l_7, l_8, l_11, l_12, l_15, l_16, l_31, l_32, l_66, l_80, l_100, l_127, l_128, l_768, l_2304, l_2310, l_2316, l_2388, l_2394, l_2406, l_2418, l_2430, l_2558, l_2686, l_2814, l_2942, l_3070, l_3390, l_3394, l_3395, l_3396, l_3397, n_leT, n_leF, n_ltT, n_ltF, n_eqT, n_eqF, nI_add, pk_mul, n_sub, z_ldn, z_san, z_bs, z_b2s, z_b3s, z_ocN, z_ocS, z_oxL, z_oxR, z_scL, z_scR, ↓reduceIte, st_170, st_171, st_172, st_173, Nat.zero_add, Nat.add_zero, Nat.zero_lt_succ, true_and, and_true, eq_self, mSet_no hN1 h1, mFits1]
      rw [show z_loop (fun s : Int32 × Int32 => fX7_length_L1 169 a1 a2 (nI 0) (z_st M 169 4 (nI 1)) s.1 s.2) z_FU (nI 0, nI 0) = _ from e]
      simp (disch := first | omega | assumption) only [l_0, l_1, l_2, l_3, l_4, l_5, l_6, l_7, l_8, l_11, l_12, l_15, l_16, l_31, l_32, l_66, l_80, l_100, l_127, l_128, l_768, l_2304, l_2310, l_2316, l_2388, l_2394, l_2406, l_2418, l_2430, l_2558, l_2686, l_2814, l_2942, l_3070, l_3390, l_3394, l_3395, l_3396, l_3397, n_leT, n_leF, n_ltT, n_ltF, n_eqT, n_eqF, nI_add, pk_mul, n_sub, z_ldn, z_san, z_bs, z_b2s, z_b3s, z_ocN, z_ocS, z_oxL, z_oxR, z_scL, z_scR, ↓reduceIte, st_170, st_171, st_172, st_173, Nat.zero_add, Nat.add_zero, Nat.zero_lt_succ, true_and, and_true, eq_self]
theorem op_8 {n : Nat} {M : zM} (h : z_P n M) (a1 a2 a3 a4 a5 a6 : Int32) : ∃ M9, fL_c8 a1 a2 a3 a4 a5 a6 M = some (1, M9) ∧ z_P (n + 1) M9 := by
  obtain ⟨S, S0, hN, _, hR, _, hI, _⟩ := id h
  exact roZ h (Mo := fX7_transaction 169) (v := nI (S 3395)) (by unfold fX6_transaction; simp (disch := first | omega | assumption) only [l_0, l_1, l_2, l_3, l_4, l_5, l_6, l_7, l_8, l_11, l_12, l_15, l_16, l_31, l_32, l_66, l_80, l_100, l_127, l_128, l_768, l_2304, l_2310, l_2316, l_2388, l_2394, l_2406, l_2418, l_2430, l_2558, l_2686, l_2814, l_2942, l_3070, l_3390, l_3394, l_3395, l_3396, l_3397, n_leT, n_leF, n_ltT, n_ltF, n_eqT, n_eqF, nI_add, pk_mul, n_sub, z_ldn, z_san, z_bs, z_b2s, z_b3s, z_ocN, z_ocS, z_oxL, z_oxR, z_scL, z_scR, ↓reduceIte, st_170, st_171, st_172, st_173, Nat.zero_add, Nat.add_zero, Nat.zero_lt_succ, true_and, and_true, eq_self, hR.2.2.2.2.2.1]) (by unfold fX7_transaction; simp (disch := first | omega | assumption) only [l_0, l_1, l_2, l_3, l_4, l_5, l_6, l_7, l_8, l_11, l_12, l_15, l_16, l_31, l_32, l_66, l_80, l_100, l_127, l_128, l_768, l_2304, l_2310, l_2316, l_2388, l_2394, l_2406, l_2418, l_2430, l_2558, l_2686, l_2814, l_2942, l_3070, l_3390, l_3394, l_3395, l_3396, l_3397, n_leT, n_leF, n_ltT, n_ltF, n_eqT, n_eqF, nI_add, pk_mul, n_sub, z_ldn, z_san, z_bs, z_b2s, z_b3s, z_ocN, z_ocS, z_oxL, z_oxR, z_scL, z_scR, ↓reduceIte, st_170, st_171, st_172, st_173, Nat.zero_add, Nat.add_zero, Nat.zero_lt_succ, true_and, and_true, eq_self, N3 hN])
theorem op_37 {n : Nat} {M : zM} (h : z_P n M) (a1 a2 a3 a4 a5 a6 : Int32) : ∃ M9, fL_c37 a1 a2 a3 a4 a5 a6 M = some (1, M9) ∧ z_P (n + 1) M9 := by
  obtain ⟨S, S0, hN, _, hR, _, hI, _⟩ := id h
  exact roZ h (Mo := fX7_condensed 169) (v := nI (S 3396)) (by unfold fX6_condensed; simp (disch := first | omega | assumption) only [l_0, l_1, l_2, l_3, l_4, l_5, l_6, l_7, l_8, l_11, l_12, l_15, l_16, l_31, l_32, l_66, l_80, l_100, l_127, l_128, l_768, l_2304, l_2310, l_2316, l_2388, l_2394, l_2406, l_2418, l_2430, l_2558, l_2686, l_2814, l_2942, l_3070, l_3390, l_3394, l_3395, l_3396, l_3397, n_leT, n_leF, n_ltT, n_ltF, n_eqT, n_eqF, nI_add, pk_mul, n_sub, z_ldn, z_san, z_bs, z_b2s, z_b3s, z_ocN, z_ocS, z_oxL, z_oxR, z_scL, z_scR, ↓reduceIte, st_170, st_171, st_172, st_173, Nat.zero_add, Nat.add_zero, Nat.zero_lt_succ, true_and, and_true, eq_self, hR.2.2.2.2.2.2.2]) (by unfold fX7_condensed; simp (disch := first | omega | assumption) only [l_0, l_1, l_2, l_3, l_4, l_5, l_6, l_7, l_8, l_11, l_12, l_15, l_16, l_31, l_32, l_66, l_80, l_100, l_127, l_128, l_768, l_2304, l_2310, l_2316, l_2388, l_2394, l_2406, l_2418, l_2430, l_2558, l_2686, l_2814, l_2942, l_3070, l_3390, l_3394, l_3395, l_3396, l_3397, n_leT, n_leF, n_ltT, n_ltF, n_eqT, n_eqF, nI_add, pk_mul, n_sub, z_ldn, z_san, z_bs, z_b2s, z_b3s, z_ocN, z_ocS, z_oxL, z_oxR, z_scL, z_scR, ↓reduceIte, st_170, st_171, st_172, st_173, Nat.zero_add, Nat.add_zero, Nat.zero_lt_succ, true_and, and_true, eq_self, N3 hN])
theorem mSh_ok {M : zM} {S : Nat → Nat} (hN : ∀ k, k < 2430 → M (169 + 1) k = nI (S k)) (hi : ∀ s t, s < 12 → t < 12 → S (2394 + s) ≠ 0 → S (2394 + s) = S (2394 + t) → s = t) (hb : ∀ s, s < 12 → S (2394 + s) < 2 ^ 30) {s : Nat} (hs : s < 12) (h : S (2394 + s) ≠ 0) {f i : Nat} (hf : f < 8) (hi2 : i < 16) : fX7_isShot 169 (nI (S (2394 + s) - 1)) (nI f) (nI i) M = some (nI 1, z_st M 169 4 (nI 0)) := by
  unfold fX7_isShot
  rw [mSlot_ok hN hi hb hs h]
  simp (disch := first | omega | assumption) only [l_0, l_1, l_2, l_3, l_4, l_5, l_6, l_7, l_8, l_11, l_12, l_15, l_16, l_31, l_32, l_66, l_80, l_100, l_127, l_128, l_768, l_2304, l_2310, l_2316, l_2388, l_2394, l_2406, l_2418, l_2430, l_2558, l_2686, l_2814, l_2942, l_3070, l_3390, l_3394, l_3395, l_3396, l_3397, n_leT, n_leF, n_ltT, n_ltF, n_eqT, n_eqF, nI_add, pk_mul, n_sub, z_ldn, z_san, z_bs, z_b2s, z_b3s, z_ocN, z_ocS, z_oxL, z_oxR, z_scL, z_scR, ↓reduceIte, st_170, st_171, st_172, st_173, Nat.zero_add, Nat.add_zero, Nat.zero_lt_succ, true_and, and_true, eq_self, mSpot_ok, mFits0, z_bz1]
theorem mSh_no1 {M : zM} {S : Nat → Nat} (hN : ∀ k, k < 2430 → M (169 + 1) k = nI (S k)) (hb : ∀ s, s < 12 → S (2394 + s) < 2 ^ 30) {a c e : Int32} (h : ∀ s, s < 12 → S (2394 + s) ≠ 0 → a ≠ nI (S (2394 + s) - 1)) : fX7_isShot 169 a c e M = some (nI 0, z_st M 169 4 (nI 1)) := by
  unfold fX7_isShot
  rw [mSlot_no hN hb h]
  simp (disch := first | omega | assumption) only [l_0, l_1, l_2, l_3, l_4, l_5, l_6, l_7, l_8, l_11, l_12, l_15, l_16, l_31, l_32, l_66, l_80, l_100, l_127, l_128, l_768, l_2304, l_2310, l_2316, l_2388, l_2394, l_2406, l_2418, l_2430, l_2558, l_2686, l_2814, l_2942, l_3070, l_3390, l_3394, l_3395, l_3396, l_3397, n_leT, n_leF, n_ltT, n_ltF, n_eqT, n_eqF, nI_add, pk_mul, n_sub, z_ldn, z_san, z_bs, z_b2s, z_b3s, z_ocN, z_ocS, z_oxL, z_oxR, z_scL, z_scR, ↓reduceIte, st_170, st_171, st_172, st_173, Nat.zero_add, Nat.add_zero, Nat.zero_lt_succ, true_and, and_true, eq_self, mFits1, z_bz0, n_m1lt]
theorem mSh_no2 {M : zM} {S : Nat → Nat} (hN : ∀ k, k < 2430 → M (169 + 1) k = nI (S k)) (hi : ∀ s t, s < 12 → t < 12 → S (2394 + s) ≠ 0 → S (2394 + s) = S (2394 + t) → s = t) (hb : ∀ s, s < 12 → S (2394 + s) < 2 ^ 30) {s : Nat} (hs : s < 12) (h : S (2394 + s) ≠ 0) {c e : Int32} (h2 : ¬ (z_is c 8 ∧ z_is e 16)) : fX7_isShot 169 (nI (S (2394 + s) - 1)) c e M = some (nI 0, z_st M 169 4 (nI 1)) := by
  unfold fX7_isShot
  rw [mSlot_ok hN hi hb hs h]
  simp (disch := first | omega | assumption) only [l_0, l_1, l_2, l_3, l_4, l_5, l_6, l_7, l_8, l_11, l_12, l_15, l_16, l_31, l_32, l_66, l_80, l_100, l_127, l_128, l_768, l_2304, l_2310, l_2316, l_2388, l_2394, l_2406, l_2418, l_2430, l_2558, l_2686, l_2814, l_2942, l_3070, l_3390, l_3394, l_3395, l_3396, l_3397, n_leT, n_leF, n_ltT, n_ltF, n_eqT, n_eqF, nI_add, pk_mul, n_sub, z_ldn, z_san, z_bs, z_b2s, z_b3s, z_ocN, z_ocS, z_oxL, z_oxR, z_scL, z_scR, ↓reduceIte, st_170, st_171, st_172, st_173, Nat.zero_add, Nat.add_zero, Nat.zero_lt_succ, true_and, and_true, eq_self, mSpot_no h2, mFits1, z_bz0]
theorem op_10 {n : Nat} (hn : n < 512) {M : zM} (h : z_P n M) (a1 a2 a3 a4 a5 a6 : Int32) : ∃ M9, fL_c10 a1 a2 a3 a4 a5 a6 M = some (1, M9) ∧ z_P (n + 1) M9 := by
  obtain ⟨S, S0, hN, _, hR, _, hI, _⟩ := id h
  unfold fL_c10 fL_readSnapshot
  refine roIO h ?_
  have hN1 := N1 hN
  have hb := hb30 hI hn
  rcases sn_cases (S := S) a1 with ⟨s, hs, h1, rfl⟩ | h1
  · rcases pl_cases a2 a3 with ⟨f, i, hf, hi, rfl, rfl⟩ | h2
    · have hp : 16 * f + i < 128 := by omega
      have hk := kd1_sn hs
      have e1 : 1 + 27 + 3 * s = 1 + 9 + 3 * (6 + s) := by omega
      have e2 : 128 * (6 + s) + (16 * f + i) = 768 + 128 * s + (16 * f + i) := by omega
      have hx := I_tab hI (768 + 128 * s + (16 * f + i)) (by omega)
      have hT := hR.1 (6 + s) (by omega) (16 * f + i) hp
      rw [← e1, e2] at hT
      have e3 : 768 + 128 * s + 16 * f + i = 768 + 128 * s + (16 * f + i) := by omega
      right
      rcases Nat.eq_zero_or_pos (S (768 + 128 * s + (16 * f + i))) with q | q
      · refine ⟨nI 0, ?_, fun M' hM => ?_⟩
        · unfold fX6_readSnapshot
          simp (disch := first | omega | assumption) only [l_0, l_1, l_2, l_3, l_4, l_5, l_6, l_7, l_8, l_11, l_12, l_15, l_16, l_31, l_32, l_66, l_80, l_100, l_127, l_128, l_768, l_2304, l_2310, l_2316, l_2388, l_2394, l_2406, l_2418, l_2430, l_2558, l_2686, l_2814, l_2942, l_3070, l_3390, l_3394, l_3395, l_3396, l_3397, n_leT, n_leF, n_ltT, n_ltF, n_eqT, n_eqF, nI_add, pk_mul, n_sub, z_ldn, z_san, z_bs, z_b2s, z_b3s, z_ocN, z_ocS, z_oxL, z_oxR, z_scL, z_scR, ↓reduceIte, st_170, st_171, st_172, st_173, Nat.zero_add, Nat.add_zero, Nat.zero_lt_succ, true_and, and_true, eq_self, cSn_ok hR.2.2.1 (I_num hI) hb hs h1, z_gdp hk, cPl_ok hf hi, cBo hp, hT, q, cVal0]
        · have hN2 := N1' hN hM
          unfold fX7_readSnapshot fX7_inShot
          rw [mSh_ok hN2 (I_num hI) hb hs h1 hf hi, z_b2s, mSlot_ok (M := z_st M' 169 4 (nI 0)) hN2 (I_num hI) hb hs h1]
          simp (disch := first | omega | assumption) only [l_0, l_1, l_2, l_3, l_4, l_5, l_6, l_7, l_8, l_11, l_12, l_15, l_16, l_31, l_32, l_66, l_80, l_100, l_127, l_128, l_768, l_2304, l_2310, l_2316, l_2388, l_2394, l_2406, l_2418, l_2430, l_2558, l_2686, l_2814, l_2942, l_3070, l_3390, l_3394, l_3395, l_3396, l_3397, n_leT, n_leF, n_ltT, n_ltF, n_eqT, n_eqF, nI_add, pk_mul, n_sub, z_ldn, z_san, z_bs, z_b2s, z_b3s, z_ocN, z_ocS, z_oxL, z_oxR, z_scL, z_scR, ↓reduceIte, st_170, st_171, st_172, st_173, Nat.zero_add, Nat.add_zero, Nat.zero_lt_succ, true_and, and_true, eq_self, e3]
          rw [mVal0 (by omega) (by rw [st_170, hN2 _ (by omega), q]), z_bs]
      · refine ⟨M (1 + 3 + 2) (S (768 + 128 * s + (16 * f + i)) - 1), ?_, fun M' hM => ?_⟩
        · unfold fX6_readSnapshot
          simp (disch := first | omega | assumption) only [l_0, l_1, l_2, l_3, l_4, l_5, l_6, l_7, l_8, l_11, l_12, l_15, l_16, l_31, l_32, l_66, l_80, l_100, l_127, l_128, l_768, l_2304, l_2310, l_2316, l_2388, l_2394, l_2406, l_2418, l_2430, l_2558, l_2686, l_2814, l_2942, l_3070, l_3390, l_3394, l_3395, l_3396, l_3397, n_leT, n_leF, n_ltT, n_ltF, n_eqT, n_eqF, nI_add, pk_mul, n_sub, z_ldn, z_san, z_bs, z_b2s, z_b3s, z_ocN, z_ocS, z_oxL, z_oxR, z_scL, z_scR, ↓reduceIte, st_170, st_171, st_172, st_173, Nat.zero_add, Nat.add_zero, Nat.zero_lt_succ, true_and, and_true, eq_self, cSn_ok hR.2.2.1 (I_num hI) hb hs h1, z_gdp hk, cPl_ok hf hi, cBo hp, hT, cVal]
        · have hN2 := N1' hN hM
          unfold fX7_readSnapshot fX7_inShot
          rw [mSh_ok hN2 (I_num hI) hb hs h1 hf hi, z_b2s, mSlot_ok (M := z_st M' 169 4 (nI 0)) hN2 (I_num hI) hb hs h1]
          simp (disch := first | omega | assumption) only [l_0, l_1, l_2, l_3, l_4, l_5, l_6, l_7, l_8, l_11, l_12, l_15, l_16, l_31, l_32, l_66, l_80, l_100, l_127, l_128, l_768, l_2304, l_2310, l_2316, l_2388, l_2394, l_2406, l_2418, l_2430, l_2558, l_2686, l_2814, l_2942, l_3070, l_3390, l_3394, l_3395, l_3396, l_3397, n_leT, n_leF, n_ltT, n_ltF, n_eqT, n_eqF, nI_add, pk_mul, n_sub, z_ldn, z_san, z_bs, z_b2s, z_b3s, z_ocN, z_ocS, z_oxL, z_oxR, z_scL, z_scR, ↓reduceIte, st_170, st_171, st_172, st_173, Nat.zero_add, Nat.add_zero, Nat.zero_lt_succ, true_and, and_true, eq_self, e3]
          rw [mVal (by omega) (by rw [st_170, hN2 _ (by omega)]) q hx, z_bs, st_170, show M' (169 + 1) = M 170 from hM, (hR.2.2.2.1 _ (by omega)).2.1]
    · refine Or.inl ⟨?_, nI 0, ?_⟩
      · unfold fX6_readSnapshot
        simp (disch := first | omega | assumption) only [l_0, l_1, l_2, l_3, l_4, l_5, l_6, l_7, l_8, l_11, l_12, l_15, l_16, l_31, l_32, l_66, l_80, l_100, l_127, l_128, l_768, l_2304, l_2310, l_2316, l_2388, l_2394, l_2406, l_2418, l_2430, l_2558, l_2686, l_2814, l_2942, l_3070, l_3390, l_3394, l_3395, l_3396, l_3397, n_leT, n_leF, n_ltT, n_ltF, n_eqT, n_eqF, nI_add, pk_mul, n_sub, z_ldn, z_san, z_bs, z_b2s, z_b3s, z_ocN, z_ocS, z_oxL, z_oxR, z_scL, z_scR, ↓reduceIte, st_170, st_171, st_172, st_173, Nat.zero_add, Nat.add_zero, Nat.zero_lt_succ, true_and, and_true, eq_self, cSn_ok hR.2.2.1 (I_num hI) hb hs h1, z_gdp (kd1_sn hs), cPl_no h2]
      · unfold fX7_readSnapshot
        rw [mSh_no2 hN1 (I_num hI) hb hs h1 h2, z_b2s]
        simp (disch := first | omega | assumption) only [l_0, l_1, l_2, l_3, l_4, l_5, l_6, l_7, l_8, l_11, l_12, l_15, l_16, l_31, l_32, l_66, l_80, l_100, l_127, l_128, l_768, l_2304, l_2310, l_2316, l_2388, l_2394, l_2406, l_2418, l_2430, l_2558, l_2686, l_2814, l_2942, l_3070, l_3390, l_3394, l_3395, l_3396, l_3397, n_leT, n_leF, n_ltT, n_ltF, n_eqT, n_eqF, nI_add, pk_mul, n_sub, z_ldn, z_san, z_bs, z_b2s, z_b3s, z_ocN, z_ocS, z_oxL, z_oxR, z_scL, z_scR, ↓reduceIte, st_170, st_171, st_172, st_173, Nat.zero_add, Nat.add_zero, Nat.zero_lt_succ, true_and, and_true, eq_self]
  · refine Or.inl ⟨?_, nI 0, ?_⟩
    · unfold fX6_readSnapshot
      simp (disch := first | omega | assumption) only [l_0, l_1, l_2, l_3, l_4, l_5, l_6, l_7, l_8, l_11, l_12, l_15, l_16, l_31, l_32, l_66, l_80, l_100, l_127, l_128, l_768, l_2304, l_2310, l_2316, l_2388, l_2394, l_2406, l_2418, l_2430, l_2558, l_2686, l_2814, l_2942, l_3070, l_3390, l_3394, l_3395, l_3396, l_3397, n_leT, n_leF, n_ltT, n_ltF, n_eqT, n_eqF, nI_add, pk_mul, n_sub, z_ldn, z_san, z_bs, z_b2s, z_b3s, z_ocN, z_ocS, z_oxL, z_oxR, z_scL, z_scR, ↓reduceIte, st_170, st_171, st_172, st_173, Nat.zero_add, Nat.add_zero, Nat.zero_lt_succ, true_and, and_true, eq_self, cSn_no hR.2.2.1 h1]
    · unfold fX7_readSnapshot
      rw [mSh_no1 hN1 hb h1, z_b2s]
      simp (disch := first | omega | assumption) only [l_0, l_1, l_2, l_3, l_4, l_5, l_6, l_7, l_8, l_11, l_12, l_15, l_16, l_31, l_32, l_66, l_80, l_100, l_127, l_128, l_768, l_2304, l_2310, l_2316, l_2388, l_2394, l_2406, l_2418, l_2430, l_2558, l_2686, l_2814, l_2942, l_3070, l_3390, l_3394, l_3395, l_3396, l_3397, n_leT, n_leF, n_ltT, n_ltF, n_eqT, n_eqF, nI_add, pk_mul, n_sub, z_ldn, z_san, z_bs, z_b2s, z_b3s, z_ocN, z_ocS, z_oxL, z_oxR, z_scL, z_scR, ↓reduceIte, st_170, st_171, st_172, st_173, Nat.zero_add, Nat.add_zero, Nat.zero_lt_succ, true_and, and_true, eq_self]
theorem op_11 {n : Nat} (hn : n < 512) {M : zM} (h : z_P n M) (a1 a2 a3 a4 a5 a6 : Int32) : ∃ M9, fL_c11 a1 a2 a3 a4 a5 a6 M = some (1, M9) ∧ z_P (n + 1) M9 := by
  obtain ⟨S, S0, hN, _, hR, _, hI, _⟩ := id h
  unfold fL_c11 fL_blockInSnapshot
  refine roIO h ?_
  have hN1 := N1 hN
  have hb := hb30 hI hn
  rcases sn_cases (S := S) a1 with ⟨s, hs, h1, rfl⟩ | h1
  · rcases pl_cases a2 a3 with ⟨f, i, hf, hi, rfl, rfl⟩ | h2
    · have hp : 16 * f + i < 128 := by omega
      have hk := kd1_sn hs
      have e1 : 1 + 27 + 3 * s = 1 + 9 + 3 * (6 + s) := by omega
      have e2 : 128 * (6 + s) + (16 * f + i) = 768 + 128 * s + (16 * f + i) := by omega
      have hT := hR.1 (6 + s) (by omega) (16 * f + i) hp
      rw [← e1, e2] at hT
      have e3 : 768 + 128 * s + 16 * f + i = 768 + 128 * s + (16 * f + i) := by omega
      refine Or.inr ⟨nI (S (768 + 128 * s + (16 * f + i))) - nI 1, ?_, fun M' hM => ?_⟩
      · unfold fX6_blockInSnapshot
        simp (disch := first | omega | assumption) only [l_0, l_1, l_2, l_3, l_4, l_5, l_6, l_7, l_8, l_11, l_12, l_15, l_16, l_31, l_32, l_66, l_80, l_100, l_127, l_128, l_768, l_2304, l_2310, l_2316, l_2388, l_2394, l_2406, l_2418, l_2430, l_2558, l_2686, l_2814, l_2942, l_3070, l_3390, l_3394, l_3395, l_3396, l_3397, n_leT, n_leF, n_ltT, n_ltF, n_eqT, n_eqF, nI_add, pk_mul, n_sub, z_ldn, z_san, z_bs, z_b2s, z_b3s, z_ocN, z_ocS, z_oxL, z_oxR, z_scL, z_scR, ↓reduceIte, st_170, st_171, st_172, st_173, Nat.zero_add, Nat.add_zero, Nat.zero_lt_succ, true_and, and_true, eq_self, cSn_ok hR.2.2.1 (I_num hI) hb hs h1, z_gdp hk, cPl_ok hf hi, cBo hp, hT]
      · have hN2 := N1' hN hM
        unfold fX7_blockInSnapshot fX7_inShot
        rw [mSh_ok hN2 (I_num hI) hb hs h1 hf hi, z_b2s, mSlot_ok (M := z_st M' 169 4 (nI 0)) hN2 (I_num hI) hb hs h1]
        simp (disch := first | omega | assumption) only [l_0, l_1, l_2, l_3, l_4, l_5, l_6, l_7, l_8, l_11, l_12, l_15, l_16, l_31, l_32, l_66, l_80, l_100, l_127, l_128, l_768, l_2304, l_2310, l_2316, l_2388, l_2394, l_2406, l_2418, l_2430, l_2558, l_2686, l_2814, l_2942, l_3070, l_3390, l_3394, l_3395, l_3396, l_3397, n_leT, n_leF, n_ltT, n_ltF, n_eqT, n_eqF, nI_add, pk_mul, n_sub, z_ldn, z_san, z_bs, z_b2s, z_b3s, z_ocN, z_ocS, z_oxL, z_oxR, z_scL, z_scR, ↓reduceIte, st_170, st_171, st_172, st_173, Nat.zero_add, Nat.add_zero, Nat.zero_lt_succ, true_and, and_true, eq_self, e3, hN2]
    · refine Or.inl ⟨?_, nI 0, ?_⟩
      · unfold fX6_blockInSnapshot
        simp (disch := first | omega | assumption) only [l_0, l_1, l_2, l_3, l_4, l_5, l_6, l_7, l_8, l_11, l_12, l_15, l_16, l_31, l_32, l_66, l_80, l_100, l_127, l_128, l_768, l_2304, l_2310, l_2316, l_2388, l_2394, l_2406, l_2418, l_2430, l_2558, l_2686, l_2814, l_2942, l_3070, l_3390, l_3394, l_3395, l_3396, l_3397, n_leT, n_leF, n_ltT, n_ltF, n_eqT, n_eqF, nI_add, pk_mul, n_sub, z_ldn, z_san, z_bs, z_b2s, z_b3s, z_ocN, z_ocS, z_oxL, z_oxR, z_scL, z_scR, ↓reduceIte, st_170, st_171, st_172, st_173, Nat.zero_add, Nat.add_zero, Nat.zero_lt_succ, true_and, and_true, eq_self, cSn_ok hR.2.2.1 (I_num hI) hb hs h1, z_gdp (kd1_sn hs), cPl_no h2]
      · unfold fX7_blockInSnapshot
        rw [mSh_no2 hN1 (I_num hI) hb hs h1 h2, z_b2s]
        simp (disch := first | omega | assumption) only [l_0, l_1, l_2, l_3, l_4, l_5, l_6, l_7, l_8, l_11, l_12, l_15, l_16, l_31, l_32, l_66, l_80, l_100, l_127, l_128, l_768, l_2304, l_2310, l_2316, l_2388, l_2394, l_2406, l_2418, l_2430, l_2558, l_2686, l_2814, l_2942, l_3070, l_3390, l_3394, l_3395, l_3396, l_3397, n_leT, n_leF, n_ltT, n_ltF, n_eqT, n_eqF, nI_add, pk_mul, n_sub, z_ldn, z_san, z_bs, z_b2s, z_b3s, z_ocN, z_ocS, z_oxL, z_oxR, z_scL, z_scR, ↓reduceIte, st_170, st_171, st_172, st_173, Nat.zero_add, Nat.add_zero, Nat.zero_lt_succ, true_and, and_true, eq_self]
  · refine Or.inl ⟨?_, nI 0, ?_⟩
    · unfold fX6_blockInSnapshot
      simp (disch := first | omega | assumption) only [l_0, l_1, l_2, l_3, l_4, l_5, l_6, l_7, l_8, l_11, l_12, l_15, l_16, l_31, l_32, l_66, l_80, l_100, l_127, l_128, l_768, l_2304, l_2310, l_2316, l_2388, l_2394, l_2406, l_2418, l_2430, l_2558, l_2686, l_2814, l_2942, l_3070, l_3390, l_3394, l_3395, l_3396, l_3397, n_leT, n_leF, n_ltT, n_ltF, n_eqT, n_eqF, nI_add, pk_mul, n_sub, z_ldn, z_san, z_bs, z_b2s, z_b3s, z_ocN, z_ocS, z_oxL, z_oxR, z_scL, z_scR, ↓reduceIte, st_170, st_171, st_172, st_173, Nat.zero_add, Nat.add_zero, Nat.zero_lt_succ, true_and, and_true, eq_self, cSn_no hR.2.2.1 h1]
    · unfold fX7_blockInSnapshot
      rw [mSh_no1 hN1 hb h1, z_b2s]
      simp (disch := first | omega | assumption) only [l_0, l_1, l_2, l_3, l_4, l_5, l_6, l_7, l_8, l_11, l_12, l_15, l_16, l_31, l_32, l_66, l_80, l_100, l_127, l_128, l_768, l_2304, l_2310, l_2316, l_2388, l_2394, l_2406, l_2418, l_2430, l_2558, l_2686, l_2814, l_2942, l_3070, l_3390, l_3394, l_3395, l_3396, l_3397, n_leT, n_leF, n_ltT, n_ltF, n_eqT, n_eqF, nI_add, pk_mul, n_sub, z_ldn, z_san, z_bs, z_b2s, z_b3s, z_ocN, z_ocS, z_oxL, z_oxR, z_scL, z_scR, ↓reduceIte, st_170, st_171, st_172, st_173, Nat.zero_add, Nat.add_zero, Nat.zero_lt_succ, true_and, and_true, eq_self]
theorem op_12 {n : Nat} (hn : n < 512) {M : zM} (h : z_P n M) (a1 a2 a3 a4 a5 a6 : Int32) : ∃ M9, fL_c12 a1 a2 a3 a4 a5 a6 M = some (1, M9) ∧ z_P (n + 1) M9 := by
  obtain ⟨S, S0, hN, _, hR, _, hI, _⟩ := id h
  unfold fL_c12 fL_transactionOf
  refine roIO h ?_
  have hN1 := N1 hN
  have hb := hb30 hI hn
  rcases sn_cases (S := S) a1 with ⟨s, hs, h1, rfl⟩ | h1
  · refine Or.inr ⟨nI (S (2406 + s)), ?_, fun M' hM => ?_⟩
    · unfold fX6_transactionOf
      simp (disch := first | omega | assumption) only [l_0, l_1, l_2, l_3, l_4, l_5, l_6, l_7, l_8, l_11, l_12, l_15, l_16, l_31, l_32, l_66, l_80, l_100, l_127, l_128, l_768, l_2304, l_2310, l_2316, l_2388, l_2394, l_2406, l_2418, l_2430, l_2558, l_2686, l_2814, l_2942, l_3070, l_3390, l_3394, l_3395, l_3396, l_3397, n_leT, n_leF, n_ltT, n_ltF, n_eqT, n_eqF, nI_add, pk_mul, n_sub, z_ldn, z_san, z_bs, z_b2s, z_b3s, z_ocN, z_ocS, z_oxL, z_oxR, z_scL, z_scR, ↓reduceIte, st_170, st_171, st_172, st_173, Nat.zero_add, Nat.add_zero, Nat.zero_lt_succ, true_and, and_true, eq_self, cSn_ok hR.2.2.1 (I_num hI) hb hs h1, z_gdp (kd1_sn hs), ((hR.2.2.1 s hs).2 h1).2.2.1]
    · have hN2 := N1' hN hM
      unfold fX7_transactionOf
      rw [show (0 : Int32) = nI 0 from rfl, mSh_ok hN2 (I_num hI) hb hs h1 (by decide) (by decide), z_b2s, mSlot_ok (M := z_st M' 169 4 (nI 0)) hN2 (I_num hI) hb hs h1]
      simp (disch := first | omega | assumption) only [l_0, l_1, l_2, l_3, l_4, l_5, l_6, l_7, l_8, l_11, l_12, l_15, l_16, l_31, l_32, l_66, l_80, l_100, l_127, l_128, l_768, l_2304, l_2310, l_2316, l_2388, l_2394, l_2406, l_2418, l_2430, l_2558, l_2686, l_2814, l_2942, l_3070, l_3390, l_3394, l_3395, l_3396, l_3397, n_leT, n_leF, n_ltT, n_ltF, n_eqT, n_eqF, nI_add, pk_mul, n_sub, z_ldn, z_san, z_bs, z_b2s, z_b3s, z_ocN, z_ocS, z_oxL, z_oxR, z_scL, z_scR, ↓reduceIte, st_170, st_171, st_172, st_173, Nat.zero_add, Nat.add_zero, Nat.zero_lt_succ, true_and, and_true, eq_self, hN2]
  · refine Or.inl ⟨?_, nI 0, ?_⟩
    · unfold fX6_transactionOf
      simp (disch := first | omega | assumption) only [l_0, l_1, l_2, l_3, l_4, l_5, l_6, l_7, l_8, l_11, l_12, l_15, l_16, l_31, l_32, l_66, l_80, l_100, l_127, l_128, l_768, l_2304, l_2310, l_2316, l_2388, l_2394, l_2406, l_2418, l_2430, l_2558, l_2686, l_2814, l_2942, l_3070, l_3390, l_3394, l_3395, l_3396, l_3397, n_leT, n_leF, n_ltT, n_ltF, n_eqT, n_eqF, nI_add, pk_mul, n_sub, z_ldn, z_san, z_bs, z_b2s, z_b3s, z_ocN, z_ocS, z_oxL, z_oxR, z_scL, z_scR, ↓reduceIte, st_170, st_171, st_172, st_173, Nat.zero_add, Nat.add_zero, Nat.zero_lt_succ, true_and, and_true, eq_self, cSn_no hR.2.2.1 h1]
    · unfold fX7_transactionOf
      rw [mSh_no1 hN1 hb h1, z_b2s]
      simp (disch := first | omega | assumption) only [l_0, l_1, l_2, l_3, l_4, l_5, l_6, l_7, l_8, l_11, l_12, l_15, l_16, l_31, l_32, l_66, l_80, l_100, l_127, l_128, l_768, l_2304, l_2310, l_2316, l_2388, l_2394, l_2406, l_2418, l_2430, l_2558, l_2686, l_2814, l_2942, l_3070, l_3390, l_3394, l_3395, l_3396, l_3397, n_leT, n_leF, n_ltT, n_ltF, n_eqT, n_eqF, nI_add, pk_mul, n_sub, z_ldn, z_san, z_bs, z_b2s, z_b3s, z_ocN, z_ocS, z_oxL, z_oxR, z_scL, z_scR, ↓reduceIte, st_170, st_171, st_172, st_173, Nat.zero_add, Nat.add_zero, Nat.zero_lt_succ, true_and, and_true, eq_self]
theorem op_13 {n : Nat} (hn : n < 512) {M : zM} (h : z_P n M) (a1 a2 a3 a4 a5 a6 : Int32) : ∃ M9, fL_c13 a1 a2 a3 a4 a5 a6 M = some (1, M9) ∧ z_P (n + 1) M9 := by
  obtain ⟨S, S0, hN, _, hR, _, hI, _⟩ := id h
  unfold fL_c13 fL_datasetOf
  refine roIO h ?_
  have hN1 := N1 hN
  have hb := hb30 hI hn
  rcases sn_cases (S := S) a1 with ⟨s, hs, h1, rfl⟩ | h1
  · refine Or.inr ⟨nI (S (2418 + s)), ?_, fun M' hM => ?_⟩
    · unfold fX6_datasetOf
      simp (disch := first | omega | assumption) only [l_0, l_1, l_2, l_3, l_4, l_5, l_6, l_7, l_8, l_11, l_12, l_15, l_16, l_31, l_32, l_66, l_80, l_100, l_127, l_128, l_768, l_2304, l_2310, l_2316, l_2388, l_2394, l_2406, l_2418, l_2430, l_2558, l_2686, l_2814, l_2942, l_3070, l_3390, l_3394, l_3395, l_3396, l_3397, n_leT, n_leF, n_ltT, n_ltF, n_eqT, n_eqF, nI_add, pk_mul, n_sub, z_ldn, z_san, z_bs, z_b2s, z_b3s, z_ocN, z_ocS, z_oxL, z_oxR, z_scL, z_scR, ↓reduceIte, st_170, st_171, st_172, st_173, Nat.zero_add, Nat.add_zero, Nat.zero_lt_succ, true_and, and_true, eq_self, cSn_ok hR.2.2.1 (I_num hI) hb hs h1, z_gdp (kd1_sn hs), ((hR.2.2.1 s hs).2 h1).2.1]
    · have hN2 := N1' hN hM
      unfold fX7_datasetOf
      rw [show (0 : Int32) = nI 0 from rfl, mSh_ok hN2 (I_num hI) hb hs h1 (by decide) (by decide), z_b2s, mSlot_ok (M := z_st M' 169 4 (nI 0)) hN2 (I_num hI) hb hs h1]
      simp (disch := first | omega | assumption) only [l_0, l_1, l_2, l_3, l_4, l_5, l_6, l_7, l_8, l_11, l_12, l_15, l_16, l_31, l_32, l_66, l_80, l_100, l_127, l_128, l_768, l_2304, l_2310, l_2316, l_2388, l_2394, l_2406, l_2418, l_2430, l_2558, l_2686, l_2814, l_2942, l_3070, l_3390, l_3394, l_3395, l_3396, l_3397, n_leT, n_leF, n_ltT, n_ltF, n_eqT, n_eqF, nI_add, pk_mul, n_sub, z_ldn, z_san, z_bs, z_b2s, z_b3s, z_ocN, z_ocS, z_oxL, z_oxR, z_scL, z_scR, ↓reduceIte, st_170, st_171, st_172, st_173, Nat.zero_add, Nat.add_zero, Nat.zero_lt_succ, true_and, and_true, eq_self, hN2]
  · refine Or.inl ⟨?_, nI 0, ?_⟩
    · unfold fX6_datasetOf
      simp (disch := first | omega | assumption) only [l_0, l_1, l_2, l_3, l_4, l_5, l_6, l_7, l_8, l_11, l_12, l_15, l_16, l_31, l_32, l_66, l_80, l_100, l_127, l_128, l_768, l_2304, l_2310, l_2316, l_2388, l_2394, l_2406, l_2418, l_2430, l_2558, l_2686, l_2814, l_2942, l_3070, l_3390, l_3394, l_3395, l_3396, l_3397, n_leT, n_leF, n_ltT, n_ltF, n_eqT, n_eqF, nI_add, pk_mul, n_sub, z_ldn, z_san, z_bs, z_b2s, z_b3s, z_ocN, z_ocS, z_oxL, z_oxR, z_scL, z_scR, ↓reduceIte, st_170, st_171, st_172, st_173, Nat.zero_add, Nat.add_zero, Nat.zero_lt_succ, true_and, and_true, eq_self, cSn_no hR.2.2.1 h1]
    · unfold fX7_datasetOf
      rw [mSh_no1 hN1 hb h1, z_b2s]
      simp (disch := first | omega | assumption) only [l_0, l_1, l_2, l_3, l_4, l_5, l_6, l_7, l_8, l_11, l_12, l_15, l_16, l_31, l_32, l_66, l_80, l_100, l_127, l_128, l_768, l_2304, l_2310, l_2316, l_2388, l_2394, l_2406, l_2418, l_2430, l_2558, l_2686, l_2814, l_2942, l_3070, l_3390, l_3394, l_3395, l_3396, l_3397, n_leT, n_leF, n_ltT, n_ltF, n_eqT, n_eqF, nI_add, pk_mul, n_sub, z_ldn, z_san, z_bs, z_b2s, z_b3s, z_ocN, z_ocS, z_oxL, z_oxR, z_scL, z_scR, ↓reduceIte, st_170, st_171, st_172, st_173, Nat.zero_add, Nat.add_zero, Nat.zero_lt_succ, true_and, and_true, eq_self]
theorem op_19 {n : Nat} {M : zM} (h : z_P n M) (a1 a2 a3 a4 a5 a6 : Int32) : ∃ M9, fL_c19 a1 a2 a3 a4 a5 a6 M = some (1, M9) ∧ z_P (n + 1) M9 := by
  obtain ⟨S, S0, hN, _, hR, _, hI, _⟩ := id h
  have hx := I_ex hI
  refine roZ h (Mo := fX7_datasets 169) (v := nI (sumN (fun d => S (2304 + d)) 6)) ?_ ?_
  · unfold fX6_datasets fX5_countDatasets
    rw [z_loopS (f := fun s : Int32 × Int32 => fX5_countDatasets_L1 (0 + 1) M s.1 s.2) (fun d => S (2304 + d)) 0 6 (by decide) (s := (0, 0)) rfl (fun i x hi => by
      have q := hx i hi
      by_cases q2 : S (2304 + i) = 0
      · simp (disch := first | omega | assumption) only [l_0, l_1, l_2, l_3, l_4, l_5, l_6, l_7, l_8, l_11, l_12, l_15, l_16, l_31, l_32, l_66, l_80, l_100, l_127, l_128, l_768, l_2304, l_2310, l_2316, l_2388, l_2394, l_2406, l_2418, l_2430, l_2558, l_2686, l_2814, l_2942, l_3070, l_3390, l_3394, l_3395, l_3396, l_3397, n_leT, n_leF, n_ltT, n_ltF, n_eqT, n_eqF, nI_add, pk_mul, n_sub, z_ldn, z_san, z_bs, z_b2s, z_b3s, z_ocN, z_ocS, z_oxL, z_oxR, z_scL, z_scR, ↓reduceIte, st_170, st_171, st_172, st_173, Nat.zero_add, Nat.add_zero, Nat.zero_lt_succ, true_and, and_true, eq_self, fX5_countDatasets_L1, z_lq11, (hR.2.1 i hi).1, q2]
      · have q3 : S (2304 + i) = 1 := by omega
        simp (disch := first | omega | assumption) only [l_0, l_1, l_2, l_3, l_4, l_5, l_6, l_7, l_8, l_11, l_12, l_15, l_16, l_31, l_32, l_66, l_80, l_100, l_127, l_128, l_768, l_2304, l_2310, l_2316, l_2388, l_2394, l_2406, l_2418, l_2430, l_2558, l_2686, l_2814, l_2942, l_3070, l_3390, l_3394, l_3395, l_3396, l_3397, n_leT, n_leF, n_ltT, n_ltF, n_eqT, n_eqF, nI_add, pk_mul, n_sub, z_ldn, z_san, z_bs, z_b2s, z_b3s, z_ocN, z_ocS, z_oxL, z_oxR, z_scL, z_scR, ↓reduceIte, st_170, st_171, st_172, st_173, Nat.zero_add, Nat.add_zero, Nat.zero_lt_succ, true_and, and_true, eq_self, fX5_countDatasets_L1, z_lq11, (hR.2.1 i hi).1, q3]) (fun x => by simp (disch := first | omega | assumption) only [l_0, l_1, l_2, l_3, l_4, l_5, l_6, l_7, l_8, l_11, l_12, l_15, l_16, l_31, l_32, l_66, l_80, l_100, l_127, l_128, l_768, l_2304, l_2310, l_2316, l_2388, l_2394, l_2406, l_2418, l_2430, l_2558, l_2686, l_2814, l_2942, l_3070, l_3390, l_3394, l_3395, l_3396, l_3397, n_leT, n_leF, n_ltT, n_ltF, n_eqT, n_eqF, nI_add, pk_mul, n_sub, z_ldn, z_san, z_bs, z_b2s, z_b3s, z_ocN, z_ocS, z_oxL, z_oxR, z_scL, z_scR, ↓reduceIte, st_170, st_171, st_172, st_173, Nat.zero_add, Nat.add_zero, Nat.zero_lt_succ, true_and, and_true, eq_self, fX5_countDatasets_L1])]
    simp (disch := first | omega | assumption) only [l_0, l_1, l_2, l_3, l_4, l_5, l_6, l_7, l_8, l_11, l_12, l_15, l_16, l_31, l_32, l_66, l_80, l_100, l_127, l_128, l_768, l_2304, l_2310, l_2316, l_2388, l_2394, l_2406, l_2418, l_2430, l_2558, l_2686, l_2814, l_2942, l_3070, l_3390, l_3394, l_3395, l_3396, l_3397, n_leT, n_leF, n_ltT, n_ltF, n_eqT, n_eqF, nI_add, pk_mul, n_sub, z_ldn, z_san, z_bs, z_b2s, z_b3s, z_ocN, z_ocS, z_oxL, z_oxR, z_scL, z_scR, ↓reduceIte, st_170, st_171, st_172, st_173, Nat.zero_add, Nat.add_zero, Nat.zero_lt_succ, true_and, and_true, eq_self]
  · unfold fX7_datasets fX7_countSets
    simp (disch := first | omega | assumption) only [l_0, l_1, l_2, l_3, l_4, l_5, l_6, l_7, l_8, l_11, l_12, l_15, l_16, l_31, l_32, l_66, l_80, l_100, l_127, l_128, l_768, l_2304, l_2310, l_2316, l_2388, l_2394, l_2406, l_2418, l_2430, l_2558, l_2686, l_2814, l_2942, l_3070, l_3390, l_3394, l_3395, l_3396, l_3397, n_leT, n_leF, n_ltT, n_ltF, n_eqT, n_eqF, nI_add, pk_mul, n_sub, z_ldn, z_san, z_bs, z_b2s, z_b3s, z_ocN, z_ocS, z_oxL, z_oxR, z_scL, z_scR, ↓reduceIte, st_170, st_171, st_172, st_173, Nat.zero_add, Nat.add_zero, Nat.zero_lt_succ, true_and, and_true, eq_self]
    rw [z_loopS (f := fun s : Int32 × Int32 => fX7_countSets_L1 169 (z_st M 169 4 (nI 0)) s.1 s.2) (fun d => S (2304 + d)) 0 6 (by decide) rfl (fun i x hi => by
      simp (disch := first | omega | assumption) only [l_0, l_1, l_2, l_3, l_4, l_5, l_6, l_7, l_8, l_11, l_12, l_15, l_16, l_31, l_32, l_66, l_80, l_100, l_127, l_128, l_768, l_2304, l_2310, l_2316, l_2388, l_2394, l_2406, l_2418, l_2430, l_2558, l_2686, l_2814, l_2942, l_3070, l_3390, l_3394, l_3395, l_3396, l_3397, n_leT, n_leF, n_ltT, n_ltF, n_eqT, n_eqF, nI_add, pk_mul, n_sub, z_ldn, z_san, z_bs, z_b2s, z_b3s, z_ocN, z_ocS, z_oxL, z_oxR, z_scL, z_scR, ↓reduceIte, st_170, st_171, st_172, st_173, Nat.zero_add, Nat.add_zero, Nat.zero_lt_succ, true_and, and_true, eq_self, fX7_countSets_L1, N1 hN]) (fun x => by simp (disch := first | omega | assumption) only [l_0, l_1, l_2, l_3, l_4, l_5, l_6, l_7, l_8, l_11, l_12, l_15, l_16, l_31, l_32, l_66, l_80, l_100, l_127, l_128, l_768, l_2304, l_2310, l_2316, l_2388, l_2394, l_2406, l_2418, l_2430, l_2558, l_2686, l_2814, l_2942, l_3070, l_3390, l_3394, l_3395, l_3396, l_3397, n_leT, n_leF, n_ltT, n_ltF, n_eqT, n_eqF, nI_add, pk_mul, n_sub, z_ldn, z_san, z_bs, z_b2s, z_b3s, z_ocN, z_ocS, z_oxL, z_oxR, z_scL, z_scR, ↓reduceIte, st_170, st_171, st_172, st_173, Nat.zero_add, Nat.add_zero, Nat.zero_lt_succ, true_and, and_true, eq_self, fX7_countSets_L1])]
    simp (disch := first | omega | assumption) only [l_0, l_1, l_2, l_3, l_4, l_5, l_6, l_7, l_8, l_11, l_12, l_15, l_16, l_31, l_32, l_66, l_80, l_100, l_127, l_128, l_768, l_2304, l_2310, l_2316, l_2388, l_2394, l_2406, l_2418, l_2430, l_2558, l_2686, l_2814, l_2942, l_3070, l_3390, l_3394, l_3395, l_3396, l_3397, n_leT, n_leF, n_ltT, n_ltF, n_eqT, n_eqF, nI_add, pk_mul, n_sub, z_ldn, z_san, z_bs, z_b2s, z_b3s, z_ocN, z_ocS, z_oxL, z_oxR, z_scL, z_scR, ↓reduceIte, st_170, st_171, st_172, st_173, Nat.zero_add, Nat.add_zero, Nat.zero_lt_succ, true_and, and_true, eq_self]
theorem op_21 {n : Nat} (hn : n < 512) {M : zM} (h : z_P n M) (a1 a2 a3 a4 a5 a6 : Int32) : ∃ M9, fL_c21 a1 a2 a3 a4 a5 a6 M = some (1, M9) ∧ z_P (n + 1) M9 := by
  obtain ⟨S, S0, hN, _, hR, _, hI, _⟩ := id h
  unfold fL_c21 fL_origin
  refine roIO h ?_
  have hN1 := N1 hN
  rcases ds_cases a1 (I_ex hI) with ⟨d, hd, rfl, h1⟩ | h1
  · refine Or.inr ⟨nI (z_onum S d) - nI 1, ?_, fun M' hM => ?_⟩
    · unfold fX6_origin
      simp (disch := first | omega | assumption) only [l_0, l_1, l_2, l_3, l_4, l_5, l_6, l_7, l_8, l_11, l_12, l_15, l_16, l_31, l_32, l_66, l_80, l_100, l_127, l_128, l_768, l_2304, l_2310, l_2316, l_2388, l_2394, l_2406, l_2418, l_2430, l_2558, l_2686, l_2814, l_2942, l_3070, l_3390, l_3394, l_3395, l_3396, l_3397, n_leT, n_leF, n_ltT, n_ltF, n_eqT, n_eqF, nI_add, pk_mul, n_sub, z_ldn, z_san, z_bs, z_b2s, z_b3s, z_ocN, z_ocS, z_oxL, z_oxR, z_scL, z_scR, ↓reduceIte, st_170, st_171, st_172, st_173, Nat.zero_add, Nat.add_zero, Nat.zero_lt_succ, true_and, and_true, eq_self, cDs_ok hR.2.1 hd h1, z_gdp (kd1_ds hd), (hR.2.1 d hd).2]
    · have hN2 := N1' hN hM
      have ho := (I_ori hI d hd).1
      unfold fX7_origin
      rw [mSet_ok hN2 hd h1, z_bs, show (1 : Int32) = nI 1 from rfl, mFits0, z_b2s]
      by_cases q : S (2310 + d) = 0
      · simp (disch := first | omega | assumption) only [l_0, l_1, l_2, l_3, l_4, l_5, l_6, l_7, l_8, l_11, l_12, l_15, l_16, l_31, l_32, l_66, l_80, l_100, l_127, l_128, l_768, l_2304, l_2310, l_2316, l_2388, l_2394, l_2406, l_2418, l_2430, l_2558, l_2686, l_2814, l_2942, l_3070, l_3390, l_3394, l_3395, l_3396, l_3397, n_leT, n_leF, n_ltT, n_ltF, n_eqT, n_eqF, nI_add, pk_mul, n_sub, z_ldn, z_san, z_bs, z_b2s, z_b3s, z_ocN, z_ocS, z_oxL, z_oxR, z_scL, z_scR, ↓reduceIte, st_170, st_171, st_172, st_173, Nat.zero_add, Nat.add_zero, Nat.zero_lt_succ, true_and, and_true, eq_self, hN2, q, z_onum, n_m0d]
      · have e : 2394 + S (2310 + d) - 1 = 2394 + (S (2310 + d) - 1) := by omega
        simp (disch := first | omega | assumption) only [l_0, l_1, l_2, l_3, l_4, l_5, l_6, l_7, l_8, l_11, l_12, l_15, l_16, l_31, l_32, l_66, l_80, l_100, l_127, l_128, l_768, l_2304, l_2310, l_2316, l_2388, l_2394, l_2406, l_2418, l_2430, l_2558, l_2686, l_2814, l_2942, l_3070, l_3390, l_3394, l_3395, l_3396, l_3397, n_leT, n_leF, n_ltT, n_ltF, n_eqT, n_eqF, nI_add, pk_mul, n_sub, z_ldn, z_san, z_bs, z_b2s, z_b3s, z_ocN, z_ocS, z_oxL, z_oxR, z_scL, z_scR, ↓reduceIte, st_170, st_171, st_172, st_173, Nat.zero_add, Nat.add_zero, Nat.zero_lt_succ, true_and, and_true, eq_self, hN2, z_onum, if_neg q, e]
  · refine Or.inl ⟨?_, nI 0, ?_⟩
    · unfold fX6_origin
      simp (disch := first | omega | assumption) only [l_0, l_1, l_2, l_3, l_4, l_5, l_6, l_7, l_8, l_11, l_12, l_15, l_16, l_31, l_32, l_66, l_80, l_100, l_127, l_128, l_768, l_2304, l_2310, l_2316, l_2388, l_2394, l_2406, l_2418, l_2430, l_2558, l_2686, l_2814, l_2942, l_3070, l_3390, l_3394, l_3395, l_3396, l_3397, n_leT, n_leF, n_ltT, n_ltF, n_eqT, n_eqF, nI_add, pk_mul, n_sub, z_ldn, z_san, z_bs, z_b2s, z_b3s, z_ocN, z_ocS, z_oxL, z_oxR, z_scL, z_scR, ↓reduceIte, st_170, st_171, st_172, st_173, Nat.zero_add, Nat.add_zero, Nat.zero_lt_succ, true_and, and_true, eq_self, cDs_no hR.2.1 h1]
    · unfold fX7_origin
      rw [mSet_no hN1 h1, z_bs, mFits1, z_b2s]
      simp (disch := first | omega | assumption) only [l_0, l_1, l_2, l_3, l_4, l_5, l_6, l_7, l_8, l_11, l_12, l_15, l_16, l_31, l_32, l_66, l_80, l_100, l_127, l_128, l_768, l_2304, l_2310, l_2316, l_2388, l_2394, l_2406, l_2418, l_2430, l_2558, l_2686, l_2814, l_2942, l_3070, l_3390, l_3394, l_3395, l_3396, l_3397, n_leT, n_leF, n_ltT, n_ltF, n_eqT, n_eqF, nI_add, pk_mul, n_sub, z_ldn, z_san, z_bs, z_b2s, z_b3s, z_ocN, z_ocS, z_oxL, z_oxR, z_scL, z_scR, ↓reduceIte, st_170, st_171, st_172, st_173, Nat.zero_add, Nat.add_zero, Nat.zero_lt_succ, true_and, and_true, eq_self]
