/-! ===== the calls that change nothing: the logs ===== -/
theorem mInK_ok {M : zM} {r k : Nat} (h : r < k) (hk : k < 2 ^ 31) : fX7_in (nI r) (nI 0) (nI k - nI 1) M = some (nI 1) := by
  unfold fX7_in
  have : 1 ≤ k := by omega
  simp (disch := first | omega | assumption) only [l_0, l_1, l_2, l_3, l_4, l_5, l_6, l_7, l_8, l_11, l_12, l_15, l_16, l_31, l_32, l_66, l_80, l_100, l_127, l_128, l_768, l_2304, l_2310, l_2316, l_2388, l_2394, l_2406, l_2418, l_2430, l_2558, l_2686, l_2814, l_2942, l_3070, l_3390, l_3394, l_3395, l_3396, l_3397, n_leT, n_leF, n_ltT, n_ltF, n_eqT, n_eqF, nI_add, pk_mul, n_sub, z_ldn, z_san, z_bs, z_b2s, z_b3s, z_ocN, z_ocS, z_oxL, z_oxR, z_scL, z_scR, ↓reduceIte, st_170, st_171, st_172, st_173, Nat.zero_add, Nat.add_zero, Nat.zero_lt_succ, true_and, and_true, eq_self]
theorem mInK_no {M : zM} {a : Int32} {k : Nat} (hk : k < 2 ^ 31) (h : ¬ z_is a k) : fX7_in a (nI 0) (nI k - nI 1) M = some (nI 0) := by
  by_cases q : k = 0
  · subst q
    unfold fX7_in
    by_cases q2 : a < nI 0
    · rw [if_pos q2]
      rfl
    · rw [if_neg q2, if_pos]
      · rfl
      · obtain ⟨j, hj, rfl⟩ := nI_of q2
        rw [show nI 0 - nI 1 = -nI 1 by decide]
        exact Int32.lt_of_lt_of_le (show -nI 1 < nI 0 by decide) (by
          rw [nI_leI (by omega) (by omega)]
          omega)
  · have e := mIn_no (M := M) (a := a) (hi := k - 1) (by omega) (by rw [show k - 1 + 1 = k by omega]; exact h)
    have e0 : 1 ≤ k := by omega
    rw [n_sub e0]
    exact e
theorem mEn_ok {M : zM} {S : Nat → Nat} (hL : ∀ k, 3390 ≤ k → k < 3397 → M (169 + 1) k = nI (S k)) (hl : ∀ r, r < 4 → S (3390 + r) ≤ 34) {r j : Nat} (hr : r < 4) (hj : j < S (3390 + r)) : fX7_isEntry 169 (nI r) (nI j) M = some (nI 1, z_st M 169 4 (nI 0)) := by
  unfold fX7_isEntry
  have h1 := hl r hr
  have e := mInK_ok (M := M) hj (by omega)
  simp (disch := first | omega | assumption) only [l_0, l_1, l_2, l_3, l_4, l_5, l_6, l_7, l_8, l_11, l_12, l_15, l_16, l_31, l_32, l_66, l_80, l_100, l_127, l_128, l_768, l_2304, l_2310, l_2316, l_2388, l_2394, l_2406, l_2418, l_2430, l_2558, l_2686, l_2814, l_2942, l_3070, l_3390, l_3394, l_3395, l_3396, l_3397, n_leT, n_leF, n_ltT, n_ltF, n_eqT, n_eqF, nI_add, pk_mul, n_sub, z_ldn, z_san, z_bs, z_b2s, z_b3s, z_ocN, z_ocS, z_oxL, z_oxR, z_scL, z_scR, ↓reduceIte, st_170, st_171, st_172, st_173, Nat.zero_add, Nat.add_zero, Nat.zero_lt_succ, true_and, and_true, eq_self, mIn_ok, hL, e, mFits0, z_bz1]
theorem mEn_no {M : zM} {S : Nat → Nat} (hL : ∀ k, 3390 ≤ k → k < 3397 → M (169 + 1) k = nI (S k)) (hl : ∀ r, r < 4 → S (3390 + r) ≤ 34) {a c : Int32} (h : ¬ z_is a 4 ∨ ∃ r, r < 4 ∧ a = nI r ∧ ¬ z_is c (S (3390 + r))) : fX7_isEntry 169 a c M = some (nI 0, z_st M 169 4 (nI 1)) := by
  unfold fX7_isEntry
  rcases h with h | ⟨r, hr, rfl, h⟩
  · simp (disch := first | omega | assumption) only [l_0, l_1, l_2, l_3, l_4, l_5, l_6, l_7, l_8, l_11, l_12, l_15, l_16, l_31, l_32, l_66, l_80, l_100, l_127, l_128, l_768, l_2304, l_2310, l_2316, l_2388, l_2394, l_2406, l_2418, l_2430, l_2558, l_2686, l_2814, l_2942, l_3070, l_3390, l_3394, l_3395, l_3396, l_3397, n_leT, n_leF, n_ltT, n_ltF, n_eqT, n_eqF, nI_add, pk_mul, n_sub, z_ldn, z_san, z_bs, z_b2s, z_b3s, z_ocN, z_ocS, z_oxL, z_oxR, z_scL, z_scR, ↓reduceIte, st_170, st_171, st_172, st_173, Nat.zero_add, Nat.add_zero, Nat.zero_lt_succ, true_and, and_true, eq_self, mIn_no (hi := 3) (by decide) h, mFits1, z_bz0]
  · have h1 := hl r hr
    have e := mInK_no (M := M) (by omega) h
    simp (disch := first | omega | assumption) only [l_0, l_1, l_2, l_3, l_4, l_5, l_6, l_7, l_8, l_11, l_12, l_15, l_16, l_31, l_32, l_66, l_80, l_100, l_127, l_128, l_768, l_2304, l_2310, l_2316, l_2388, l_2394, l_2406, l_2418, l_2430, l_2558, l_2686, l_2814, l_2942, l_3070, l_3390, l_3394, l_3395, l_3396, l_3397, n_leT, n_leF, n_ltT, n_ltF, n_eqT, n_eqF, nI_add, pk_mul, n_sub, z_ldn, z_san, z_bs, z_b2s, z_b3s, z_ocN, z_ocS, z_oxL, z_oxR, z_scL, z_scR, ↓reduceIte, st_170, st_171, st_172, st_173, Nat.zero_add, Nat.add_zero, Nat.zero_lt_succ, true_and, and_true, eq_self, mIn_ok, hL, e, mFits1, z_bz0]
theorem cEn_ok {M : zM} {S : Nat → Nat} (hl : ∀ r, r < 4 → S (3390 + r) ≤ 34) {r j : Nat} (hr : r < 4) (hj : j < S (3390 + r)) (hM : M (1 + 63 + 5 * r) 4 = nI (S (3390 + r))) : fX6_logWithEntryOrThrow 0 (nI r) (nI j) M = some (.inr (1 + 63 + 5 * r)) := by
  unfold fX6_logWithEntryOrThrow
  have h1 := hl r hr
  simp (disch := first | omega | assumption) only [l_0, l_1, l_2, l_3, l_4, l_5, l_6, l_7, l_8, l_11, l_12, l_15, l_16, l_31, l_32, l_66, l_80, l_100, l_127, l_128, l_768, l_2304, l_2310, l_2316, l_2388, l_2394, l_2406, l_2418, l_2430, l_2558, l_2686, l_2814, l_2942, l_3070, l_3390, l_3394, l_3395, l_3396, l_3397, n_leT, n_leF, n_ltT, n_ltF, n_eqT, n_eqF, nI_add, pk_mul, n_sub, z_ldn, z_san, z_bs, z_b2s, z_b3s, z_ocN, z_ocS, z_oxL, z_oxR, z_scL, z_scR, ↓reduceIte, st_170, st_171, st_172, st_173, Nat.zero_add, Nat.add_zero, Nat.zero_lt_succ, true_and, and_true, eq_self, cLo_ok hr, z_gdp (kd1_lg hr), hM]
theorem cEn_no {M : zM} {S : Nat → Nat} (hl : ∀ r, r < 4 → S (3390 + r) ≤ 34) (hM : ∀ r, r < 4 → M (1 + 63 + 5 * r) 4 = nI (S (3390 + r))) {a c : Int32} (h : ¬ z_is a 4 ∨ ∃ r, r < 4 ∧ a = nI r ∧ ¬ z_is c (S (3390 + r))) : fX6_logWithEntryOrThrow 0 a c M = some (.inl "java/lang/IndexOutOfBoundsException") := by
  unfold fX6_logWithEntryOrThrow
  rcases h with h | ⟨r, hr, rfl, h⟩
  · simp (disch := first | omega | assumption) only [l_0, l_1, l_2, l_3, l_4, l_5, l_6, l_7, l_8, l_11, l_12, l_15, l_16, l_31, l_32, l_66, l_80, l_100, l_127, l_128, l_768, l_2304, l_2310, l_2316, l_2388, l_2394, l_2406, l_2418, l_2430, l_2558, l_2686, l_2814, l_2942, l_3070, l_3390, l_3394, l_3395, l_3396, l_3397, n_leT, n_leF, n_ltT, n_ltF, n_eqT, n_eqF, nI_add, pk_mul, n_sub, z_ldn, z_san, z_bs, z_b2s, z_b3s, z_ocN, z_ocS, z_oxL, z_oxR, z_scL, z_scR, ↓reduceIte, st_170, st_171, st_172, st_173, Nat.zero_add, Nat.add_zero, Nat.zero_lt_succ, true_and, and_true, eq_self, cLo_no h]
  · have h1 := hl r hr
    rcases z_not (by omega) h with q | q
    · have q' : (c < nI 0) = True := eq_true q
      simp (disch := first | omega | assumption) only [l_0, l_1, l_2, l_3, l_4, l_5, l_6, l_7, l_8, l_11, l_12, l_15, l_16, l_31, l_32, l_66, l_80, l_100, l_127, l_128, l_768, l_2304, l_2310, l_2316, l_2388, l_2394, l_2406, l_2418, l_2430, l_2558, l_2686, l_2814, l_2942, l_3070, l_3390, l_3394, l_3395, l_3396, l_3397, n_leT, n_leF, n_ltT, n_ltF, n_eqT, n_eqF, nI_add, pk_mul, n_sub, z_ldn, z_san, z_bs, z_b2s, z_b3s, z_ocN, z_ocS, z_oxL, z_oxR, z_scL, z_scR, ↓reduceIte, st_170, st_171, st_172, st_173, Nat.zero_add, Nat.add_zero, Nat.zero_lt_succ, true_and, and_true, eq_self, cLo_ok hr, z_gdp (kd1_lg hr), q']
    · have q1 : (c < nI (S (3390 + r))) = False := eq_false (Int32.not_lt.mpr q)
      have q2 : (c < nI 0) = False := eq_false (fun e => Int32.not_lt.mpr (Int32.le_trans ((nI_leI (by decide) (by omega)).mpr (Nat.zero_le _)) q) e)
      simp (disch := first | omega | assumption) only [l_0, l_1, l_2, l_3, l_4, l_5, l_6, l_7, l_8, l_11, l_12, l_15, l_16, l_31, l_32, l_66, l_80, l_100, l_127, l_128, l_768, l_2304, l_2310, l_2316, l_2388, l_2394, l_2406, l_2418, l_2430, l_2558, l_2686, l_2814, l_2942, l_3070, l_3390, l_3394, l_3395, l_3396, l_3397, n_leT, n_leF, n_ltT, n_ltF, n_eqT, n_eqF, nI_add, pk_mul, n_sub, z_ldn, z_san, z_bs, z_b2s, z_b3s, z_ocN, z_ocS, z_oxL, z_oxR, z_scL, z_scR, ↓reduceIte, st_170, st_171, st_172, st_173, Nat.zero_add, Nat.add_zero, Nat.zero_lt_succ, true_and, and_true, eq_self, cLo_ok hr, z_gdp (kd1_lg hr), q2, hM, q1]
theorem en_cases {S : Nat → Nat} (a c : Int32) : (∃ r j, r < 4 ∧ j < S (3390 + r) ∧ a = nI r ∧ c = nI j) ∨ (¬ z_is a 4 ∨ ∃ r, r < 4 ∧ a = nI r ∧ ¬ z_is c (S (3390 + r))) := by
  rcases is_cases a 4 with ⟨r, hr, rfl⟩ | h
  · rcases is_cases c (S (3390 + r)) with ⟨j, hj, rfl⟩ | h
    · exact Or.inl ⟨r, j, hr, hj, rfl, rfl⟩
    · exact Or.inr (Or.inr ⟨r, hr, rfl, h⟩)
  · exact Or.inr (Or.inl h)
theorem op_33 {n : Nat} {M : zM} (h : z_P n M) (a1 a2 a3 a4 a5 a6 : Int32) : ∃ M9, fL_c33 a1 a2 a3 a4 a5 a6 M = some (1, M9) ∧ z_P (n + 1) M9 := by
  obtain ⟨S, S0, hN, _, hR, _, hI, _⟩ := id h
  unfold fL_c33 fL_logEntries
  refine roIO h ?_
  rcases is_cases a1 4 with ⟨r, hr, rfl⟩ | h1
  · refine Or.inr ⟨nI (S (3390 + r)), ?_, fun M' hM => ?_⟩
    · unfold fX6_logEntries
      simp (disch := first | omega | assumption) only [l_0, l_1, l_2, l_3, l_4, l_5, l_6, l_7, l_8, l_11, l_12, l_15, l_16, l_31, l_32, l_66, l_80, l_100, l_127, l_128, l_768, l_2304, l_2310, l_2316, l_2388, l_2394, l_2406, l_2418, l_2430, l_2558, l_2686, l_2814, l_2942, l_3070, l_3390, l_3394, l_3395, l_3396, l_3397, n_leT, n_leF, n_ltT, n_ltF, n_eqT, n_eqF, nI_add, pk_mul, n_sub, z_ldn, z_san, z_bs, z_b2s, z_b3s, z_ocN, z_ocS, z_oxL, z_oxR, z_scL, z_scR, ↓reduceIte, st_170, st_171, st_172, st_173, Nat.zero_add, Nat.add_zero, Nat.zero_lt_succ, true_and, and_true, eq_self, cLo_ok hr, z_gdp (kd1_lg hr), (hR.2.2.2.2.1 r hr).2.1]
    · unfold fX7_logEntries
      rw [mRe_ok hr, z_b2s]
      simp (disch := first | omega | assumption) only [l_0, l_1, l_2, l_3, l_4, l_5, l_6, l_7, l_8, l_11, l_12, l_15, l_16, l_31, l_32, l_66, l_80, l_100, l_127, l_128, l_768, l_2304, l_2310, l_2316, l_2388, l_2394, l_2406, l_2418, l_2430, l_2558, l_2686, l_2814, l_2942, l_3070, l_3390, l_3394, l_3395, l_3396, l_3397, n_leT, n_leF, n_ltT, n_ltF, n_eqT, n_eqF, nI_add, pk_mul, n_sub, z_ldn, z_san, z_bs, z_b2s, z_b3s, z_ocN, z_ocS, z_oxL, z_oxR, z_scL, z_scR, ↓reduceIte, st_170, st_171, st_172, st_173, Nat.zero_add, Nat.add_zero, Nat.zero_lt_succ, true_and, and_true, eq_self, N3' hN hM]
  · refine Or.inl ⟨?_, nI 0, ?_⟩
    · unfold fX6_logEntries
      simp (disch := first | omega | assumption) only [l_0, l_1, l_2, l_3, l_4, l_5, l_6, l_7, l_8, l_11, l_12, l_15, l_16, l_31, l_32, l_66, l_80, l_100, l_127, l_128, l_768, l_2304, l_2310, l_2316, l_2388, l_2394, l_2406, l_2418, l_2430, l_2558, l_2686, l_2814, l_2942, l_3070, l_3390, l_3394, l_3395, l_3396, l_3397, n_leT, n_leF, n_ltT, n_ltF, n_eqT, n_eqF, nI_add, pk_mul, n_sub, z_ldn, z_san, z_bs, z_b2s, z_b3s, z_ocN, z_ocS, z_oxL, z_oxR, z_scL, z_scR, ↓reduceIte, st_170, st_171, st_172, st_173, Nat.zero_add, Nat.add_zero, Nat.zero_lt_succ, true_and, and_true, eq_self, cLo_no h1]
    · unfold fX7_logEntries
      rw [mRe_no h1, z_b2s]
      simp (disch := first | omega | assumption) only [l_0, l_1, l_2, l_3, l_4, l_5, l_6, l_7, l_8, l_11, l_12, l_15, l_16, l_31, l_32, l_66, l_80, l_100, l_127, l_128, l_768, l_2304, l_2310, l_2316, l_2388, l_2394, l_2406, l_2418, l_2430, l_2558, l_2686, l_2814, l_2942, l_3070, l_3390, l_3394, l_3395, l_3396, l_3397, n_leT, n_leF, n_ltT, n_ltF, n_eqT, n_eqF, nI_add, pk_mul, n_sub, z_ldn, z_san, z_bs, z_b2s, z_b3s, z_ocN, z_ocS, z_oxL, z_oxR, z_scL, z_scR, ↓reduceIte, st_170, st_171, st_172, st_173, Nat.zero_add, Nat.add_zero, Nat.zero_lt_succ, true_and, and_true, eq_self]
theorem n_ng1 {x : Nat} (h : 1 ≤ x) (hx : x < 2 ^ 31) : (nI 0 ≤ -nI x) = False := eq_false (fun q => by
  have h1 : (-nI x).toInt = -(x : Int) := by
    rw [Int32.toInt_neg, nI_toInt hx, Int.bmod_def]
    have e : ((2 ^ 32 : Nat) : Int) = 4294967296 := rfl
    rw [e]
    split <;> omega
  rw [Int32.le_iff_toInt_le, h1, nI_toInt (by decide)] at q
  omega)
theorem n_ng2 {x : Nat} (h : 1 ≤ x) (hx : x < 2 ^ 31) : (-nI x ≤ nI 0) = True := eq_true (by
  rcases Int32.le_total (-nI x) (nI 0) with q | q
  · exact q
  · exact absurd q (n_ng1 h hx ▸ id))
theorem n_nn {x : Nat} : - -nI x = nI x := Int32.neg_neg
theorem op_34 {n : Nat} {M : zM} (h : z_P n M) (a1 a2 a3 a4 a5 a6 : Int32) : ∃ M9, fL_c34 a1 a2 a3 a4 a5 a6 M = some (1, M9) ∧ z_P (n + 1) M9 := by
  obtain ⟨S, S0, hN, _, hR, _, hI, _⟩ := id h
  unfold fL_c34 fL_runAt
  refine roIO h ?_
  rcases en_cases (S := S) a1 a2 with ⟨r, j, hr, hj, rfl, rfl⟩ | h1
  · have hl := I_log hI r hr
    obtain ⟨f, l, b1, b2, b3, b4, b5, b6⟩ := (hR.2.2.2.2.1 r hr).2.2 j hj
    refine Or.inr ⟨nI (100 * f + l), ?_, fun M' hM => ?_⟩
    · unfold fX6_runAt fX1_firstOf fX1_blocksOf fX1_isEntry
      simp (disch := first | omega | assumption) only [l_0, l_1, l_2, l_3, l_4, l_5, l_6, l_7, l_8, l_11, l_12, l_15, l_16, l_31, l_32, l_66, l_80, l_100, l_127, l_128, l_768, l_2304, l_2310, l_2316, l_2388, l_2394, l_2406, l_2418, l_2430, l_2558, l_2686, l_2814, l_2942, l_3070, l_3390, l_3394, l_3395, l_3396, l_3397, n_leT, n_leF, n_ltT, n_ltF, n_eqT, n_eqF, nI_add, pk_mul, n_sub, z_ldn, z_san, z_bs, z_b2s, z_b3s, z_ocN, z_ocS, z_oxL, z_oxR, z_scL, z_scR, ↓reduceIte, st_170, st_171, st_172, st_173, Nat.zero_add, Nat.add_zero, Nat.zero_lt_succ, true_and, and_true, eq_self, cEn_ok (I_log hI) hr hj (hR.2.2.2.2.1 r hr).2.1, z_gdp (kd1_lg hr), b4, b5]
    · unfold fX7_runAt
      rw [mEn_ok (N3' hN hM) (I_log hI) hr hj, z_b2s]
      have hM1 : M' (169 + 1) = M 170 := hM
      rcases b6 with ⟨_, b6⟩ | ⟨_, b6⟩
      · simp (disch := first | omega | assumption) only [l_0, l_1, l_2, l_3, l_4, l_5, l_6, l_7, l_8, l_11, l_12, l_15, l_16, l_31, l_32, l_66, l_80, l_100, l_127, l_128, l_768, l_2304, l_2310, l_2316, l_2388, l_2394, l_2406, l_2418, l_2430, l_2558, l_2686, l_2814, l_2942, l_3070, l_3390, l_3394, l_3395, l_3396, l_3397, n_leT, n_leF, n_ltT, n_ltF, n_eqT, n_eqF, nI_add, pk_mul, n_sub, z_ldn, z_san, z_bs, z_b2s, z_b3s, z_ocN, z_ocS, z_oxL, z_oxR, z_scL, z_scR, ↓reduceIte, st_170, st_171, st_172, st_173, Nat.zero_add, Nat.add_zero, Nat.zero_lt_succ, true_and, and_true, eq_self, hM1, b6]
      · simp (disch := first | omega | assumption) only [l_0, l_1, l_2, l_3, l_4, l_5, l_6, l_7, l_8, l_11, l_12, l_15, l_16, l_31, l_32, l_66, l_80, l_100, l_127, l_128, l_768, l_2304, l_2310, l_2316, l_2388, l_2394, l_2406, l_2418, l_2430, l_2558, l_2686, l_2814, l_2942, l_3070, l_3390, l_3394, l_3395, l_3396, l_3397, n_leT, n_leF, n_ltT, n_ltF, n_eqT, n_eqF, nI_add, pk_mul, n_sub, z_ldn, z_san, z_bs, z_b2s, z_b3s, z_ocN, z_ocS, z_oxL, z_oxR, z_scL, z_scR, ↓reduceIte, st_170, st_171, st_172, st_173, Nat.zero_add, Nat.add_zero, Nat.zero_lt_succ, true_and, and_true, eq_self, hM1, b6, n_ng1, n_nn]
  · refine Or.inl ⟨?_, nI 0, ?_⟩
    · unfold fX6_runAt
      simp (disch := first | omega | assumption) only [l_0, l_1, l_2, l_3, l_4, l_5, l_6, l_7, l_8, l_11, l_12, l_15, l_16, l_31, l_32, l_66, l_80, l_100, l_127, l_128, l_768, l_2304, l_2310, l_2316, l_2388, l_2394, l_2406, l_2418, l_2430, l_2558, l_2686, l_2814, l_2942, l_3070, l_3390, l_3394, l_3395, l_3396, l_3397, n_leT, n_leF, n_ltT, n_ltF, n_eqT, n_eqF, nI_add, pk_mul, n_sub, z_ldn, z_san, z_bs, z_b2s, z_b3s, z_ocN, z_ocS, z_oxL, z_oxR, z_scL, z_scR, ↓reduceIte, st_170, st_171, st_172, st_173, Nat.zero_add, Nat.add_zero, Nat.zero_lt_succ, true_and, and_true, eq_self, cEn_no (I_log hI) (fun r hr => (hR.2.2.2.2.1 r hr).2.1) h1]
    · unfold fX7_runAt
      rw [mEn_no (N3 hN) (I_log hI) h1, z_b2s]
      simp (disch := first | omega | assumption) only [l_0, l_1, l_2, l_3, l_4, l_5, l_6, l_7, l_8, l_11, l_12, l_15, l_16, l_31, l_32, l_66, l_80, l_100, l_127, l_128, l_768, l_2304, l_2310, l_2316, l_2388, l_2394, l_2406, l_2418, l_2430, l_2558, l_2686, l_2814, l_2942, l_3070, l_3390, l_3394, l_3395, l_3396, l_3397, n_leT, n_leF, n_ltT, n_ltF, n_eqT, n_eqF, nI_add, pk_mul, n_sub, z_ldn, z_san, z_bs, z_b2s, z_b3s, z_ocN, z_ocS, z_oxL, z_oxR, z_scL, z_scR, ↓reduceIte, st_170, st_171, st_172, st_173, Nat.zero_add, Nat.add_zero, Nat.zero_lt_succ, true_and, and_true, eq_self]
theorem lg_self {x : Int64} : lg_cmp x x = nI 0 := (by unfold lg_cmp; simp : lg_cmp x x = 0)
theorem op_35 {n : Nat} {M : zM} (h : z_P n M) (a1 a2 a3 a4 a5 a6 : Int32) : ∃ M9, fL_c35 a1 a2 a3 a4 a5 a6 M = some (1, M9) ∧ z_P (n + 1) M9 := by
  obtain ⟨S, S0, hN, _, hR, _, hI, _⟩ := id h
  unfold fL_c35 fL_allocates
  rcases en_cases (S := S) a1 a2 with ⟨r, j, hr, hj, rfl, rfl⟩ | h1
  · have hl := I_log hI r hr
    obtain ⟨f, l, b1, b2, b3, b4, b5, b6⟩ := (hR.2.2.2.2.1 r hr).2.2 j hj
    have ec : ∀ x : Int32, (∃ m, m ≤ 1 ∧ x = nI m) → M (1 + 63 + 5 * r + 3) j = x → fX6_allocates 0 (nI r) (nI j) M = some (.inr x) := fun x hx e => by
      obtain ⟨m, hm, rfl⟩ := hx
      have hm2 : m = 0 ∨ m = 1 := by omega
      unfold fX6_allocates fX1_isAllocation fX1_isEntry
      rcases hm2 with rfl | rfl
      · simp (disch := first | omega | assumption) only [l_0, l_1, l_2, l_3, l_4, l_5, l_6, l_7, l_8, l_11, l_12, l_15, l_16, l_31, l_32, l_66, l_80, l_100, l_127, l_128, l_768, l_2304, l_2310, l_2316, l_2388, l_2394, l_2406, l_2418, l_2430, l_2558, l_2686, l_2814, l_2942, l_3070, l_3390, l_3394, l_3395, l_3396, l_3397, n_leT, n_leF, n_ltT, n_ltF, n_eqT, n_eqF, nI_add, pk_mul, n_sub, z_ldn, z_san, z_bs, z_b2s, z_b3s, z_ocN, z_ocS, z_oxL, z_oxR, z_scL, z_scR, ↓reduceIte, st_170, st_171, st_172, st_173, Nat.zero_add, Nat.add_zero, Nat.zero_lt_succ, true_and, and_true, eq_self, cEn_ok (I_log hI) hr hj (hR.2.2.2.2.1 r hr).2.1, z_gdp (kd1_lg hr), e, z_bz0]
      · simp (disch := first | omega | assumption) only [l_0, l_1, l_2, l_3, l_4, l_5, l_6, l_7, l_8, l_11, l_12, l_15, l_16, l_31, l_32, l_66, l_80, l_100, l_127, l_128, l_768, l_2304, l_2310, l_2316, l_2388, l_2394, l_2406, l_2418, l_2430, l_2558, l_2686, l_2814, l_2942, l_3070, l_3390, l_3394, l_3395, l_3396, l_3397, n_leT, n_leF, n_ltT, n_ltF, n_eqT, n_eqF, nI_add, pk_mul, n_sub, z_ldn, z_san, z_bs, z_b2s, z_b3s, z_ocN, z_ocS, z_oxL, z_oxR, z_scL, z_scR, ↓reduceIte, st_170, st_171, st_172, st_173, Nat.zero_add, Nat.add_zero, Nat.zero_lt_succ, true_and, and_true, eq_self, cEn_ok (I_log hI) hr hj (hR.2.2.2.2.1 r hr).2.1, z_gdp (kd1_lg hr), e, z_bz1]
    have em : ∀ M' : zM, M' 170 = M 170 → fX7_isEntry 169 (nI r) (nI j) M' = some (nI 1, z_st M' 169 4 (nI 0)) := fun M' hM => mEn_ok (N3' hN hM) (I_log hI) hr hj
    rcases b6 with ⟨b7, b6⟩ | ⟨b7, b6⟩
    · refine ⟨z_st (z_st M 174 0 (nI 1)) 169 4 (nI 0), ?_, z_P_same h (z_same_st (z_same_st z_same_rfl (by omega)) (by omega))⟩
      have h9 : (z_st M 174 0 (nI 1)) (169 + 1) = M 170 := rfl
      unfold fX7_allocates
      simp (disch := first | omega | assumption) only [l_0, l_1, l_2, l_3, l_4, l_5, l_6, l_7, l_8, l_11, l_12, l_15, l_16, l_31, l_32, l_66, l_80, l_100, l_127, l_128, l_768, l_2304, l_2310, l_2316, l_2388, l_2394, l_2406, l_2418, l_2430, l_2558, l_2686, l_2814, l_2942, l_3070, l_3390, l_3394, l_3395, l_3396, l_3397, n_leT, n_leF, n_ltT, n_ltF, n_eqT, n_eqF, nI_add, pk_mul, n_sub, z_ldn, z_san, z_bs, z_b2s, z_b3s, z_ocN, z_ocS, z_oxL, z_oxR, z_scL, z_scR, ↓reduceIte, st_170, st_171, st_172, st_173, Nat.zero_add, Nat.add_zero, Nat.zero_lt_succ, true_and, and_true, eq_self, ec (nI 1) ⟨1, by decide, rfl⟩ b7]
      rw [em (z_st M 174 0 (nI 1)) rfl, z_b2s]
      simp (disch := first | omega | assumption) only [l_0, l_1, l_2, l_3, l_4, l_5, l_6, l_7, l_8, l_11, l_12, l_15, l_16, l_31, l_32, l_66, l_80, l_100, l_127, l_128, l_768, l_2304, l_2310, l_2316, l_2388, l_2394, l_2406, l_2418, l_2430, l_2558, l_2686, l_2814, l_2942, l_3070, l_3390, l_3394, l_3395, l_3396, l_3397, n_leT, n_leF, n_ltT, n_ltF, n_eqT, n_eqF, nI_add, pk_mul, n_sub, z_ldn, z_san, z_bs, z_b2s, z_b3s, z_ocN, z_ocS, z_oxL, z_oxR, z_scL, z_scR, ↓reduceIte, st_170, st_171, st_172, st_173, Nat.zero_add, Nat.add_zero, Nat.zero_lt_succ, true_and, and_true, eq_self, h9, b6, fX7_thrown, s_s, u_s, s_n, lg_self]
    · refine ⟨z_st (z_st M 174 0 (nI 0)) 169 4 (nI 0), ?_, z_P_same h (z_same_st (z_same_st z_same_rfl (by omega)) (by omega))⟩
      have h9 : (z_st M 174 0 (nI 0)) (169 + 1) = M 170 := rfl
      unfold fX7_allocates
      simp (disch := first | omega | assumption) only [l_0, l_1, l_2, l_3, l_4, l_5, l_6, l_7, l_8, l_11, l_12, l_15, l_16, l_31, l_32, l_66, l_80, l_100, l_127, l_128, l_768, l_2304, l_2310, l_2316, l_2388, l_2394, l_2406, l_2418, l_2430, l_2558, l_2686, l_2814, l_2942, l_3070, l_3390, l_3394, l_3395, l_3396, l_3397, n_leT, n_leF, n_ltT, n_ltF, n_eqT, n_eqF, nI_add, pk_mul, n_sub, z_ldn, z_san, z_bs, z_b2s, z_b3s, z_ocN, z_ocS, z_oxL, z_oxR, z_scL, z_scR, ↓reduceIte, st_170, st_171, st_172, st_173, Nat.zero_add, Nat.add_zero, Nat.zero_lt_succ, true_and, and_true, eq_self, ec (nI 0) ⟨0, by decide, rfl⟩ b7]
      rw [em (z_st M 174 0 (nI 0)) rfl, z_b2s]
      simp (disch := first | omega | assumption) only [l_0, l_1, l_2, l_3, l_4, l_5, l_6, l_7, l_8, l_11, l_12, l_15, l_16, l_31, l_32, l_66, l_80, l_100, l_127, l_128, l_768, l_2304, l_2310, l_2316, l_2388, l_2394, l_2406, l_2418, l_2430, l_2558, l_2686, l_2814, l_2942, l_3070, l_3390, l_3394, l_3395, l_3396, l_3397, n_leT, n_leF, n_ltT, n_ltF, n_eqT, n_eqF, nI_add, pk_mul, n_sub, z_ldn, z_san, z_bs, z_b2s, z_b3s, z_ocN, z_ocS, z_oxL, z_oxR, z_scL, z_scR, ↓reduceIte, st_170, st_171, st_172, st_173, Nat.zero_add, Nat.add_zero, Nat.zero_lt_succ, true_and, and_true, eq_self, h9, b6, n_ng2, fX7_thrown, s_s, u_s, s_n, lg_self]
  · refine ⟨z_st M 169 4 (nI 1), ?_, z_P_same h (z_same_st z_same_rfl (by omega))⟩
    unfold fX6_allocates
    simp (disch := first | omega | assumption) only [l_0, l_1, l_2, l_3, l_4, l_5, l_6, l_7, l_8, l_11, l_12, l_15, l_16, l_31, l_32, l_66, l_80, l_100, l_127, l_128, l_768, l_2304, l_2310, l_2316, l_2388, l_2394, l_2406, l_2418, l_2430, l_2558, l_2686, l_2814, l_2942, l_3070, l_3390, l_3394, l_3395, l_3396, l_3397, n_leT, n_leF, n_ltT, n_ltF, n_eqT, n_eqF, nI_add, pk_mul, n_sub, z_ldn, z_san, z_bs, z_b2s, z_b3s, z_ocN, z_ocS, z_oxL, z_oxR, z_scL, z_scR, ↓reduceIte, st_170, st_171, st_172, st_173, Nat.zero_add, Nat.add_zero, Nat.zero_lt_succ, true_and, and_true, eq_self, cEn_no (I_log hI) (fun r hr => (hR.2.2.2.2.1 r hr).2.1) h1]
    unfold fX7_allocates
    rw [mEn_no (N3 hN) (I_log hI) h1, z_b2s]
    simp (disch := first | omega | assumption) only [l_0, l_1, l_2, l_3, l_4, l_5, l_6, l_7, l_8, l_11, l_12, l_15, l_16, l_31, l_32, l_66, l_80, l_100, l_127, l_128, l_768, l_2304, l_2310, l_2316, l_2388, l_2394, l_2406, l_2418, l_2430, l_2558, l_2686, l_2814, l_2942, l_3070, l_3390, l_3394, l_3395, l_3396, l_3397, n_leT, n_leF, n_ltT, n_ltF, n_eqT, n_eqF, nI_add, pk_mul, n_sub, z_ldn, z_san, z_bs, z_b2s, z_b3s, z_ocN, z_ocS, z_oxL, z_oxR, z_scL, z_scR, ↓reduceIte, st_170, st_171, st_172, st_173, Nat.zero_add, Nat.add_zero, Nat.zero_lt_succ, true_and, and_true, eq_self, fX7_thrown, s_s, u_s]
