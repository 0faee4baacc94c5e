/-! ===== punch, reflink ===== -/
theorem mutOK {n : Nat} {Ho : Option (Int32 × zM)} {Mo : zM → Option (Int32 × zM)} {v : Int32} {M1 M4 : zM} (h1 : Ho = some (0, z_st M1 174 0 v)) (h2 : Mo (z_st M1 174 0 v) = some (v, M4)) (h3 : M4 169 4 = nI 0) (h4 : M4 174 0 = v) (hP : z_P (n + 1) M4) : ∃ M9, (z_b2 Ho fun x1 M2 => z_b2 (Mo M2) fun x3 M4 => (fX7_thrown 169 M4).bind fun x5 => if x5 = x1 then (if x1 = 0 then ((z_ld M4 174 1 0).bind fun x8 => if (lg_cmp (x8).toInt64 (x3).toInt64) = 0 then (some ((1 : Int32), M4)) else (some (0, M4))) else (some (1, M4))) else (some (0, M4))) = some (1, M9) ∧ z_P (n + 1) M9 := ⟨M4, chk h1 h2 h3 (fun _ => h4), hP⟩
theorem mutNo {n : Nat} {M : zM} (h : z_P n M) {Ho : Option (Int32 × zM)} {Mo : zM → Option (Int32 × zM)} {k b : Int32} (h0 : k ≠ 0) (h1 : Ho = some (k, M)) (h2 : Mo M = some (b, z_st M 169 4 k)) : ∃ M9, (z_b2 Ho fun x1 M2 => z_b2 (Mo M2) fun x3 M4 => (fX7_thrown 169 M4).bind fun x5 => if x5 = x1 then (if x1 = 0 then ((z_ld M4 174 1 0).bind fun x8 => if (lg_cmp (x8).toInt64 (x3).toInt64) = 0 then (some ((1 : Int32), M4)) else (some (0, M4))) else (some (1, M4))) else (some (0, M4))) = some (1, M9) ∧ z_P (n + 1) M9 := ro2 h (Or.inl ⟨k, b, h0, h1, h2⟩)
theorem z_P_mut {n : Nat} {M M9 : zM} {S0 S' : Nat → Nat} (hN0 : z_N (M 171) S0) (hR0 : z_R1 84 M (M 171) S0) (hI0 : z_I n S0) (hB0 : z_Bf S0 S0) (h1 : z_N (M9 170) S') (h2 : z_R1 1 M9 (M9 170) S') (h3 : z_I n S') (h4 : z_Bf S' S0) (h5 : M9 171 = M 171) (h6 : ∀ a, 84 ≤ a → a < 167 → M9 a = M a) : z_P (n + 1) M9 :=
  ⟨S', S0, h1, by rw [h5]; exact hN0, h2, by rw [h5]; exact z_R1_cg hR0 (fun k k1 k2 _ => h6 k k1 k2), z_I_mono h3, z_I_mono hI0, h4, hB0⟩
theorem z_R1_N {V : Nat} {M : zM} {N N' : Nat → Int32} {S : Nat → Nat} (h : z_R1 V M N S) (hl : ∀ r, r < 4 → S (3390 + r) ≤ 80) (h1 : ∀ k, 2430 ≤ k → k < 2558 → N' k = N k) (h2 : ∀ k, 3070 ≤ k → k < 3390 → N' k = N k) : z_R1 V M N' S :=
  ⟨h.1, h.2.1, h.2.2.1, R_sp_N h.2.2.2.1 h1, R_lg_N h.2.2.2.2.1 hl h2, h.2.2.2.2.2⟩
/-- other tables -/
theorem y_Q_tab {V n : Nat} {M M1 : zM} {N : Nat → Int32} {S S1 st : Nat → Nat} (hQ : y_Q V M N S st) (hIs : z_Is n S) (hT : z_T V M1 S1) (hS : ∀ k, 2304 ≤ k → S1 k = S k) (hf : ∀ a, a ≠ V + 3 + 4 → (∀ t, t < 18 → a ≠ V + 9 + 3 * t + 1 + 1) → M1 a = M a) : y_Q V M1 N S1 st := by
  obtain ⟨q1, q2, q3, q4, q5, q6⟩ := hQ
  have q2' := R_ds_S (S' := S1) q2 (fun d hd => (hIs.2.2.2.2.2.2.2.1 d hd).1) (fun k k1 k2 => hS k k1)
  have q3' := R_sn_S (S' := S1) q3 hIs.2.2.2.1 (fun d hd => (hIs.2.2.2.2.2.1 d hd).1) (fun k k1 k2 => hS k k1)
  have q5' := R_lg_S (S' := S1) q5 (fun r hr => hS _ (by omega))
  have q6' := R_sc_S (S' := S1) q6 (fun k k1 k2 => hS _ (by omega))
  refine ⟨hT, fun d hd => ?_, fun s hs => ?_, fun b hb => ⟨?_, ?_, ?_⟩, R_lg_cg q5' (fun r q k1 k2 => hf _ (by omega) (fun t ht => by omega)), R_sc_cg q6' (hf _ (by omega) (fun t ht => by omega))⟩
  · rw [hf _ (by omega) (fun t ht => by omega)]
    exact q2' d hd
  · unfold R_sn1
    rw [hf _ (by omega) (fun t ht => by omega)]
    exact q3' s hs
  · rw [hf _ (by omega) (fun t ht => by omega)]
    exact (q4 b hb).1
  · rw [hf _ (by omega) (fun t ht => by omega)]
    exact (q4 b hb).2.1
  · rw [hf _ (by omega) (fun t ht => by omega), hS _ (by omega)]
    exact (q4 b hb).2.2
/-- a change of tables alone: all that follows from it -/
theorem z_tabs {n : Nat} {M M1 : zM} {S S1 : Nat → Nat} (hn : n < 512) (hR : z_R1 1 M (M 170) S) (hI : z_I n S) (hT : z_T 1 M1 S1) (hS : ∀ k, 2304 ≤ k → S1 k = S k) (hold : ∀ k, k < 2304 → S1 k = 0 ∨ ∃ j, j < 2304 ∧ S j = S1 k) (hte : ∀ d, d < 6 → S (2304 + d) = 0 → ∀ p, p < 128 → S1 (128 * d + p) = 0) (hse : ∀ s, s < 12 → S (2394 + s) = 0 → ∀ p, p < 128 → S1 (768 + 128 * s + p) = 0) (hf : ∀ a, a ≠ 1 + 3 + 4 → (∀ t, t < 18 → a ≠ 1 + 9 + 3 * t + 1 + 1) → M1 a = M a) : (∃ M2, fX5_settle 1 M1 = some (nI (sumN (lostN S1) 128), M2) ∧ z_R1 1 M2 (M 170) (y_mk S1) ∧ ∀ a, a ≠ 1 + 3 + 1 → M2 a = M1 a) ∧ z_I n (y_mk S1) := by
  have hQ := y_Q_tab (z_Q_of hR hI) hI.1 hT hS hf
  have hH := z_H_of (S1 := S1) hI hold (fun k k1 k2 => hS k (by omega))
  have hIs := z_Is_S (S' := S1) hI.1 (fun k k1 k2 => hS k k1) (fun k k1 k2 => hS k (by omega))
  refine ⟨z_settle (by omega) hQ hH hIs (fun b hb => by rw [hS _ (by omega)]; exact I_bir hI b hb), z_I_mk hIs hH hT.2.2 (fun d hd => by rw [hS _ (by omega)]; exact hte d hd) (fun s hs => by rw [hS _ (by omega)]; exact hse s hs) (fun b hb => by rw [hS _ (by omega)]; exact I_p1 hI b hb) (fun b hb => by rw [hS _ (by omega)]; exact I_bir hI b hb)⟩
/-- the model, from its row with the new tables on -/
theorem m_tabs {n : Nat} {M : zM} {S S1 : Nat → Nat} (hn : n < 512) (hI : z_I n S) (hS : ∀ k, 2304 ≤ k → S1 k = S k) (ht : ∀ k, k < 2304 → S1 k ≤ 128) (hN : z_N (M 170) S1) : ∃ M', fX7_counts 169 M = some (nI (sumN (lostN S1) 128), M') ∧ z_N (M' 170) (y_mk S1) ∧ (∀ k, k < 2686 ∨ 2942 ≤ k → M' 170 k = M 170 k) ∧ ∀ a, a ≠ 170 → a ≠ 172 → M' a = M a :=
  mCo hN ht (fun b hb => by rw [hS _ (by omega)]; exact I_r2304 hI b hb) (fun b hb => by rw [hS _ (by omega)]; have := I_bir hI b hb; omega) (by rw [hS _ (by omega)]; have := (I_bnd hI).2.1; omega)
theorem n_m1e {x : Nat} (hx : x < 2 ^ 31) : (nI x = nI 0 - nI 1) = False := by
  rw [← n_m0d]
  exact n_m1c hx
theorem lost128 {S : Nat → Nat} : sumN (lostN S) 128 ≤ 128 := sumN_le (c := 1) (n := 128) (fun i _ => by unfold lostN; split <;> omega)
/-- so many from place i on, in a file -/
theorem fit_cases (a : Int32) {i : Nat} (hi : i < 16) : (∃ l, 1 ≤ l ∧ i + l ≤ 16 ∧ a = nI l) ∨ (a < nI 1 ∨ nI (16 - i) < a) := by
  rcases n_ix a (show 17 - i < 2 ^ 31 by omega) with h | h | ⟨l, hl, rfl⟩
  · exact Or.inr (Or.inl (Int32.lt_trans h (by decide)))
  · exact Or.inr (Or.inr (Int32.lt_of_lt_of_le (nI_lt (by omega) (by omega)) h))
  · by_cases q : l = 0
    · subst q
      exact Or.inr (Or.inl (by decide))
    · exact Or.inl ⟨l, by omega, by omega, rfl⟩
theorem cFt_ok {M : zM} {i l : Nat} (hi : i < 16) (h1 : 1 ≤ l) (h2 : i + l ≤ 16) : fX6_fits (nI i) (nI l) M = some (nI 1) := by
  unfold fX6_fits
  have : l ≤ 16 - i := by omega
  simp (disch := first | omega | assumption) only [l_0, l_1, l_2, l_3, l_4, l_5, l_6, l_7, l_8, l_11, l_12, l_15, l_16, l_31, l_32, l_66, l_80, l_100, l_127, l_128, l_768, l_2304, l_2310, l_2316, l_2388, l_2394, l_2406, l_2418, l_2430, l_2558, l_2686, l_2814, l_2942, l_3070, l_3390, l_3394, l_3395, l_3396, l_3397, n_leT, n_leF, n_ltT, n_ltF, n_eqT, n_eqF, nI_add, pk_mul, n_sub, z_ldn, z_san, z_bs, z_b2s, z_b3s, z_ocN, z_ocS, z_oxL, z_oxR, z_scL, z_scR, ↓reduceIte, st_170, st_171, st_172, st_173, Nat.zero_add, Nat.add_zero, Nat.zero_lt_succ, true_and, and_true, eq_self]
theorem cFt_no {M : zM} {i : Nat} {a : Int32} (hi : i < 16) (h : a < nI 1 ∨ nI (16 - i) < a) : fX6_fits (nI i) a M = some (nI 0) := by
  unfold fX6_fits
  by_cases h1 : a < nI 1
  · have h1' : (a < nI 1) = True := eq_true h1
    simp (disch := first | omega | assumption) only [l_0, l_1, l_2, l_3, l_4, l_5, l_6, l_7, l_8, l_11, l_12, l_15, l_16, l_31, l_32, l_66, l_80, l_100, l_127, l_128, l_768, l_2304, l_2310, l_2316, l_2388, l_2394, l_2406, l_2418, l_2430, l_2558, l_2686, l_2814, l_2942, l_3070, l_3390, l_3394, l_3395, l_3396, l_3397, n_leT, n_leF, n_ltT, n_ltF, n_eqT, n_eqF, nI_add, pk_mul, n_sub, z_ldn, z_san, z_bs, z_b2s, z_b3s, z_ocN, z_ocS, z_oxL, z_oxR, z_scL, z_scR, ↓reduceIte, st_170, st_171, st_172, st_173, Nat.zero_add, Nat.add_zero, Nat.zero_lt_succ, true_and, and_true, eq_self, h1']
  · have h1' : (a < nI 1) = False := eq_false h1
    have h2' : (nI (16 - i) < a) = True := eq_true (h.resolve_left h1)
    simp (disch := first | omega | assumption) only [l_0, l_1, l_2, l_3, l_4, l_5, l_6, l_7, l_8, l_11, l_12, l_15, l_16, l_31, l_32, l_66, l_80, l_100, l_127, l_128, l_768, l_2304, l_2310, l_2316, l_2388, l_2394, l_2406, l_2418, l_2430, l_2558, l_2686, l_2814, l_2942, l_3070, l_3390, l_3394, l_3395, l_3396, l_3397, n_leT, n_leF, n_ltT, n_ltF, n_eqT, n_eqF, nI_add, pk_mul, n_sub, z_ldn, z_san, z_bs, z_b2s, z_b3s, z_ocN, z_ocS, z_oxL, z_oxR, z_scL, z_scR, ↓reduceIte, st_170, st_171, st_172, st_173, Nat.zero_add, Nat.add_zero, Nat.zero_lt_succ, true_and, and_true, eq_self, h1', h2']
theorem mFt_ok {M : zM} {i l : Nat} (hi : i < 16) (h1 : 1 ≤ l) (h2 : i + l ≤ 16) : fX7_in (nI l) (nI 1) (nI (16 - i)) M = some (nI 1) := by
  unfold fX7_in
  have : l ≤ 16 - i := by omega
  simp (disch := first | omega | assumption) only [l_0, l_1, l_2, l_3, l_4, l_5, l_6, l_7, l_8, l_11, l_12, l_15, l_16, l_31, l_32, l_66, l_80, l_100, l_127, l_128, l_768, l_2304, l_2310, l_2316, l_2388, l_2394, l_2406, l_2418, l_2430, l_2558, l_2686, l_2814, l_2942, l_3070, l_3390, l_3394, l_3395, l_3396, l_3397, n_leT, n_leF, n_ltT, n_ltF, n_eqT, n_eqF, nI_add, pk_mul, n_sub, z_ldn, z_san, z_bs, z_b2s, z_b3s, z_ocN, z_ocS, z_oxL, z_oxR, z_scL, z_scR, ↓reduceIte, st_170, st_171, st_172, st_173, Nat.zero_add, Nat.add_zero, Nat.zero_lt_succ, true_and, and_true, eq_self]
theorem mFt_no {M : zM} {i : Nat} {a : Int32} (hi : i < 16) (h : a < nI 1 ∨ nI (16 - i) < a) : fX7_in a (nI 1) (nI (16 - i)) M = some (nI 0) := by
  unfold fX7_in
  by_cases h1 : a < nI 1
  · have h1' : (a < nI 1) = True := eq_true h1
    simp (disch := first | omega | assumption) only [l_0, l_1, l_2, l_3, l_4, l_5, l_6, l_7, l_8, l_11, l_12, l_15, l_16, l_31, l_32, l_66, l_80, l_100, l_127, l_128, l_768, l_2304, l_2310, l_2316, l_2388, l_2394, l_2406, l_2418, l_2430, l_2558, l_2686, l_2814, l_2942, l_3070, l_3390, l_3394, l_3395, l_3396, l_3397, n_leT, n_leF, n_ltT, n_ltF, n_eqT, n_eqF, nI_add, pk_mul, n_sub, z_ldn, z_san, z_bs, z_b2s, z_b3s, z_ocN, z_ocS, z_oxL, z_oxR, z_scL, z_scR, ↓reduceIte, st_170, st_171, st_172, st_173, Nat.zero_add, Nat.add_zero, Nat.zero_lt_succ, true_and, and_true, eq_self, h1']
  · have h1' : (a < nI 1) = False := eq_false h1
    have h2' : (nI (16 - i) < a) = True := eq_true (h.resolve_left h1)
    simp (disch := first | omega | assumption) only [l_0, l_1, l_2, l_3, l_4, l_5, l_6, l_7, l_8, l_11, l_12, l_15, l_16, l_31, l_32, l_66, l_80, l_100, l_127, l_128, l_768, l_2304, l_2310, l_2316, l_2388, l_2394, l_2406, l_2418, l_2430, l_2558, l_2686, l_2814, l_2942, l_3070, l_3390, l_3394, l_3395, l_3396, l_3397, n_leT, n_leF, n_ltT, n_ltF, n_eqT, n_eqF, nI_add, pk_mul, n_sub, z_ldn, z_san, z_bs, z_b2s, z_b3s, z_ocN, z_ocS, z_oxL, z_oxR, z_scL, z_scR, ↓reduceIte, st_170, st_171, st_172, st_173, Nat.zero_add, Nat.add_zero, Nat.zero_lt_succ, true_and, and_true, eq_self, h1', h2']
theorem mIn_some (a b c : Int32) (M : zM) : ∃ s, fX7_in a b c M = some s := by
  unfold fX7_in
  split
  · exact ⟨_, rfl⟩
  · split <;> exact ⟨_, rfl⟩
theorem op_4 {n : Nat} (hn : n < 512) {M : zM} (h : z_P n M) (a1 a2 a3 a4 a5 a6 : Int32) : ∃ M9, fL_c4 a1 a2 a3 a4 a5 a6 M = some (1, M9) ∧ z_P (n + 1) M9 := by
  obtain ⟨S, S0, hN, hN0, hR, hR0, hI, hI0, hB, hB0⟩ := id h
  unfold fL_c4 fL_punch
  have hN1 := N1 hN
  rcases ds_cases a1 (I_ex hI) with ⟨d, hd, rfl, h1⟩ | h1
  · rcases pl_cases a2 a3 with ⟨f, i, hf, hi, rfl, rfl⟩ | h2
    · rcases fit_cases a4 hi with ⟨l, l1, l2, rfl⟩ | h3
      · obtain ⟨S1, hS1⟩ : ∃ S1 : Nat → Nat, ∀ k, S1 k = if 128 * d + (16 * f + i) ≤ k ∧ k < 128 * d + (16 * f + i) + l then 0 else S k := ⟨_, fun _ => rfl⟩
        obtain ⟨v, hv⟩ : ∃ v, v = nI (sumN (fun j => if S (128 * d + (16 * f + i) + j) = 0 then 0 else 1) l) := ⟨_, rfl⟩
        have hS : ∀ k, 2304 ≤ k → S1 k = S k := fun k hk => by rw [hS1, if_neg (by omega)]
        have hQ := z_Q_of hR hI
        -- the class
        obtain ⟨r, e1, e2, e3, e4⟩ := z_loopA (f := fun s : Int32 × Int32 × zM => fX6_punch_L1 0 (nI l) (1 + 9 + 3 * d) (nI (16 * f + i)) s.1 s.2.1 s.2.2) (fun j x M' => x = nI (sumN (fun j => if S (128 * d + (16 * f + i) + j) = 0 then 0 else 1) j) ∧ (∃ T, z_T 1 M' T ∧ ∀ k, k < 2304 → T k = if 128 * d + (16 * f + i) ≤ k ∧ k < 128 * d + (16 * f + i) + j then 0 else S k) ∧ ∀ a, a ≠ 1 + 3 + 4 → a ≠ 1 + 9 + 3 * d + 1 + 1 → M' a = M a) (fun r => r.1 = v ∧ z_T 1 r.2 S1 ∧ ∀ a, a ≠ 1 + 3 + 4 → a ≠ 1 + 9 + 3 * d + 1 + 1 → r.2 a = M a) 0 l (by omega) (x := nI 0) (s := nI 0) (M := M) rfl ⟨rfl, ⟨S, hQ.1, fun k hk => by rw [if_neg (by omega)]⟩, fun _ _ _ => rfl⟩ (fun j x M' hj hI9 => by
          obtain ⟨b1, ⟨T, b2, b3⟩, b4⟩ := hI9
          subst b1
          have hp : 16 * f + i + j < 128 := by omega
          have c1 := b2.1 d (by omega) (16 * f + i + j) hp
          have c2 : T (128 * d + (16 * f + i + j)) = S (128 * d + (16 * f + i) + j) := by rw [b3 _ (by omega), if_neg (by omega)]; exact congrArg S (by omega)
          rw [c2] at c1
          have hx := I_tab hI (128 * d + (16 * f + i) + j) (by omega)
          by_cases q : S (128 * d + (16 * f + i) + j) = 0
          · refine ⟨nI (sumN (fun j => if S (128 * d + (16 * f + i) + j) = 0 then 0 else 1) j), M', ?_, ?_, ⟨T, b2, fun k hk => ?_⟩, b4⟩
            · simp (disch := first | omega | assumption) only [l_0, l_1, l_2, l_3, l_4, l_5, l_6, l_7, l_8, l_11, l_12, l_15, l_16, l_31, l_32, l_66, l_80, l_100, l_127, l_128, l_768, l_2304, l_2310, l_2316, l_2388, l_2394, l_2406, l_2418, l_2430, l_2558, l_2686, l_2814, l_2942, l_3070, l_3390, l_3394, l_3395, l_3396, l_3397, n_leT, n_leF, n_ltT, n_ltF, n_eqT, n_eqF, nI_add, pk_mul, n_sub, z_ldn, z_san, z_bs, z_b2s, z_b3s, z_ocN, z_ocS, z_oxL, z_oxR, z_scL, z_scR, ↓reduceIte, st_170, st_171, st_172, st_173, Nat.zero_add, Nat.add_zero, Nat.zero_lt_succ, true_and, and_true, eq_self, fX6_punch_L1, cBo, c1, q, n_m0b]
            · show nI (sumN _ j) = nI (sumN _ j + if S (128 * d + (16 * f + i) + j) = 0 then 0 else 1)
              rw [if_pos q]
              rfl
            · rw [b3 k hk]
              by_cases q2 : k = 128 * d + (16 * f + i) + j
              · rw [if_neg (by omega), if_pos (by omega), q2, q]
              · by_cases q3 : 128 * d + (16 * f + i) ≤ k ∧ k < 128 * d + (16 * f + i) + j
                · rw [if_pos q3, if_pos (by omega)]
                · rw [if_neg q3, if_neg (by omega)]
          · obtain ⟨M3, p1, p2, p3⟩ := cPut (x := 0) b2 (show d < 18 by omega) hp (by decide)
            refine ⟨nI (sumN (fun j => if S (128 * d + (16 * f + i) + j) = 0 then 0 else 1) j + 1), M3, ?_, ?_, ⟨_, p2, fun k hk => ?_⟩, fun a q1 q2 => by rw [p3 a q1 q2, b4 a q1 q2]⟩
            · simp (disch := first | omega | assumption) only [l_0, l_1, l_2, l_3, l_4, l_5, l_6, l_7, l_8, l_11, l_12, l_15, l_16, l_31, l_32, l_66, l_80, l_100, l_127, l_128, l_768, l_2304, l_2310, l_2316, l_2388, l_2394, l_2406, l_2418, l_2430, l_2558, l_2686, l_2814, l_2942, l_3070, l_3390, l_3394, l_3395, l_3396, l_3397, n_leT, n_leF, n_ltT, n_ltF, n_eqT, n_eqF, nI_add, pk_mul, n_sub, z_ldn, z_san, z_bs, z_b2s, z_b3s, z_ocN, z_ocS, z_oxL, z_oxR, z_scL, z_scR, ↓reduceIte, st_170, st_171, st_172, st_173, Nat.zero_add, Nat.add_zero, Nat.zero_lt_succ, true_and, and_true, eq_self, fX6_punch_L1, cBo, c1, show -nI 1 = nI 0 - nI 1 by decide, n_m1e, p1]
            · show nI (sumN _ j + 1) = nI (sumN _ j + if S (128 * d + (16 * f + i) + j) = 0 then 0 else 1)
              rw [if_neg q]
            · unfold updN
              by_cases q2 : k = 128 * d + (16 * f + i + j)
              · rw [if_pos q2, if_pos (by omega)]
              · rw [if_neg q2, b3 k hk]
                by_cases q3 : 128 * d + (16 * f + i) ≤ k ∧ k < 128 * d + (16 * f + i) + j
                · rw [if_pos q3, if_pos (by omega)]
                · rw [if_neg q3, if_neg (by omega)]) (fun x M' hI9 => by
          obtain ⟨b1, ⟨T, b2, b3⟩, b4⟩ := hI9
          exact ⟨(x, M'), by simp (disch := first | omega | assumption) only [l_0, l_1, l_2, l_3, l_4, l_5, l_6, l_7, l_8, l_11, l_12, l_15, l_16, l_31, l_32, l_66, l_80, l_100, l_127, l_128, l_768, l_2304, l_2310, l_2316, l_2388, l_2394, l_2406, l_2418, l_2430, l_2558, l_2686, l_2814, l_2942, l_3070, l_3390, l_3394, l_3395, l_3396, l_3397, n_leT, n_leF, n_ltT, n_ltF, n_eqT, n_eqF, nI_add, pk_mul, n_sub, z_ldn, z_san, z_bs, z_b2s, z_b3s, z_ocN, z_ocS, z_oxL, z_oxR, z_scL, z_scR, ↓reduceIte, st_170, st_171, st_172, st_173, Nat.zero_add, Nat.add_zero, Nat.zero_lt_succ, true_and, and_true, eq_self, fX6_punch_L1], by rw [hv]; exact b1, z_T_T b2 (fun k hk => by rw [hS1, b3 k hk]), b4⟩)
        obtain ⟨r1, M1⟩ := r
        have e2 : r1 = v := e2
        subst e2
        obtain ⟨⟨M2, g1, g2, g3⟩, g4⟩ := z_tabs (S1 := S1) hn hR hI e3 hS (fun k hk => by rw [hS1]; split; exact Or.inl rfl; exact Or.inr ⟨k, hk, rfl⟩) (fun d2 hd2 q p hp => by rw [hS1, I_te hI d2 hd2 q p hp]; split <;> rfl) (fun s hs q p hp => by rw [hS1, I_se hI s hs q p hp]; split <;> rfl) (fun a q1 q2 => e4 a q1 (q2 d (by omega)))
        -- the model
        have hM2 : M2 170 = M 170 := (g3 _ (by decide)).trans (e4 _ (by decide) (by omega))
        have hc : (z_st M2 174 0 r1) 170 = M 170 := hM2
        have hN2 := N1' hN hc
        obtain ⟨r, m1, m2, m3, m4⟩ := z_loopA (f := fun s : Int32 × Int32 × zM => fX7_punch_L1 169 (nI d) (nI f) (nI i) (nI l) s.1 s.2.1 s.2.2) (fun j x M' => x = nI (sumN (fun j => if S (128 * d + (16 * f + i) + j) = 0 then 0 else 1) j) ∧ (∀ k, M' (169 + 1) k = if 128 * d + (16 * f + i) ≤ k ∧ k < 128 * d + (16 * f + i) + j then nI 0 else M 170 k) ∧ ∀ a, a ≠ 170 → M' a = z_st (z_st M2 174 0 r1) 169 4 (nI 0) a) (fun r => r.1 = r1 ∧ (∀ k, r.2 170 k = if 128 * d + (16 * f + i) ≤ k ∧ k < 128 * d + (16 * f + i) + l then nI 0 else M 170 k) ∧ ∀ a, a ≠ 170 → r.2 a = z_st (z_st M2 174 0 r1) 169 4 (nI 0) a) 0 l (by omega) (x := nI 0) (s := nI 0) (M := z_st (z_st M2 174 0 r1) 169 4 (nI 0)) rfl ⟨rfl, fun k => by rw [if_neg (by omega)]; exact congrFun hM2 k, fun _ _ => rfl⟩ (fun j x M' hj hI9 => by
          obtain ⟨b1, b2, b3⟩ := hI9
          subst b1
          have c1 : M' (169 + 1) (128 * d + (16 * f + (i + j))) = nI (S (128 * d + (16 * f + i) + j)) := by
            rw [b2, if_neg (by omega), show 128 * d + (16 * f + (i + j)) = 128 * d + (16 * f + i) + j by omega]
            exact hN1 _ (by omega)
          have hx := I_tab hI (128 * d + (16 * f + i) + j) (by omega)
          refine ⟨nI (sumN (fun j => if S (128 * d + (16 * f + i) + j) = 0 then 0 else 1) j + if S (128 * d + (16 * f + i) + j) = 0 then 0 else 1), z_st M' (169 + 1) (128 * d + (16 * f + (i + j))) (nI 0), ?_, rfl, fun k => ?_, fun a ha => by rw [s_n ha]; exact b3 a ha⟩
          · by_cases q : S (128 * d + (16 * f + i) + j) = 0
            · simp (disch := first | omega | assumption) only [l_0, l_1, l_2, l_3, l_4, l_5, l_6, l_7, l_8, l_11, l_12, l_15, l_16, l_31, l_32, l_66, l_80, l_100, l_127, l_128, l_768, l_2304, l_2310, l_2316, l_2388, l_2394, l_2406, l_2418, l_2430, l_2558, l_2686, l_2814, l_2942, l_3070, l_3390, l_3394, l_3395, l_3396, l_3397, n_leT, n_leF, n_ltT, n_ltF, n_eqT, n_eqF, nI_add, pk_mul, n_sub, z_ldn, z_san, z_bs, z_b2s, z_b3s, z_ocN, z_ocS, z_oxL, z_oxR, z_scL, z_scR, ↓reduceIte, st_170, st_171, st_172, st_173, Nat.zero_add, Nat.add_zero, Nat.zero_lt_succ, true_and, and_true, eq_self, fX7_punch_L1, mSp, c1, q]
            · simp (disch := first | omega | assumption) only [l_0, l_1, l_2, l_3, l_4, l_5, l_6, l_7, l_8, l_11, l_12, l_15, l_16, l_31, l_32, l_66, l_80, l_100, l_127, l_128, l_768, l_2304, l_2310, l_2316, l_2388, l_2394, l_2406, l_2418, l_2430, l_2558, l_2686, l_2814, l_2942, l_3070, l_3390, l_3394, l_3395, l_3396, l_3397, n_leT, n_leF, n_ltT, n_ltF, n_eqT, n_eqF, nI_add, pk_mul, n_sub, z_ldn, z_san, z_bs, z_b2s, z_b3s, z_ocN, z_ocS, z_oxL, z_oxR, z_scL, z_scR, ↓reduceIte, st_170, st_171, st_172, st_173, Nat.zero_add, Nat.add_zero, Nat.zero_lt_succ, true_and, and_true, eq_self, fX7_punch_L1, mSp, c1, if_neg q]
          · rw [s_s]
            by_cases q2 : k = 128 * d + (16 * f + (i + j))
            · rw [q2, u_s, if_pos (by omega)]
            · rw [u_n q2, b2]
              by_cases q3 : 128 * d + (16 * f + i) ≤ k ∧ k < 128 * d + (16 * f + i) + j
              · rw [if_pos q3, if_pos (by omega)]
              · rw [if_neg q3, if_neg (by omega)]) (fun x M' hI9 => by
          obtain ⟨b1, b2, b3⟩ := hI9
          exact ⟨(x, M'), by simp (disch := first | omega | assumption) only [l_0, l_1, l_2, l_3, l_4, l_5, l_6, l_7, l_8, l_11, l_12, l_15, l_16, l_31, l_32, l_66, l_80, l_100, l_127, l_128, l_768, l_2304, l_2310, l_2316, l_2388, l_2394, l_2406, l_2418, l_2430, l_2558, l_2686, l_2814, l_2942, l_3070, l_3390, l_3394, l_3395, l_3396, l_3397, n_leT, n_leF, n_ltT, n_ltF, n_eqT, n_eqF, nI_add, pk_mul, n_sub, z_ldn, z_san, z_bs, z_b2s, z_b3s, z_ocN, z_ocS, z_oxL, z_oxR, z_scL, z_scR, ↓reduceIte, st_170, st_171, st_172, st_173, Nat.zero_add, Nat.add_zero, Nat.zero_lt_succ, true_and, and_true, eq_self, fX7_punch_L1], by show x = r1; rw [hv]; exact b1, b2, b3⟩)
        obtain ⟨r2, M3⟩ := r
        have m2 : r2 = r1 := m2
        subst m2
        have m3 : ∀ k, M3 170 k = if 128 * d + (16 * f + i) ≤ k ∧ k < 128 * d + (16 * f + i) + l then nI 0 else M 170 k := m3
        have hN3 : z_N (M3 170) S1 := ⟨fun k hk => by rw [m3, hS1]; split; rfl; exact hN.1 k hk, fun k k1 k2 => by rw [m3, hS1, if_neg (by omega), if_neg (by omega)]; exact hN.2.1 k k1 k2, fun k k1 k2 => by rw [m3, hS1, if_neg (by omega), if_neg (by omega)]; exact hN.2.2 k k1 k2⟩
        obtain ⟨M4, o1, o2, o3, o4⟩ := m_tabs hn hI hS e3.2.2 hN3
        have hfr : ∀ a, a ≠ 170 → a ≠ 172 → a ≠ 169 → a ≠ 174 → M4 a = M2 a := fun a q1 q2 q3 q4 => by rw [o4 a q1 q2, (show M3 a = _ from m4 a q1), s_n q3, s_n q4]
        have hl128 := lost128 (S := S1)
        refine mutOK (M1 := M2) (v := r2) (M4 := M4) ?_ ?_ ?_ ?_ (z_P_mut hN0 hR0 hI0 hB0 o2 ?_ g4 ?_ ?_ ?_)
        · unfold fX6_punch
          simp (disch := first | omega | assumption) only [l_0, l_1, l_2, l_3, l_4, l_5, l_6, l_7, l_8, l_11, l_12, l_15, l_16, l_31, l_32, l_66, l_80, l_100, l_127, l_128, l_768, l_2304, l_2310, l_2316, l_2388, l_2394, l_2406, l_2418, l_2430, l_2558, l_2686, l_2814, l_2942, l_3070, l_3390, l_3394, l_3395, l_3396, l_3397, n_leT, n_leF, n_ltT, n_ltF, n_eqT, n_eqF, nI_add, pk_mul, n_sub, z_ldn, z_san, z_bs, z_b2s, z_b3s, z_ocN, z_ocS, z_oxL, z_oxR, z_scL, z_scR, ↓reduceIte, st_170, st_171, st_172, st_173, Nat.zero_add, Nat.add_zero, Nat.zero_lt_succ, true_and, and_true, eq_self, cDs_ok hR.2.1 hd h1, z_gdp (kd1_ds hd), cPl_ok hf hi, cFt_ok hi l1 l2, e1, g1]
        · unfold fX7_punch
          simp (disch := first | omega | assumption) only [l_0, l_1, l_2, l_3, l_4, l_5, l_6, l_7, l_8, l_11, l_12, l_15, l_16, l_31, l_32, l_66, l_80, l_100, l_127, l_128, l_768, l_2304, l_2310, l_2316, l_2388, l_2394, l_2406, l_2418, l_2430, l_2558, l_2686, l_2814, l_2942, l_3070, l_3390, l_3394, l_3395, l_3396, l_3397, n_leT, n_leF, n_ltT, n_ltF, n_eqT, n_eqF, nI_add, pk_mul, n_sub, z_ldn, z_san, z_bs, z_b2s, z_b3s, z_ocN, z_ocS, z_oxL, z_oxR, z_scL, z_scR, ↓reduceIte, st_170, st_171, st_172, st_173, Nat.zero_add, Nat.add_zero, Nat.zero_lt_succ, true_and, and_true, eq_self, mSet_ok hN2 hd h1, mSpot_ok hf hi, mFt_ok hi l1 l2, mFits0, m1, o1]
        · rw [o4 _ (by decide) (by decide), show M3 169 = _ from m4 169 (by decide), s_s, u_s]
        · rw [o4 _ (by decide) (by decide), show M3 174 = _ from m4 174 (by decide), s_n (by decide), s_s, u_s]
        · refine z_R1_N (N := M 170) (z_R1_cg g2 (fun k k1 k2 _ => hfr k (by omega) (by omega) (by omega) (by omega))) (fun r hr => by rw [y_mk_o (by omega), hS _ (by omega)]; have := I_log hI r hr; omega) (fun k k1 k2 => ?_) (fun k k1 k2 => ?_)
          · rw [o3 k (by omega), m3, if_neg (by omega)]
          · rw [o3 k (by omega), m3, if_neg (by omega)]
        · intro b hb
          rw [y_mk_o (by omega), hS _ (by omega)]
          exact hB b hb
        · rw [hfr _ (by decide) (by decide) (by decide) (by decide), g3 _ (by decide), e4 _ (by decide) (by omega)]
        · intro a a1 a2
          rw [hfr _ (by omega) (by omega) (by omega) (by omega), g3 _ (by omega), e4 _ (by omega) (by omega)]
      · refine mutNo h (k := nI 2) (b := nI 0) (by decide) ?_ ?_
        · unfold fX6_punch
          simp (disch := first | omega | assumption) only [l_0, l_1, l_2, l_3, l_4, l_5, l_6, l_7, l_8, l_11, l_12, l_15, l_16, l_31, l_32, l_66, l_80, l_100, l_127, l_128, l_768, l_2304, l_2310, l_2316, l_2388, l_2394, l_2406, l_2418, l_2430, l_2558, l_2686, l_2814, l_2942, l_3070, l_3390, l_3394, l_3395, l_3396, l_3397, n_leT, n_leF, n_ltT, n_ltF, n_eqT, n_eqF, nI_add, pk_mul, n_sub, z_ldn, z_san, z_bs, z_b2s, z_b3s, z_ocN, z_ocS, z_oxL, z_oxR, z_scL, z_scR, ↓reduceIte, st_170, st_171, st_172, st_173, Nat.zero_add, Nat.add_zero, Nat.zero_lt_succ, true_and, and_true, eq_self, cDs_ok hR.2.1 hd h1, z_gdp (kd1_ds hd), cPl_ok hf hi, cFt_no hi h3]
          rfl
        · unfold fX7_punch
          simp (disch := first | omega | assumption) only [l_0, l_1, l_2, l_3, l_4, l_5, l_6, l_7, l_8, l_11, l_12, l_15, l_16, l_31, l_32, l_66, l_80, l_100, l_127, l_128, l_768, l_2304, l_2310, l_2316, l_2388, l_2394, l_2406, l_2418, l_2430, l_2558, l_2686, l_2814, l_2942, l_3070, l_3390, l_3394, l_3395, l_3396, l_3397, n_leT, n_leF, n_ltT, n_ltF, n_eqT, n_eqF, nI_add, pk_mul, n_sub, z_ldn, z_san, z_bs, z_b2s, z_b3s, z_ocN, z_ocS, z_oxL, z_oxR, z_scL, z_scR, ↓reduceIte, st_170, st_171, st_172, st_173, Nat.zero_add, Nat.add_zero, Nat.zero_lt_succ, true_and, and_true, eq_self, mSet_ok hN1 hd h1, mSpot_ok hf hi, mFt_no hi h3, mFits2]
    · refine mutNo h (k := nI 1) (b := nI 0) (by decide) ?_ ?_
      · unfold fX6_punch
        simp (disch := first | omega | assumption) only [l_0, l_1, l_2, l_3, l_4, l_5, l_6, l_7, l_8, l_11, l_12, l_15, l_16, l_31, l_32, l_66, l_80, l_100, l_127, l_128, l_768, l_2304, l_2310, l_2316, l_2388, l_2394, l_2406, l_2418, l_2430, l_2558, l_2686, l_2814, l_2942, l_3070, l_3390, l_3394, l_3395, l_3396, l_3397, n_leT, n_leF, n_ltT, n_ltF, n_eqT, n_eqF, nI_add, pk_mul, n_sub, z_ldn, z_san, z_bs, z_b2s, z_b3s, z_ocN, z_ocS, z_oxL, z_oxR, z_scL, z_scR, ↓reduceIte, st_170, st_171, st_172, st_173, Nat.zero_add, Nat.add_zero, Nat.zero_lt_succ, true_and, and_true, eq_self, cDs_ok hR.2.1 hd h1, z_gdp (kd1_ds hd), cPl_no h2]
      · obtain ⟨s, hs⟩ := mIn_some a4 (nI 1) (nI 16 - a3) M
        unfold fX7_punch
        simp (disch := first | omega | assumption) only [l_0, l_1, l_2, l_3, l_4, l_5, l_6, l_7, l_8, l_11, l_12, l_15, l_16, l_31, l_32, l_66, l_80, l_100, l_127, l_128, l_768, l_2304, l_2310, l_2316, l_2388, l_2394, l_2406, l_2418, l_2430, l_2558, l_2686, l_2814, l_2942, l_3070, l_3390, l_3394, l_3395, l_3396, l_3397, n_leT, n_leF, n_ltT, n_ltF, n_eqT, n_eqF, nI_add, pk_mul, n_sub, z_ldn, z_san, z_bs, z_b2s, z_b3s, z_ocN, z_ocS, z_oxL, z_oxR, z_scL, z_scR, ↓reduceIte, st_170, st_171, st_172, st_173, Nat.zero_add, Nat.add_zero, Nat.zero_lt_succ, true_and, and_true, eq_self, mSet_ok hN1 hd h1, mSpot_no h2, hs, mFits1]
  · refine mutNo h (k := nI 1) (b := nI 0) (by decide) ?_ ?_
    · unfold fX6_punch
      simp (disch := first | omega | assumption) only [l_0, l_1, l_2, l_3, l_4, l_5, l_6, l_7, l_8, l_11, l_12, l_15, l_16, l_31, l_32, l_66, l_80, l_100, l_127, l_128, l_768, l_2304, l_2310, l_2316, l_2388, l_2394, l_2406, l_2418, l_2430, l_2558, l_2686, l_2814, l_2942, l_3070, l_3390, l_3394, l_3395, l_3396, l_3397, n_leT, n_leF, n_ltT, n_ltF, n_eqT, n_eqF, nI_add, pk_mul, n_sub, z_ldn, z_san, z_bs, z_b2s, z_b3s, z_ocN, z_ocS, z_oxL, z_oxR, z_scL, z_scR, ↓reduceIte, st_170, st_171, st_172, st_173, Nat.zero_add, Nat.add_zero, Nat.zero_lt_succ, true_and, and_true, eq_self, cDs_no hR.2.1 h1]
    · obtain ⟨s, hs⟩ := mIn_some a4 (nI 1) (nI 16 - a3) M
      unfold fX7_punch
      simp (disch := first | omega | assumption) only [l_0, l_1, l_2, l_3, l_4, l_5, l_6, l_7, l_8, l_11, l_12, l_15, l_16, l_31, l_32, l_66, l_80, l_100, l_127, l_128, l_768, l_2304, l_2310, l_2316, l_2388, l_2394, l_2406, l_2418, l_2430, l_2558, l_2686, l_2814, l_2942, l_3070, l_3390, l_3394, l_3395, l_3396, l_3397, n_leT, n_leF, n_ltT, n_ltF, n_eqT, n_eqF, nI_add, pk_mul, n_sub, z_ldn, z_san, z_bs, z_b2s, z_b3s, z_ocN, z_ocS, z_oxL, z_oxR, z_scL, z_scR, ↓reduceIte, st_170, st_171, st_172, st_173, Nat.zero_add, Nat.add_zero, Nat.zero_lt_succ, true_and, and_true, eq_self, mSet_no hN1 h1, hs, mFits1]
