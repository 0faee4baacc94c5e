/-! ===== destroy, makeClone ===== -/
theorem z_pz0 {M : zM} {k j : Nat} : z_pz M k j (nI 0) = some (z_st M k j (nI 0)) := z_pzn (Or.inl rfl)
theorem z_pz1 {M : zM} {k j : Nat} : z_pz M k j (nI 1) = some (z_st M k j (nI 1)) := z_pzn (Or.inr rfl)
theorem z_Is_gen {n : Nat} {S S1 : Nat → Nat} (h : z_Is n S) (hc : ∀ k, 2316 ≤ k → S1 k = S k) (g1 : ∀ d, d < 6 → S1 (2304 + d) ≤ 1) (g2 : ∃ d, d < 6 ∧ S1 (2304 + d) = 1) (g3 : ∀ d, d < 6 → S1 (2304 + d) = 0 → S1 (2310 + d) = 0 ∧ S (2388 + d) = 0) (g8 : ∀ d, d < 6 → S1 (2310 + d) ≤ 12 ∧ (S1 (2310 + d) ≠ 0 → S (2394 + (S1 (2310 + d) - 1)) ≠ 0 ∧ ∀ r, r < S (2388 + d) → S (2394 + (S1 (2310 + d) - 1)) < S (2394 + z_ord S d r))) : z_Is n S1 := by
  obtain ⟨i1, i2, i3, i4, i5, i6, i7, i8, i9, j1, j2, j3, j5⟩ := h
  have eo : ∀ d r, z_ord S1 d r = z_ord S d r := fun d r => hc _ (by omega)
  refine ⟨g1, g2, fun d hd q => ?_, fun s hs => ?_, fun s t hs ht => ?_, fun d hd => ?_, fun d hd r q hr hq => ?_, fun d hd => ?_, fun r hr => ?_, ?_, ?_, ?_, fun s hs => ?_⟩
  · rw [hc (2388 + d) (by omega)]
    exact g3 d hd q
  · rw [hc (2394 + s) (by omega)]
    intro q
    obtain ⟨q1, q2, q3, r, q4, q5⟩ := i4 s hs q
    refine ⟨by rw [hc (2394 + s) (by omega), hc 3394 (by omega)]; exact q1, by rw [hc (2418 + s) (by omega)]; exact q2, ?_, r, by rw [hc (2418 + s) (by omega), hc (2388 + S (2418 + s)) (by omega)]; exact q4, by rw [hc (2418 + s) (by omega), eo]; exact q5⟩
    rw [hc (2418 + s) (by omega)]
    have c1 := g1 _ q2
    by_cases c2 : S1 (2304 + S (2418 + s)) = 0
    · have c3 := (g3 _ q2 c2).2
      omega
    · omega
  · rw [hc (2394 + s) (by omega), hc (2394 + t) (by omega)]
    exact i5 s t hs ht
  · rw [hc (2388 + d) (by omega)]
    refine ⟨(i6 d hd).1, fun r hr => ?_⟩
    rw [eo, hc (2394 + z_ord S d r) (by omega), hc (2418 + z_ord S d r) (by omega)]
    exact (i6 d hd).2 r hr
  · rw [hc (2388 + d) (by omega)] at hq
    rw [eo, eo, hc (2394 + z_ord S d r) (by omega), hc (2394 + z_ord S d q) (by omega)]
    exact i7 d hd r q hr hq
  · refine ⟨(g8 d hd).1, fun q => ?_⟩
    rw [hc (2388 + d) (by omega), hc (2394 + (S1 (2310 + d) - 1)) (by omega)]
    refine ⟨((g8 d hd).2 q).1, fun r hr => ?_⟩
    rw [eo, hc (2394 + z_ord S d r) (by omega)]
    exact ((g8 d hd).2 q).2 r hr
  · rw [hc _ (by omega)]
    exact i9 r hr
  · rw [hc _ (by omega)]
    exact j1
  · rw [hc _ (by omega)]
    exact j2
  · rw [hc _ (by omega)]
    exact j3
  · rw [hc _ (by omega)]
    exact j5 s hs
theorem cCd {M : zM} {S : Nat → Nat} (hR : R_ds 1 M S) (hx : ∀ d, d < 6 → S (2304 + d) ≤ 1) : fX5_countDatasets 1 M = some (nI (sumN (fun d => S (2304 + d)) 6)) := by
  unfold fX5_countDatasets
  rw [z_loopS (f := fun s : Int32 × Int32 => fX5_countDatasets_L1 1 M s.1 s.2) (fun d => S (2304 + d)) 0 6 (by decide) (s := (0, 0)) rfl (fun i x hi => by
    have q := hx i hi
    have e := z_lq11 (V := 1) hi
    by_cases q2 : S (2304 + i) = 0
    · simp (disch := first | omega | assumption) only [l_0, l_1, l_2, l_3, l_4, l_5, l_6, l_7, l_8, l_11, l_12, l_15, l_16, l_31, l_32, l_66, l_80, l_100, l_127, l_128, l_768, l_2304, l_2310, l_2316, l_2388, l_2394, l_2406, l_2418, l_2430, l_2558, l_2686, l_2814, l_2942, l_3070, l_3390, l_3394, l_3395, l_3396, l_3397, n_leT, n_leF, n_ltT, n_ltF, n_eqT, n_eqF, nI_add, pk_mul, n_sub, z_ldn, z_san, z_bs, z_b2s, z_b3s, z_ocN, z_ocS, z_oxL, z_oxR, z_scL, z_scR, ↓reduceIte, st_170, st_171, st_172, st_173, Nat.zero_add, Nat.add_zero, Nat.zero_lt_succ, true_and, and_true, eq_self, fX5_countDatasets_L1, e, (hR i hi).1, q2]
    · have q3 : S (2304 + i) = 1 := by omega
      simp (disch := first | omega | assumption) only [l_0, l_1, l_2, l_3, l_4, l_5, l_6, l_7, l_8, l_11, l_12, l_15, l_16, l_31, l_32, l_66, l_80, l_100, l_127, l_128, l_768, l_2304, l_2310, l_2316, l_2388, l_2394, l_2406, l_2418, l_2430, l_2558, l_2686, l_2814, l_2942, l_3070, l_3390, l_3394, l_3395, l_3396, l_3397, n_leT, n_leF, n_ltT, n_ltF, n_eqT, n_eqF, nI_add, pk_mul, n_sub, z_ldn, z_san, z_bs, z_b2s, z_b3s, z_ocN, z_ocS, z_oxL, z_oxR, z_scL, z_scR, ↓reduceIte, st_170, st_171, st_172, st_173, Nat.zero_add, Nat.add_zero, Nat.zero_lt_succ, true_and, and_true, eq_self, fX5_countDatasets_L1, e, (hR i hi).1, q3]) (fun x => by simp (disch := first | omega | assumption) only [l_0, l_1, l_2, l_3, l_4, l_5, l_6, l_7, l_8, l_11, l_12, l_15, l_16, l_31, l_32, l_66, l_80, l_100, l_127, l_128, l_768, l_2304, l_2310, l_2316, l_2388, l_2394, l_2406, l_2418, l_2430, l_2558, l_2686, l_2814, l_2942, l_3070, l_3390, l_3394, l_3395, l_3396, l_3397, n_leT, n_leF, n_ltT, n_ltF, n_eqT, n_eqF, nI_add, pk_mul, n_sub, z_ldn, z_san, z_bs, z_b2s, z_b3s, z_ocN, z_ocS, z_oxL, z_oxR, z_scL, z_scR, ↓reduceIte, st_170, st_171, st_172, st_173, Nat.zero_add, Nat.add_zero, Nat.zero_lt_succ, true_and, and_true, eq_self, fX5_countDatasets_L1])]
  simp (disch := first | omega | assumption) only [l_0, l_1, l_2, l_3, l_4, l_5, l_6, l_7, l_8, l_11, l_12, l_15, l_16, l_31, l_32, l_66, l_80, l_100, l_127, l_128, l_768, l_2304, l_2310, l_2316, l_2388, l_2394, l_2406, l_2418, l_2430, l_2558, l_2686, l_2814, l_2942, l_3070, l_3390, l_3394, l_3395, l_3396, l_3397, n_leT, n_leF, n_ltT, n_ltF, n_eqT, n_eqF, nI_add, pk_mul, n_sub, z_ldn, z_san, z_bs, z_b2s, z_b3s, z_ocN, z_ocS, z_oxL, z_oxR, z_scL, z_scR, ↓reduceIte, st_170, st_171, st_172, st_173, Nat.zero_add, Nat.add_zero, Nat.zero_lt_succ, true_and, and_true, eq_self]
theorem mCs {M : zM} {S : Nat → Nat} (hN : ∀ k, k < 2430 → M (169 + 1) k = nI (S k)) : fX7_countSets 169 M = some (nI (sumN (fun d => S (2304 + d)) 6)) := by
  unfold fX7_countSets
  rw [z_loopS (f := fun s : Int32 × Int32 => fX7_countSets_L1 169 M s.1 s.2) (fun d => S (2304 + d)) 0 6 (by decide) (s := (0, 0)) rfl (fun i x hi => by
    simp (disch := first | omega | assumption) only [l_0, l_1, l_2, l_3, l_4, l_5, l_6, l_7, l_8, l_11, l_12, l_15, l_16, l_31, l_32, l_66, l_80, l_100, l_127, l_128, l_768, l_2304, l_2310, l_2316, l_2388, l_2394, l_2406, l_2418, l_2430, l_2558, l_2686, l_2814, l_2942, l_3070, l_3390, l_3394, l_3395, l_3396, l_3397, n_leT, n_leF, n_ltT, n_ltF, n_eqT, n_eqF, nI_add, pk_mul, n_sub, z_ldn, z_san, z_bs, z_b2s, z_b3s, z_ocN, z_ocS, z_oxL, z_oxR, z_scL, z_scR, ↓reduceIte, st_170, st_171, st_172, st_173, Nat.zero_add, Nat.add_zero, Nat.zero_lt_succ, true_and, and_true, eq_self, fX7_countSets_L1, hN]) (fun x => by simp (disch := first | omega | assumption) only [l_0, l_1, l_2, l_3, l_4, l_5, l_6, l_7, l_8, l_11, l_12, l_15, l_16, l_31, l_32, l_66, l_80, l_100, l_127, l_128, l_768, l_2304, l_2310, l_2316, l_2388, l_2394, l_2406, l_2418, l_2430, l_2558, l_2686, l_2814, l_2942, l_3070, l_3390, l_3394, l_3395, l_3396, l_3397, n_leT, n_leF, n_ltT, n_ltF, n_eqT, n_eqF, nI_add, pk_mul, n_sub, z_ldn, z_san, z_bs, z_b2s, z_b3s, z_ocN, z_ocS, z_oxL, z_oxR, z_scL, z_scR, ↓reduceIte, st_170, st_171, st_172, st_173, Nat.zero_add, Nat.add_zero, Nat.zero_lt_succ, true_and, and_true, eq_self, fX7_countSets_L1])]
  simp (disch := first | omega | assumption) only [l_0, l_1, l_2, l_3, l_4, l_5, l_6, l_7, l_8, l_11, l_12, l_15, l_16, l_31, l_32, l_66, l_80, l_100, l_127, l_128, l_768, l_2304, l_2310, l_2316, l_2388, l_2394, l_2406, l_2418, l_2430, l_2558, l_2686, l_2814, l_2942, l_3070, l_3390, l_3394, l_3395, l_3396, l_3397, n_leT, n_leF, n_ltT, n_ltF, n_eqT, n_eqF, nI_add, pk_mul, n_sub, z_ldn, z_san, z_bs, z_b2s, z_b3s, z_ocN, z_ocS, z_oxL, z_oxR, z_scL, z_scR, ↓reduceIte, st_170, st_171, st_172, st_173, Nat.zero_add, Nat.add_zero, Nat.zero_lt_succ, true_and, and_true, eq_self]
theorem sum6 {S : Nat → Nat} (hx : ∀ d, d < 6 → S (2304 + d) ≤ 1) : sumN (fun d => S (2304 + d)) 6 ≤ 6 := sumN_le (c := 1) (n := 6) hx
theorem sum6_1 {S : Nat → Nat} {d : Nat} (hx : ∀ d, d < 6 → S (2304 + d) ≤ 1) (hd : d < 6) (h1 : S (2304 + d) = 1) : 1 ≤ sumN (fun d => S (2304 + d)) 6 := by
  have := sumN_ge (g := fun d => S (2304 + d)) (n := 6) hd
  have e : (fun d => S (2304 + d)) d = 1 := h1
  omega
theorem sum6_2 {S : Nat → Nat} {d : Nat} (hx : ∀ d, d < 6 → S (2304 + d) ≤ 1) (hd : d < 6) (h1 : S (2304 + d) = 1) (h : sumN (fun d => S (2304 + d)) 6 ≠ 1) : ∃ d2, d2 < 6 ∧ d2 ≠ d ∧ S (2304 + d2) = 1 := by
  by_cases q : ∃ d2, d2 < 6 ∧ d2 ≠ d ∧ S (2304 + d2) = 1
  · exact q
  · exfalso
    have e := sumN_ch (g := fun d => S (2304 + d)) (g' := fun _ => 0) (k := d) (n := 6) hd (fun i hi hne => by
      have := hx i hi
      by_cases c : S (2304 + i) = 1
      · exact absurd ⟨i, hi, hne, c⟩ q
      · show 0 = S (2304 + i)
        omega)
    have e0 : sumN (fun _ => 0) 6 = 0 := sumN_0 (fun _ _ => rfl)
    rw [e0] at e
    have e1 : (fun d => S (2304 + d)) d = 1 := h1
    omega
theorem op_23 {n : Nat} (hn : n < 512) {M : zM} (h : z_P n M) (a1 a2 a3 a4 a5 a6 : Int32) : ∃ M9, fL_c23 a1 a2 a3 a4 a5 a6 M = some (1, M9) ∧ z_P (n + 1) M9 := by
  obtain ⟨S, S0, hN, hN0, hR, hR0, hI, hI0, hB, hB0⟩ := id h
  unfold fL_c23 fL_destroy
  have hN1 := N1 hN
  rcases ds_cases a1 (I_ex hI) with ⟨d, hd, rfl, h1⟩ | h1
  · have hc12 := (I_ord hI d hd).1
    have hs6 := sum6 (I_ex hI)
    have hs1 := sum6_1 (I_ex hI) hd h1
    by_cases h2 : S (2388 + d) = 0
    · by_cases h3 : sumN (fun d => S (2304 + d)) 6 = 1
      · refine mutNo h (k := nI 2) (b := nI 0) (by decide) ?_ ?_
        · unfold fX6_destroy
          simp (disch := first | omega | assumption) only [l_0, l_1, l_2, l_3, l_4, l_5, l_6, l_7, l_8, l_11, l_12, l_15, l_16, l_31, l_32, l_66, l_80, l_100, l_127, l_128, l_768, l_2304, l_2310, l_2316, l_2388, l_2394, l_2406, l_2418, l_2430, l_2558, l_2686, l_2814, l_2942, l_3070, l_3390, l_3394, l_3395, l_3396, l_3397, n_leT, n_leF, n_ltT, n_ltF, n_eqT, n_eqF, nI_add, pk_mul, n_sub, z_ldn, z_san, z_bs, z_b2s, z_b3s, z_ocN, z_ocS, z_oxL, z_oxR, z_scL, z_scR, ↓reduceIte, st_170, st_171, st_172, st_173, Nat.zero_add, Nat.add_zero, Nat.zero_lt_succ, true_and, and_true, eq_self, cDs_ok hR.2.1 hd h1, z_gdp (kd1_ds hd), cSo hR.2.2.1 hI hd, h2, cCd hR.2.1 (I_ex hI), h3]
          rfl
        · unfold fX7_destroy
          simp (disch := first | omega | assumption) only [l_0, l_1, l_2, l_3, l_4, l_5, l_6, l_7, l_8, l_11, l_12, l_15, l_16, l_31, l_32, l_66, l_80, l_100, l_127, l_128, l_768, l_2304, l_2310, l_2316, l_2388, l_2394, l_2406, l_2418, l_2430, l_2558, l_2686, l_2814, l_2942, l_3070, l_3390, l_3394, l_3395, l_3396, l_3397, n_leT, n_leF, n_ltT, n_ltF, n_eqT, n_eqF, nI_add, pk_mul, n_sub, z_ldn, z_san, z_bs, z_b2s, z_b3s, z_ocN, z_ocS, z_oxL, z_oxR, z_scL, z_scR, ↓reduceIte, st_170, st_171, st_172, st_173, Nat.zero_add, Nat.add_zero, Nat.zero_lt_succ, true_and, and_true, eq_self, mSet_ok hN1 hd h1, hN1, h2, mCs hN1, h3, mFits2]
      · -- it is destroyed
        obtain ⟨S1, hS1⟩ : ∃ S1 : Nat → Nat, S1 = rngN (updN (updN S (2304 + d) 0) (2310 + d) 0) (128 * d) 128 (fun _ => 0) := ⟨_, rfl⟩
        have sT : ∀ k, k < 2304 → S1 k = if 128 * d ≤ k ∧ k < 128 * d + 128 then 0 else S k := fun k hk => by
          rw [hS1]
          by_cases q : 128 * d ≤ k ∧ k < 128 * d + 128
          · rw [rng_in q.1 q.2, if_pos q]
          · rw [rng_out (by omega), if_neg q, upN_n (by omega), upN_n (by omega)]
        have sE : S1 (2304 + d) = 0 := by rw [hS1, rng_out (by omega), upN_n (by omega), upN_s]
        have sO : S1 (2310 + d) = 0 := by rw [hS1, rng_out (by omega), upN_s]
        have sR : ∀ k, 2304 ≤ k → k ≠ 2304 + d → k ≠ 2310 + d → S1 k = S k := fun k k1 k2 k3 => by rw [hS1, rng_out (by omega), upN_n k3, upN_n k2]
        obtain ⟨d2, hd2, hne2, hx2⟩ := sum6_2 (I_ex hI) hd h1 h3
        have hIs1 : z_Is n S1 := z_Is_gen hI.1 (fun k hk => sR k (by omega) (by omega) (by omega)) (fun d' hd' => by
            by_cases q : d' = d
            · rw [q, sE]
              decide
            · rw [sR _ (by omega) (by omega) (by omega)]
              exact I_ex hI d' hd') ⟨d2, hd2, by rw [sR _ (by omega) (by omega) (by omega)]; exact hx2⟩ (fun d' hd' q2 => by
            by_cases q : d' = d
            · rw [q]
              exact ⟨sO, h2⟩
            · rw [sR _ (by omega) (by omega) (by omega)] at q2 ⊢
              exact I_emp hI d' hd' q2) (fun d' hd' => by
            by_cases q : d' = d
            · rw [q, sO]
              exact ⟨by decide, fun c => absurd rfl c⟩
            · rw [sR _ (by omega) (by omega) (by omega)]
              exact I_ori hI d' hd')
        have hQ := z_Q_of hR hI
        obtain ⟨M1, e1, e2, e3⟩ := cClr hQ.1 (show d < 18 by omega)
        obtain ⟨Md, hMd⟩ : ∃ Md, Md = z_st (z_st M1 (1 + 9 + 3 * d) 1 (nI 0)) (1 + 9 + 3 * d) 2 (-nI 1) := ⟨_, rfl⟩
        have fMd : ∀ a, a ≠ 1 + 9 + 3 * d → Md a = M1 a := fun a ha => by rw [hMd, s_n ha, s_n ha]
        have fM : ∀ a, a ≠ 1 + 3 + 4 → a ≠ 1 + 9 + 3 * d + 1 + 1 → a ≠ 1 + 9 + 3 * d → Md a = M a := fun a q1 q2 q3 => by rw [fMd a q3, e3 a q1 q2]
        have hQ1 : y_Q 1 Md (M 170) S1 (z_sta S) := y_Q_gen hQ (z_T_T (z_T_cg e2 (fMd _ (by omega)) (fun t ht => fMd _ (by omega))) (fun k hk => by rw [sT k hk]; rfl)) (fun d' hd' => by
            by_cases q : d' = d
            · rw [q, hMd, s_s, u_n (by decide), s_s, u_s, u_s, sE]
              refine ⟨rfl, ?_⟩
              unfold z_onum
              rw [if_pos sO]
              exact n_m0d
            · have ho : z_onum S1 d' = z_onum S d' := by
                have := (I_ori hI d' hd').1
                unfold z_onum
                rw [sR _ (by omega) (by omega) (by omega), sR (2394 + _) (by omega) (by omega) (by omega)]
              rw [fM _ (by omega) (by omega) (by omega), ho, sR _ (by omega) (by omega) (by omega)]
              exact hR.2.1 d' hd') (R_sn_S2 (R_sn_cg hR.2.2.1 (fun k k1 k2 => fM k (by omega) (by omega) (by omega))) hI.1.2.2.2.1 (fun d hd => (I_ord hI d hd).1) (fun k k1 k2 => sR k (by omega) (by omega) (by omega))) (R_sc_S (R_sc_cg hR.2.2.2.2.2 (fM _ (by omega) (by omega) (by omega))) (fun k k1 k2 => sR k (by omega) (by omega) (by omega))) (fun k k1 k2 => sR k (by omega) (by omega) (by omega)) (fun a k1 k2 => fM a (by omega) (by omega) (by omega)) (fun a k1 k2 => fM a (by omega) (by omega) (by omega))
        have sK : ∀ k, 2316 ≤ k → S1 k = S k := fun k hk => sR k (by omega) (by omega) (by omega)
        obtain ⟨⟨M2, g1, g2, g3⟩, g4⟩ := z_set2 hn hQ1 hI hIs1 (fun k hk => by
            rw [sT k hk]
            split
            · exact Or.inl rfl
            · exact Or.inr ⟨k, hk, rfl⟩) (fun d' hd' q p hp => by
            rw [sT _ (by omega)]
            split
            · rfl
            · by_cases c : d' = d
              · omega
              · rw [sR _ (by omega) (by omega) (by omega)] at q
                exact I_te hI d' hd' q p hp) (fun s hs q p hp => by
            rw [sT _ (by omega), if_neg (by omega)]
            rw [sK _ (by omega)] at q
            exact I_se hI s hs q p hp) (fun k k1 k2 => sK k (by omega))
        obtain ⟨v, hv⟩ : ∃ v, v = nI (sumN (lostN S1) 128) := ⟨_, rfl⟩
        rw [← hv] at g1
        -- the model
        have hM2 : M2 170 = M 170 := (g3 _ (by decide)).trans (fM _ (by decide) (by omega) (by omega))
        have hN2 := N1' hN (show (z_st M2 174 0 v) 170 = M 170 from hM2)
        obtain ⟨Mu, hMu⟩ : ∃ Mu, Mu = z_st (z_st (z_st (z_st M2 174 0 v) 169 4 (nI 0)) (169 + 1) (2304 + d) (nI 0)) (169 + 1) (2310 + d) (nI 0) := ⟨_, rfl⟩
        have rMu : Mu 170 = upd (upd (M 170) (2304 + d) (nI 0)) (2310 + d) (nI 0) := by
          rw [hMu, show (170 : Nat) = 169 + 1 from rfl, s_s, s_s, st_170, s_n (by decide)]
          exact congrArg (fun x => upd (upd x (2304 + d) (nI 0)) (2310 + d) (nI 0)) hM2
        obtain ⟨M3, u1, u2, u3⟩ := z_loopR (f := fun s : Int32 × zM => fX7_destroy_L1 169 (nI d) s.1 s.2) (169 + 1) (128 * d) 0 128 (fun _ => nI 0) (by decide) (s := nI 0) (M := Mu) rfl (fun j M' hj _ _ => by simp (disch := first | omega | assumption) only [l_0, l_1, l_2, l_3, l_4, l_5, l_6, l_7, l_8, l_11, l_12, l_15, l_16, l_31, l_32, l_66, l_80, l_100, l_127, l_128, l_768, l_2304, l_2310, l_2316, l_2388, l_2394, l_2406, l_2418, l_2430, l_2558, l_2686, l_2814, l_2942, l_3070, l_3390, l_3394, l_3395, l_3396, l_3397, n_leT, n_leF, n_ltT, n_ltF, n_eqT, n_eqF, nI_add, pk_mul, n_sub, z_ldn, z_san, z_bs, z_b2s, z_b3s, z_ocN, z_ocS, z_oxL, z_oxR, z_scL, z_scR, ↓reduceIte, st_170, st_171, st_172, st_173, Nat.zero_add, Nat.add_zero, Nat.zero_lt_succ, true_and, and_true, eq_self, fX7_destroy_L1]) (fun M' => by simp (disch := first | omega | assumption) only [l_0, l_1, l_2, l_3, l_4, l_5, l_6, l_7, l_8, l_11, l_12, l_15, l_16, l_31, l_32, l_66, l_80, l_100, l_127, l_128, l_768, l_2304, l_2310, l_2316, l_2388, l_2394, l_2406, l_2418, l_2430, l_2558, l_2686, l_2814, l_2942, l_3070, l_3390, l_3394, l_3395, l_3396, l_3397, n_leT, n_leF, n_ltT, n_ltF, n_eqT, n_eqF, nI_add, pk_mul, n_sub, z_ldn, z_san, z_bs, z_b2s, z_b3s, z_ocN, z_ocS, z_oxL, z_oxR, z_scL, z_scR, ↓reduceIte, st_170, st_171, st_172, st_173, Nat.zero_add, Nat.add_zero, Nat.zero_lt_succ, true_and, and_true, eq_self, fX7_destroy_L1])
        have u3 : ∀ k, M3 170 k = if 128 * d ≤ k ∧ k < 128 * d + 128 then nI 0 else upd (upd (M 170) (2304 + d) (nI 0)) (2310 + d) (nI 0) k := fun k => by
          rw [← rMu]
          exact u3 k
        have hN3 : z_N (M3 170) S1 := by
          rw [hS1]
          exact z_N_rng (z_N_up (z_N_up hN)) (g := fun _ => 0) u3
        obtain ⟨M4, o1, o2, o3, o4⟩ := m_tabs2 hI hn (fun k k1 k2 => sK k (by omega)) (by rw [sK _ (by omega)]; have := (I_bnd hI).2.1; omega) hQ1.1.2.2 hN3
        rw [← hv] at o1
        have hfr : ∀ a, a ≠ 170 → a ≠ 172 → M4 a = z_st (z_st M2 174 0 v) 169 4 (nI 0) a := fun a q1 q2 => by rw [o4 a q1 q2, u2 a q1, hMu, s_n q1, s_n q1]
        have hrw : ∀ k, 2430 ≤ k → k < 2686 ∨ 2942 ≤ k → M4 170 k = M 170 k := fun k k1 k2 => by rw [o3 k k2, u3, if_neg (by omega), u_n (by omega), u_n (by omega)]
        refine mutOK (M1 := M2) (v := v) (M4 := M4) ?_ ?_ ?_ ?_ (z_fin (N := M 170) hN0 hR0 hI0 hB0 g2 o2 (z_I_mono g4) ?_ ?_ ?_ ?_ ?_ ?_)
        · unfold fX6_destroy
          simp (disch := first | omega | assumption) only [l_0, l_1, l_2, l_3, l_4, l_5, l_6, l_7, l_8, l_11, l_12, l_15, l_16, l_31, l_32, l_66, l_80, l_100, l_127, l_128, l_768, l_2304, l_2310, l_2316, l_2388, l_2394, l_2406, l_2418, l_2430, l_2558, l_2686, l_2814, l_2942, l_3070, l_3390, l_3394, l_3395, l_3396, l_3397, n_leT, n_leF, n_ltT, n_ltF, n_eqT, n_eqF, nI_add, pk_mul, n_sub, z_ldn, z_san, z_bs, z_b2s, z_b3s, z_ocN, z_ocS, z_oxL, z_oxR, z_scL, z_scR, ↓reduceIte, st_170, st_171, st_172, st_173, Nat.zero_add, Nat.add_zero, Nat.zero_lt_succ, true_and, and_true, eq_self, cDs_ok hR.2.1 hd h1, z_gdp (kd1_ds hd), cSo hR.2.2.1 hI hd, h2, cCd hR.2.1 (I_ex hI), e1, z_pz0, ← hMd, g1]
        · unfold fX7_destroy
          simp (disch := first | omega | assumption) only [l_0, l_1, l_2, l_3, l_4, l_5, l_6, l_7, l_8, l_11, l_12, l_15, l_16, l_31, l_32, l_66, l_80, l_100, l_127, l_128, l_768, l_2304, l_2310, l_2316, l_2388, l_2394, l_2406, l_2418, l_2430, l_2558, l_2686, l_2814, l_2942, l_3070, l_3390, l_3394, l_3395, l_3396, l_3397, n_leT, n_leF, n_ltT, n_ltF, n_eqT, n_eqF, nI_add, pk_mul, n_sub, z_ldn, z_san, z_bs, z_b2s, z_b3s, z_ocN, z_ocS, z_oxL, z_oxR, z_scL, z_scR, ↓reduceIte, st_170, st_171, st_172, st_173, Nat.zero_add, Nat.add_zero, Nat.zero_lt_succ, true_and, and_true, eq_self, mSet_ok hN2 hd h1, hN2, h2, mCs hN2, mFits0, ← hMu, u1, o1]
        · rw [hfr _ (by decide) (by decide), s_s, u_s]
        · rw [hfr _ (by decide) (by decide), s_n (by decide), s_s, u_s]
        · intro b hb
          rw [y_mk_o (by omega), sK _ (by omega)]
          exact hB b hb
        · exact fun k k1 k2 => hrw k k1 (by omega)
        · exact fun k k1 k2 => hrw k (by omega) (by omega)
        · intro a ha
          rw [hfr a (by omega) (by omega), s_n (by omega), s_n (by omega)]
        · exact (g3 _ (by decide)).trans (fM _ (by decide) (by omega) (by omega))
        · intro a a1 a2
          rw [g3 a (by omega), fM a (by omega) (by omega) (by omega)]
    · refine mutNo h (k := nI 2) (b := nI 0) (by decide) ?_ ?_
      · unfold fX6_destroy
        simp (disch := first | omega | assumption) only [l_0, l_1, l_2, l_3, l_4, l_5, l_6, l_7, l_8, l_11, l_12, l_15, l_16, l_31, l_32, l_66, l_80, l_100, l_127, l_128, l_768, l_2304, l_2310, l_2316, l_2388, l_2394, l_2406, l_2418, l_2430, l_2558, l_2686, l_2814, l_2942, l_3070, l_3390, l_3394, l_3395, l_3396, l_3397, n_leT, n_leF, n_ltT, n_ltF, n_eqT, n_eqF, nI_add, pk_mul, n_sub, z_ldn, z_san, z_bs, z_b2s, z_b3s, z_ocN, z_ocS, z_oxL, z_oxR, z_scL, z_scR, ↓reduceIte, st_170, st_171, st_172, st_173, Nat.zero_add, Nat.add_zero, Nat.zero_lt_succ, true_and, and_true, eq_self, cDs_ok hR.2.1 hd h1, z_gdp (kd1_ds hd), cSo hR.2.2.1 hI hd]
        rfl
      · unfold fX7_destroy
        simp (disch := first | omega | assumption) only [l_0, l_1, l_2, l_3, l_4, l_5, l_6, l_7, l_8, l_11, l_12, l_15, l_16, l_31, l_32, l_66, l_80, l_100, l_127, l_128, l_768, l_2304, l_2310, l_2316, l_2388, l_2394, l_2406, l_2418, l_2430, l_2558, l_2686, l_2814, l_2942, l_3070, l_3390, l_3394, l_3395, l_3396, l_3397, n_leT, n_leF, n_ltT, n_ltF, n_eqT, n_eqF, nI_add, pk_mul, n_sub, z_ldn, z_san, z_bs, z_b2s, z_b3s, z_ocN, z_ocS, z_oxL, z_oxR, z_scL, z_scR, ↓reduceIte, st_170, st_171, st_172, st_173, Nat.zero_add, Nat.add_zero, Nat.zero_lt_succ, true_and, and_true, eq_self, mSet_ok hN1 hd h1, hN1, mFits2]
  · refine mutNo h (k := nI 1) (b := nI 0) (by decide) ?_ ?_
    · unfold fX6_destroy
      simp (disch := first | omega | assumption) only [l_0, l_1, l_2, l_3, l_4, l_5, l_6, l_7, l_8, l_11, l_12, l_15, l_16, l_31, l_32, l_66, l_80, l_100, l_127, l_128, l_768, l_2304, l_2310, l_2316, l_2388, l_2394, l_2406, l_2418, l_2430, l_2558, l_2686, l_2814, l_2942, l_3070, l_3390, l_3394, l_3395, l_3396, l_3397, n_leT, n_leF, n_ltT, n_ltF, n_eqT, n_eqF, nI_add, pk_mul, n_sub, z_ldn, z_san, z_bs, z_b2s, z_b3s, z_ocN, z_ocS, z_oxL, z_oxR, z_scL, z_scR, ↓reduceIte, st_170, st_171, st_172, st_173, Nat.zero_add, Nat.add_zero, Nat.zero_lt_succ, true_and, and_true, eq_self, cDs_no hR.2.1 h1]
    · unfold fX7_destroy
      simp (disch := first | omega | assumption) only [l_0, l_1, l_2, l_3, l_4, l_5, l_6, l_7, l_8, l_11, l_12, l_15, l_16, l_31, l_32, l_66, l_80, l_100, l_127, l_128, l_768, l_2304, l_2310, l_2316, l_2388, l_2394, l_2406, l_2418, l_2430, l_2558, l_2686, l_2814, l_2942, l_3070, l_3390, l_3394, l_3395, l_3396, l_3397, n_leT, n_leF, n_ltT, n_ltF, n_eqT, n_eqF, nI_add, pk_mul, n_sub, z_ldn, z_san, z_bs, z_b2s, z_b3s, z_ocN, z_ocS, z_oxL, z_oxR, z_scL, z_scR, ↓reduceIte, st_170, st_171, st_172, st_173, Nat.zero_add, Nat.add_zero, Nat.zero_lt_succ, true_and, and_true, eq_self, mSet_no hN1 h1, mFits1]
