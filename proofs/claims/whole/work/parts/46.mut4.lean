/-! ===== makeClone ===== -/
theorem cUd {M : zM} {S : Nat → Nat} (hR : R_ds 1 M S) (hx : ∀ d, d < 6 → S (2304 + d) ≤ 1) : (∃ d, d < 6 ∧ S (2304 + d) = 0 ∧ (∀ j, j < d → S (2304 + j) ≠ 0) ∧ fX5_unusedDataset 1 M = some (nI d)) ∨ ((∀ d, d < 6 → S (2304 + d) ≠ 0) ∧ fX5_unusedDataset 1 M = some (-nI 1)) := by
  unfold fX5_unusedDataset
  rcases z_loopW (f := fun s : Int32 => fX5_unusedDataset_L1 1 M s) (fun i => S (2304 + i) = 0) (fun i => (Sum.inr (nI i) : Unit ⊕ Int32)) (Sum.inl ()) 0 6 (by decide) (s := 0) rfl (fun i _ => Classical.em _) (fun i hi q => by
    have e := z_lq11 (V := 1) hi
    have q1 := hx i hi
    simp (disch := first | omega | assumption) only [l_0, l_1, l_2, l_3, l_4, l_5, l_6, l_7, l_8, l_11, l_12, l_15, l_16, l_31, l_32, l_66, l_80, l_100, l_127, l_128, l_768, l_2304, l_2310, l_2316, l_2388, l_2394, l_2406, l_2418, l_2430, l_2558, l_2686, l_2814, l_2942, l_3070, l_3390, l_3394, l_3395, l_3396, l_3397, n_leT, n_leF, n_ltT, n_ltF, n_eqT, n_eqF, nI_add, pk_mul, n_sub, z_ldn, z_san, z_bs, z_b2s, z_b3s, z_ocN, z_ocS, z_oxL, z_oxR, z_scL, z_scR, ↓reduceIte, st_170, st_171, st_172, st_173, Nat.zero_add, Nat.add_zero, Nat.zero_lt_succ, true_and, and_true, eq_self, fX5_unusedDataset_L1, e, (hR i hi).1]) (fun i hi q => by
    have e := z_lq11 (V := 1) hi
    simp (disch := first | omega | assumption) only [l_0, l_1, l_2, l_3, l_4, l_5, l_6, l_7, l_8, l_11, l_12, l_15, l_16, l_31, l_32, l_66, l_80, l_100, l_127, l_128, l_768, l_2304, l_2310, l_2316, l_2388, l_2394, l_2406, l_2418, l_2430, l_2558, l_2686, l_2814, l_2942, l_3070, l_3390, l_3394, l_3395, l_3396, l_3397, n_leT, n_leF, n_ltT, n_ltF, n_eqT, n_eqF, nI_add, pk_mul, n_sub, z_ldn, z_san, z_bs, z_b2s, z_b3s, z_ocN, z_ocS, z_oxL, z_oxR, z_scL, z_scR, ↓reduceIte, st_170, st_171, st_172, st_173, Nat.zero_add, Nat.add_zero, Nat.zero_lt_succ, true_and, and_true, eq_self, fX5_unusedDataset_L1, e, (hR i hi).1, q]) (by simp (disch := first | omega | assumption) only [l_0, l_1, l_2, l_3, l_4, l_5, l_6, l_7, l_8, l_11, l_12, l_15, l_16, l_31, l_32, l_66, l_80, l_100, l_127, l_128, l_768, l_2304, l_2310, l_2316, l_2388, l_2394, l_2406, l_2418, l_2430, l_2558, l_2686, l_2814, l_2942, l_3070, l_3390, l_3394, l_3395, l_3396, l_3397, n_leT, n_leF, n_ltT, n_ltF, n_eqT, n_eqF, nI_add, pk_mul, n_sub, z_ldn, z_san, z_bs, z_b2s, z_b3s, z_ocN, z_ocS, z_oxL, z_oxR, z_scL, z_scR, ↓reduceIte, st_170, st_171, st_172, st_173, Nat.zero_add, Nat.add_zero, Nat.zero_lt_succ, true_and, and_true, eq_self, fX5_unusedDataset_L1]) with ⟨i, h1, h2, h3, h4⟩ | ⟨h1, h2⟩
  · exact Or.inl ⟨i, h1, h2, h3, by rw [h4]; rfl⟩
  · exact Or.inr ⟨h1, by rw [h2]; rfl⟩
theorem mUd {M : zM} {S : Nat → Nat} (hN : ∀ k, k < 2430 → M (169 + 1) k = nI (S k)) (hx : ∀ d, d < 6 → S (2304 + d) ≤ 1) {d : Nat} (hd : d < 6) (h0 : S (2304 + d) = 0) (h1 : ∀ j, j < d → S (2304 + j) ≠ 0) : z_loop (fun s : Int32 => fX7_makeClone_L1 169 M s) z_FU (nI 0) = some (nI d) :=
  z_loopC (f := fun s : Int32 => fX7_makeClone_L1 169 M s) (fun i => nI i) d (nI d) (by omega) (fun i hi => by
    have e : S (2304 + i) = 1 := by
      have := hx i (by omega)
      have := h1 i hi
      omega
    simp (disch := first | omega | assumption) only [l_0, l_1, l_2, l_3, l_4, l_5, l_6, l_7, l_8, l_11, l_12, l_15, l_16, l_31, l_32, l_66, l_80, l_100, l_127, l_128, l_768, l_2304, l_2310, l_2316, l_2388, l_2394, l_2406, l_2418, l_2430, l_2558, l_2686, l_2814, l_2942, l_3070, l_3390, l_3394, l_3395, l_3396, l_3397, n_leT, n_leF, n_ltT, n_ltF, n_eqT, n_eqF, nI_add, pk_mul, n_sub, z_ldn, z_san, z_bs, z_b2s, z_b3s, z_ocN, z_ocS, z_oxL, z_oxR, z_scL, z_scR, ↓reduceIte, st_170, st_171, st_172, st_173, Nat.zero_add, Nat.add_zero, Nat.zero_lt_succ, true_and, and_true, eq_self, fX7_makeClone_L1, hN, e]) (by simp (disch := first | omega | assumption) only [l_0, l_1, l_2, l_3, l_4, l_5, l_6, l_7, l_8, l_11, l_12, l_15, l_16, l_31, l_32, l_66, l_80, l_100, l_127, l_128, l_768, l_2304, l_2310, l_2316, l_2388, l_2394, l_2406, l_2418, l_2430, l_2558, l_2686, l_2814, l_2942, l_3070, l_3390, l_3394, l_3395, l_3396, l_3397, n_leT, n_leF, n_ltT, n_ltF, n_eqT, n_eqF, nI_add, pk_mul, n_sub, z_ldn, z_san, z_bs, z_b2s, z_b3s, z_ocN, z_ocS, z_oxL, z_oxR, z_scL, z_scR, ↓reduceIte, st_170, st_171, st_172, st_173, Nat.zero_add, Nat.add_zero, Nat.zero_lt_succ, true_and, and_true, eq_self, fX7_makeClone_L1, hN, h0])
theorem sum6_f {S : Nat → Nat} (hx : ∀ d, d < 6 → S (2304 + d) ≤ 1) (h : ∀ d, d < 6 → S (2304 + d) ≠ 0) : sumN (fun d => S (2304 + d)) 6 = 6 := by
  rw [sumN_cg (g' := fun _ => 1) (fun d hd => by
    have := hx d hd
    have := h d hd
    show S (2304 + d) = 1
    omega)]
  rfl
theorem sum6_l {S : Nat → Nat} {d : Nat} (hx : ∀ d, d < 6 → S (2304 + d) ≤ 1) (hd : d < 6) (h : S (2304 + d) = 0) : sumN (fun d => S (2304 + d)) 6 ≤ 5 := by
  have e := sumN_ch (g := fun d => S (2304 + d)) (g' := fun i => if i = d then 1 else S (2304 + i)) (k := d) (n := 6) hd (fun i hi hne => if_neg hne)
  have e1 : (if d = d then 1 else S (2304 + d)) = 1 := if_pos rfl
  have e2 : S (2304 + d) = 0 := h
  have e3 : sumN (fun i => if i = d then 1 else S (2304 + i)) 6 ≤ 1 * 6 := sumN_le (fun i hi => by
    have := hx i hi
    by_cases q : i = d
    · rw [if_pos q]
      exact Nat.le_refl _
    · rw [if_neg q]
      exact this)
  omega
theorem op_20 {n : Nat} (hn : n < 512) {M : zM} (h : z_P n M) (a1 a2 a3 a4 a5 a6 : Int32) : ∃ M9, fL_c20 a1 a2 a3 a4 a5 a6 M = some (1, M9) ∧ z_P (n + 1) M9 := by
  obtain ⟨S, S0, hN, hN0, hR, hR0, hI, hI0, hB, hB0⟩ := id h
  unfold fL_c20 fL_makeClone
  have hN1 := N1 hN
  have hb := hb30 hI hn
  have hs6 := sum6 (I_ex hI)
  rcases sn_cases (S := S) a1 with ⟨s, hs, h1, rfl⟩ | h1
  · rcases cUd hR.2.1 (I_ex hI) with ⟨d, hd, h2, h3, hu⟩ | ⟨h2, hu⟩
    · have hs5 := sum6_l (I_ex hI) hd h2
      have hem := I_emp hI d hd h2
      obtain ⟨S1, hS1⟩ : ∃ S1 : Nat → Nat, S1 = rngN (updN (updN (updN S (2304 + d) 1) (2310 + d) (s + 1)) (2388 + d) 0) (128 * d) 128 (fun p => S (768 + 128 * s + p)) := ⟨_, rfl⟩
      have sT : ∀ k, k < 2304 → S1 k = if 128 * d ≤ k ∧ k < 128 * d + 128 then S (768 + 128 * s + (k - 128 * d)) else S k := fun k hk => by
        rw [hS1]
        by_cases q : 128 * d ≤ k ∧ k < 128 * d + 128
        · rw [rng_in q.1 q.2, if_pos q]
        · rw [rng_out (by omega), if_neg q, upN_n (by omega), upN_n (by omega), upN_n (by omega)]
      have sE : S1 (2304 + d) = 1 := by rw [hS1, rng_out (by omega), upN_n (by omega), upN_n (by omega), upN_s]
      have sO : S1 (2310 + d) = s + 1 := by rw [hS1, rng_out (by omega), upN_n (by omega), upN_s]
      have sR : ∀ k, 2304 ≤ k → k ≠ 2304 + d → k ≠ 2310 + d → S1 k = S k := fun k k1 k2 k3 => by
        rw [hS1, rng_out (by omega)]
        by_cases q : k = 2388 + d
        · rw [q, upN_s, hem.2]
        · rw [upN_n q, upN_n k3, upN_n k2]
      have sK : ∀ k, 2316 ≤ k → S1 k = S k := fun k hk => sR k (by omega) (by omega) (by omega)
      have hIs1 : z_Is n S1 := z_Is_gen hI.1 sK (fun d' hd' => by
          by_cases q : d' = d
          · rw [q, sE]
            decide
          · rw [sR _ (by omega) (by omega) (by omega)]
            exact I_ex hI d' hd') ⟨d, hd, sE⟩ (fun d' hd' q2 => by
          by_cases q : d' = d
          · rw [q, sE] at q2
            exact absurd q2 (by decide)
          · rw [sR _ (by omega) (by omega) (by omega)] at q2 ⊢
            exact I_emp hI d' hd' q2) (fun d' hd' => by
          by_cases q : d' = d
          · rw [q, sO, hem.2]
            exact ⟨by omega, fun _ => ⟨by rw [Nat.add_sub_cancel]; exact h1, fun r hr => absurd hr (Nat.not_lt_zero r)⟩⟩
          · rw [sR _ (by omega) (by omega) (by omega)]
            exact I_ori hI d' hd')
      have hQ := z_Q_of hR hI
      obtain ⟨Mc, hMc⟩ : ∃ Mc, Mc = z_st (z_st M (1 + 9 + 3 * d) 1 (nI 1)) (1 + 9 + 3 * d) 2 (M (1 + 27 + 3 * s) 2) := ⟨_, rfl⟩
      have fMc : ∀ a, a ≠ 1 + 9 + 3 * d → Mc a = M a := fun a ha => by rw [hMc, s_n ha, s_n ha]
      obtain ⟨M1, e1, e2, e3⟩ := cFill (z_T_cg hQ.1 (fMc _ (by omega)) (fun t ht => fMc _ (by omega))) (show d < 18 by omega) (show 6 + s < 18 by omega) (show d ≠ 6 + s by omega)
      rw [show 1 + 9 + 3 * (6 + s) + 1 = 1 + 27 + 3 * s + 1 by omega] at e1
      have fM : ∀ a, a ≠ 1 + 3 + 4 → a ≠ 1 + 9 + 3 * d + 1 + 1 → a ≠ 1 + 9 + 3 * d → M1 a = M a := fun a q1 q2 q3 => by rw [e3 a q1 q2, fMc a q3]
      have hsn := (hR.2.2.1 s hs).2 h1
      have hbs := hb s hs
      have hQ1 : y_Q 1 M1 (M 170) S1 (z_sta S) := y_Q_gen hQ (z_T_T e2 (fun k hk => by
          rw [sT k hk]
          unfold z_fillT
          rw [show 128 * (6 + s) = 768 + 128 * s by omega])) (fun d' hd' => by
          by_cases q : d' = d
          · rw [q, e3 _ (by omega) (by omega), hMc, s_s, u_n (by decide), s_s, u_s, u_s, sE, hsn.1]
            refine ⟨rfl, ?_⟩
            unfold z_onum
            rw [if_neg (by omega), sO, Nat.add_sub_cancel, sK _ (by omega), n_pm1 h1]
          · have ho : z_onum S1 d' = z_onum S d' := by
              have := (I_ori hI d' hd').1
              unfold z_onum
              rw [sR _ (by omega) (by omega) (by omega), sR (2394 + _) (by omega) (by omega) (by omega)]
            rw [fM _ (by omega) (by omega) (by omega), ho, sR _ (by omega) (by omega) (by omega)]
            exact hR.2.1 d' hd') (R_sn_S2 (R_sn_cg hR.2.2.1 (fun k k1 k2 => fM k (by omega) (by omega) (by omega))) hI.1.2.2.2.1 (fun d hd => (I_ord hI d hd).1) (fun k k1 k2 => sK k (by omega))) (R_sc_S (R_sc_cg hR.2.2.2.2.2 (fM _ (by omega) (by omega) (by omega))) (fun k k1 k2 => sK k (by omega))) (fun k k1 k2 => sK k (by omega)) (fun a k1 k2 => fM a (by omega) (by omega) (by omega)) (fun a k1 k2 => fM a (by omega) (by omega) (by omega))
      obtain ⟨g2, g4⟩ := z_set3 hQ1 hI hIs1 (fun k hk => by
          rw [sT k hk]
          split
          · exact Or.inr ⟨_, by omega, rfl⟩
          · exact Or.inr ⟨k, hk, rfl⟩) (fun d' hd' q p hp => by
          by_cases c : d' = d
          · rw [c, sE] at q
            exact absurd q (by decide)
          · rw [sR _ (by omega) (by omega) (by omega)] at q
            rw [sT _ (by omega), if_neg (by omega)]
            exact I_te hI d' hd' q p hp) (fun t ht q p hp => by
          rw [sT _ (by omega), if_neg (by omega)]
          rw [sK _ (by omega)] at q
          exact I_se hI t ht q p hp) (fun k k1 k2 => sK k (by omega)) (fun k hk q => by
          rw [sT k hk, if_neg]
          intro c
          have := I_te hI d hd h2 (k - 128 * d) (by omega)
          rw [show 128 * d + (k - 128 * d) = k by omega] at this
          exact q this)
      -- the model
      have hM2 : M1 170 = M 170 := fM _ (by decide) (by omega) (by omega)
      have hN2 := N1' hN (show (z_st M1 174 0 (nI d)) 170 = M 170 from hM2)
      obtain ⟨Mu, hMu⟩ : ∃ Mu, Mu = z_st (z_st (z_st (z_st (z_st M1 174 0 (nI d)) 169 4 (nI 0)) (169 + 1) (2304 + d) (nI 1)) (169 + 1) (2310 + d) (nI (s + 1))) (169 + 1) (2388 + d) (nI 0) := ⟨_, rfl⟩
      have rMu : Mu 170 = upd (upd (upd (M 170) (2304 + d) (nI 1)) (2310 + d) (nI (s + 1))) (2388 + d) (nI 0) := by
        rw [hMu, show (170 : Nat) = 169 + 1 from rfl, s_s, s_s, s_s, st_170, s_n (by decide)]
        exact congrArg (fun x => upd (upd (upd x (2304 + d) (nI 1)) (2310 + d) (nI (s + 1))) (2388 + d) (nI 0)) hM2
      obtain ⟨M3, u1, u2, u3⟩ := z_loopR (f := fun x : Int32 × zM => fX7_makeClone_L2 169 (nI s) (nI d) x.1 x.2) (169 + 1) (128 * d) 0 128 (fun p => nI (S (768 + 128 * s + p))) (by decide) (s := nI 0) (M := Mu) rfl (fun j M' hj _ q2 => by
        have c1 : M' (169 + 1) (768 + 128 * s + j) = nI (S (768 + 128 * s + j)) := by
          rw [q2, if_neg (by omega), show Mu (169 + 1) = _ from rMu, u_n (by omega), u_n (by omega), u_n (by omega)]
          exact hN1 _ (by omega)
        simp (disch := first | omega | assumption) only [l_0, l_1, l_2, l_3, l_4, l_5, l_6, l_7, l_8, l_11, l_12, l_15, l_16, l_31, l_32, l_66, l_80, l_100, l_127, l_128, l_768, l_2304, l_2310, l_2316, l_2388, l_2394, l_2406, l_2418, l_2430, l_2558, l_2686, l_2814, l_2942, l_3070, l_3390, l_3394, l_3395, l_3396, l_3397, n_leT, n_leF, n_ltT, n_ltF, n_eqT, n_eqF, nI_add, pk_mul, n_sub, z_ldn, z_san, z_bs, z_b2s, z_b3s, z_ocN, z_ocS, z_oxL, z_oxR, z_scL, z_scR, ↓reduceIte, st_170, st_171, st_172, st_173, Nat.zero_add, Nat.add_zero, Nat.zero_lt_succ, true_and, and_true, eq_self, fX7_makeClone_L2, c1]) (fun M' => by simp (disch := first | omega | assumption) only [l_0, l_1, l_2, l_3, l_4, l_5, l_6, l_7, l_8, l_11, l_12, l_15, l_16, l_31, l_32, l_66, l_80, l_100, l_127, l_128, l_768, l_2304, l_2310, l_2316, l_2388, l_2394, l_2406, l_2418, l_2430, l_2558, l_2686, l_2814, l_2942, l_3070, l_3390, l_3394, l_3395, l_3396, l_3397, n_leT, n_leF, n_ltT, n_ltF, n_eqT, n_eqF, nI_add, pk_mul, n_sub, z_ldn, z_san, z_bs, z_b2s, z_b3s, z_ocN, z_ocS, z_oxL, z_oxR, z_scL, z_scR, ↓reduceIte, st_170, st_171, st_172, st_173, Nat.zero_add, Nat.add_zero, Nat.zero_lt_succ, true_and, and_true, eq_self, fX7_makeClone_L2])
      have u3 : ∀ k, M3 170 k = if 128 * d ≤ k ∧ k < 128 * d + 128 then nI (S (768 + 128 * s + (k - 128 * d))) else upd (upd (upd (M 170) (2304 + d) (nI 1)) (2310 + d) (nI (s + 1))) (2388 + d) (nI 0) k := fun k => by
        rw [← rMu]
        exact u3 k
      have hN3 : z_N (M3 170) S1 := by
        rw [hS1]
        exact z_N_rng (z_N_up (z_N_up (z_N_up hN))) (g := fun p => S (768 + 128 * s + p)) u3
      obtain ⟨M4, o1, o2, o3, o4⟩ := m_tabs2 hI hn (fun k k1 k2 => sK k (by omega)) (by rw [sK _ (by omega)]; have := (I_bnd hI).2.1; omega) hQ1.1.2.2 hN3
      have hl128 := lost128 (S := S1)
      have hfr : ∀ a, a ≠ 170 → a ≠ 172 → M4 a = z_st (z_st M1 174 0 (nI d)) 169 4 (nI 0) a := fun a q1 q2 => by rw [o4 a q1 q2, u2 a q1, hMu, s_n q1, s_n q1, s_n q1]
      have hrw : ∀ k, 2430 ≤ k → k < 2686 ∨ 2942 ≤ k → M4 170 k = M 170 k := fun k k1 k2 => by rw [o3 k k2, u3, if_neg (by omega), u_n (by omega), u_n (by omega), u_n (by omega)]
      refine mutOK (M1 := M1) (v := nI d) (M4 := M4) ?_ ?_ ?_ ?_ (z_fin (N := M 170) hN0 hR0 hI0 hB0 g2 o2 (z_I_mono g4) ?_ ?_ ?_ ?_ ?_ ?_)
      · unfold fX6_makeClone fX5_branch
        simp (disch := first | omega | assumption) only [l_0, l_1, l_2, l_3, l_4, l_5, l_6, l_7, l_8, l_11, l_12, l_15, l_16, l_31, l_32, l_66, l_80, l_100, l_127, l_128, l_768, l_2304, l_2310, l_2316, l_2388, l_2394, l_2406, l_2418, l_2430, l_2558, l_2686, l_2814, l_2942, l_3070, l_3390, l_3394, l_3395, l_3396, l_3397, n_leT, n_leF, n_ltT, n_ltF, n_eqT, n_eqF, nI_add, pk_mul, n_sub, z_ldn, z_san, z_bs, z_b2s, z_b3s, z_ocN, z_ocS, z_oxL, z_oxR, z_scL, z_scR, ↓reduceIte, st_170, st_171, st_172, st_173, Nat.zero_add, Nat.add_zero, Nat.zero_lt_succ, true_and, and_true, eq_self, cSn_ok hR.2.2.1 (I_num hI) hb hs h1, z_gdp (kd1_sn hs), hu, n_m1c, z_lq11, z_pz1, s_n, ← hMc, e1]
      · unfold fX7_makeClone
        simp (disch := first | omega | assumption) only [l_0, l_1, l_2, l_3, l_4, l_5, l_6, l_7, l_8, l_11, l_12, l_15, l_16, l_31, l_32, l_66, l_80, l_100, l_127, l_128, l_768, l_2304, l_2310, l_2316, l_2388, l_2394, l_2406, l_2418, l_2430, l_2558, l_2686, l_2814, l_2942, l_3070, l_3390, l_3394, l_3395, l_3396, l_3397, n_leT, n_leF, n_ltT, n_ltF, n_eqT, n_eqF, nI_add, pk_mul, n_sub, z_ldn, z_san, z_bs, z_b2s, z_b3s, z_ocN, z_ocS, z_oxL, z_oxR, z_scL, z_scR, ↓reduceIte, st_170, st_171, st_172, st_173, Nat.zero_add, Nat.add_zero, Nat.zero_lt_succ, true_and, and_true, eq_self, mSlot_ok hN2 (I_num hI) hb hs h1, mCs hN2, mFits0, mUd (M := z_st (z_st M1 174 0 (nI d)) 169 4 (nI 0)) hN2 (I_ex hI) hd h2 h3, ← hMu, u1, o1]
      · rw [hfr _ (by decide) (by decide), s_s, u_s]
      · rw [hfr _ (by decide) (by decide), s_n (by decide), s_s, u_s]
      · intro b hb
        rw [y_mk_o (by omega), sK _ (by omega)]
        exact hB b hb
      · exact fun k k1 k2 => hrw k k1 (by omega)
      · exact fun k k1 k2 => hrw k (by omega) (by omega)
      · intro a ha
        rw [hfr a (by omega) (by omega), s_n (by omega), s_n (by omega)]
      · exact fM _ (by decide) (by omega) (by omega)
      · intro a a1 a2
        exact fM a (by omega) (by omega) (by omega)
    · have hs6' := sum6_f (I_ex hI) h2
      refine mutNo h (k := nI 2) (b := nI 0) (by decide) ?_ ?_
      · unfold fX6_makeClone
        simp (disch := first | omega | assumption) only [l_0, l_1, l_2, l_3, l_4, l_5, l_6, l_7, l_8, l_11, l_12, l_15, l_16, l_31, l_32, l_66, l_80, l_100, l_127, l_128, l_768, l_2304, l_2310, l_2316, l_2388, l_2394, l_2406, l_2418, l_2430, l_2558, l_2686, l_2814, l_2942, l_3070, l_3390, l_3394, l_3395, l_3396, l_3397, n_leT, n_leF, n_ltT, n_ltF, n_eqT, n_eqF, nI_add, pk_mul, n_sub, z_ldn, z_san, z_bs, z_b2s, z_b3s, z_ocN, z_ocS, z_oxL, z_oxR, z_scL, z_scR, ↓reduceIte, st_170, st_171, st_172, st_173, Nat.zero_add, Nat.add_zero, Nat.zero_lt_succ, true_and, and_true, eq_self, cSn_ok hR.2.2.1 (I_num hI) hb hs h1, z_gdp (kd1_sn hs), hu]
        rfl
      · unfold fX7_makeClone
        simp (disch := first | omega | assumption) only [l_0, l_1, l_2, l_3, l_4, l_5, l_6, l_7, l_8, l_11, l_12, l_15, l_16, l_31, l_32, l_66, l_80, l_100, l_127, l_128, l_768, l_2304, l_2310, l_2316, l_2388, l_2394, l_2406, l_2418, l_2430, l_2558, l_2686, l_2814, l_2942, l_3070, l_3390, l_3394, l_3395, l_3396, l_3397, n_leT, n_leF, n_ltT, n_ltF, n_eqT, n_eqF, nI_add, pk_mul, n_sub, z_ldn, z_san, z_bs, z_b2s, z_b3s, z_ocN, z_ocS, z_oxL, z_oxR, z_scL, z_scR, ↓reduceIte, st_170, st_171, st_172, st_173, Nat.zero_add, Nat.add_zero, Nat.zero_lt_succ, true_and, and_true, eq_self, mSlot_ok hN1 (I_num hI) hb hs h1, mCs hN1, hs6', mFits2]
  · refine mutNo h (k := nI 1) (b := nI 0) (by decide) ?_ ?_
    · unfold fX6_makeClone
      simp (disch := first | omega | assumption) only [l_0, l_1, l_2, l_3, l_4, l_5, l_6, l_7, l_8, l_11, l_12, l_15, l_16, l_31, l_32, l_66, l_80, l_100, l_127, l_128, l_768, l_2304, l_2310, l_2316, l_2388, l_2394, l_2406, l_2418, l_2430, l_2558, l_2686, l_2814, l_2942, l_3070, l_3390, l_3394, l_3395, l_3396, l_3397, n_leT, n_leF, n_ltT, n_ltF, n_eqT, n_eqF, nI_add, pk_mul, n_sub, z_ldn, z_san, z_bs, z_b2s, z_b3s, z_ocN, z_ocS, z_oxL, z_oxR, z_scL, z_scR, ↓reduceIte, st_170, st_171, st_172, st_173, Nat.zero_add, Nat.add_zero, Nat.zero_lt_succ, true_and, and_true, eq_self, cSn_no hR.2.2.1 h1]
    · unfold fX7_makeClone
      by_cases q : nI 6 ≤ nI (sumN (fun d => S (2304 + d)) 6) <;> simp (disch := first | omega | assumption) only [l_0, l_1, l_2, l_3, l_4, l_5, l_6, l_7, l_8, l_11, l_12, l_15, l_16, l_31, l_32, l_66, l_80, l_100, l_127, l_128, l_768, l_2304, l_2310, l_2316, l_2388, l_2394, l_2406, l_2418, l_2430, l_2558, l_2686, l_2814, l_2942, l_3070, l_3390, l_3394, l_3395, l_3396, l_3397, n_leT, n_leF, n_ltT, n_ltF, n_eqT, n_eqF, nI_add, pk_mul, n_sub, z_ldn, z_san, z_bs, z_b2s, z_b3s, z_ocN, z_ocS, z_oxL, z_oxR, z_scL, z_scR, ↓reduceIte, st_170, st_171, st_172, st_173, Nat.zero_add, Nat.add_zero, Nat.zero_lt_succ, true_and, and_true, eq_self, mSlot_no hN1 hb h1, mCs hN1, n_m1lt, q, mFits1]
