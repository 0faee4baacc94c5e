theorem op_17 {n : Nat} (hn : n < 512) {M : zM} (h : z_P n M) (a1 a2 a3 a4 a5 a6 : Int32) : ∃ M9, fL_c17 a1 a2 a3 a4 a5 a6 M = some (1, M9) ∧ z_P (n + 1) M9 := by
  obtain ⟨S, S0, hN, hN0, hR, hR0, hI, hI0, hB, hB0⟩ := id h
  unfold fL_c17 fL_rollback
  have hN1 := N1 hN
  have hb := hb30 hI hn
  rcases ds_cases a1 (I_ex hI) with ⟨d, hd, rfl, h1⟩ | h1
  · rcases sn_cases (S := S) a2 with ⟨s, hs, h2, rfl⟩ | h2
    · have hos := (I_liv hI s hs h2).2.1
      have ccell := ((hR.2.2.1 s hs).2 h2).2.1
      by_cases h3 : S (2418 + s) = d
      · obtain ⟨rk, hsl, hrk, hrk12⟩ := z_rk2 hR.2.2.1 hI.1
        obtain ⟨p, hpp⟩ : ∃ p, p = rk s := ⟨_, rfl⟩
        obtain ⟨c, hcc⟩ : ∃ c, c = S (2388 + d) := ⟨_, rfl⟩
        obtain ⟨hp, he⟩ := hrk s hs h2
        rw [← hpp, h3, ← hcc] at hp
        rw [← hpp, h3] at he
        obtain ⟨hc12, hord⟩ := I_ord hI d hd
        rw [← hcc] at hc12
        have hk : ∀ t, t < 12 → rk t ≤ p + 12 := fun t ht => by have := hrk12 t ht; omega
        have hho := cHo hR hI hn hd hcc hp hsl hrk hs h2 h3 hpp.symm hk
        have hne : ∀ r, r < p → z_ord S d r ≠ s ∧ z_ord S d r < 12 := fun r hr => ⟨fun x => by
          have := I_inj2 hI hd (r := r) (q := p) (by omega) (by omega) (by rw [x, he])
          omega, (hord r (by omega)).1⟩
        by_cases h4 : oB S d p (c - 1 - p) = 0
        · have hno := oB_0.mp h4
          rw [h4] at hho
          have hcc2 : S (2388 + d) ≤ 12 := by rw [← hcc]; exact hc12
          obtain ⟨_, _, _, hj, _, _⟩ := mDb (Mm := z_st M 169 4 (nI 0)) hI hN hd hcc hp hrk hno
          obtain ⟨Mf, Mb, v2, M2, e1, e2, e3, e4, e5, e6, e7⟩ := rb_c hR hI hn hd h1 hcc hp hsl hrk hs h2 h3 hpp.symm hk hj hno
          obtain ⟨f1, f2, f3⟩ := rb_facts (s := s) hd hj
          have sR : ∀ k, 2406 ≤ k → rbS S d p s c k = S k := fun k hk => by rw [f3 _ (by omega)]; exact hj.2.2.2.2.2.2.2.2.1 k hk
          -- the model
          have hM2 : M2 170 = M 170 := e7 _ (by decide)
          obtain ⟨Ms, hMs⟩ : ∃ Ms, Ms = z_st M2 174 0 (nI (c - 1 - p)) := ⟨_, rfl⟩
          have hMs170 : Ms 170 = M 170 := by rw [hMs]; exact hM2
          have hN2 := N1' hN hMs170
          have hNm : z_N ((z_st Ms 169 4 (nI 0)) 170) S := by
            show z_N (Ms 170) S
            rw [hMs170]
            exact hN
          have hmo := mOb (M := Ms) (Mm := z_st Ms 169 4 (nI 0)) hI hNm rfl hd hcc hp
          rw [h4] at hmo
          obtain ⟨Mx, x1, x2, _, x3, x4⟩ := mDb (Mm := z_st Ms 169 4 (nI 0)) hI hNm hd hcc hp hrk hno
          have hx768 : ∀ x, x < 128 → Mx (169 + 1) (768 + 128 * s + x) = nI (S (768 + 128 * s + x)) := fun x hx => by
            rw [N1 x2 _ (by omega), hj.2.2.2.2.2.2.2.2.2.2 s x hs hx, if_neg]
            intro y
            have := y.2.2.1
            omega
          obtain ⟨M3, u1, u2, u3⟩ := z_loopR (f := fun x : Int32 × zM => fX7_rollback_L3 169 (nI d) (nI s) x.1 x.2) (169 + 1) (128 * d) 0 128 (fun x => nI (S (768 + 128 * s + x))) (by decide) (s := nI 0) (M := Mx) rfl (fun j M' hj _ q2 => by
            have c1 : M' (169 + 1) (768 + 128 * s + j) = nI (S (768 + 128 * s + j)) := by
              rw [q2, if_neg (by omega)]
              exact hx768 j hj
            simp (disch := first | omega | assumption) only [l_0, l_1, l_2, l_3, l_4, l_5, l_6, l_7, l_8, l_11, l_12, l_15, l_16, l_31, l_32, l_66, l_80, l_100, l_127, l_128, l_768, l_2304, l_2310, l_2316, l_2388, l_2394, l_2406, l_2418, l_2430, l_2558, l_2686, l_2814, l_2942, l_3070, l_3390, l_3394, l_3395, l_3396, l_3397, n_leT, n_leF, n_ltT, n_ltF, n_eqT, n_eqF, nI_add, pk_mul, n_sub, z_ldn, z_san, z_bs, z_b2s, z_b3s, z_ocN, z_ocS, z_oxL, z_oxR, z_scL, z_scR, ↓reduceIte, st_170, st_171, st_172, st_173, Nat.zero_add, Nat.add_zero, Nat.zero_lt_succ, true_and, and_true, eq_self, fX7_rollback_L3, c1]) (fun M' => by simp (disch := first | omega | assumption) only [l_0, l_1, l_2, l_3, l_4, l_5, l_6, l_7, l_8, l_11, l_12, l_15, l_16, l_31, l_32, l_66, l_80, l_100, l_127, l_128, l_768, l_2304, l_2310, l_2316, l_2388, l_2394, l_2406, l_2418, l_2430, l_2558, l_2686, l_2814, l_2942, l_3070, l_3390, l_3394, l_3395, l_3396, l_3397, n_leT, n_leF, n_ltT, n_ltF, n_eqT, n_eqF, nI_add, pk_mul, n_sub, z_ldn, z_san, z_bs, z_b2s, z_b3s, z_ocN, z_ocS, z_oxL, z_oxR, z_scL, z_scR, ↓reduceIte, st_170, st_171, st_172, st_173, Nat.zero_add, Nat.add_zero, Nat.zero_lt_succ, true_and, and_true, eq_self, fX7_rollback_L3])
          have u3 : ∀ k, M3 170 k = if 128 * d ≤ k ∧ k < 128 * d + 128 then nI (S (768 + 128 * s + (k - 128 * d))) else Mx 170 k := fun k => u3 k
          have hN3 : z_N (M3 170) (rbS S d p s c) := z_N_rng x2 (g := fun x => S (768 + 128 * s + x)) u3
          obtain ⟨M4, o1, o2, o3, o4⟩ := m_tabs2 hI hn (fun k k1 k2 => sR k (by omega)) (by rw [sR _ (by omega)]; have := (I_bnd hI).2.1; omega) e6 hN3
          have hl128 := lost128 (S := rbS S d p s c)
          have hfr : ∀ a, a ≠ 170 → a ≠ 172 → M4 a = z_st Ms 169 4 (nI 0) a := fun a q1 q2 => by rw [o4 a q1 q2, u2 a q1, x4 a q1]
          have hrw : ∀ k, 2430 ≤ k → k < 2686 ∨ 2942 ≤ k → M4 170 k = M 170 k := fun k k1 k2 => by
            rw [o3 k k2, u3, if_neg (by omega), x3 k (by omega)]
            exact congrFun hMs170 k
          refine mutOK (M1 := M2) (v := nI (c - 1 - p)) (M4 := M4) ?_ ?_ ?_ ?_ (z_fin (N := M 170) hN0 hR0 hI0 hB0 e4 o2 (z_I_mono e5) ?_ ?_ ?_ ?_ ?_ ?_)
          · unfold fX6_rollback
            simp (disch := first | omega | assumption) only [l_0, l_1, l_2, l_3, l_4, l_5, l_6, l_7, l_8, l_11, l_12, l_15, l_16, l_31, l_32, l_66, l_80, l_100, l_127, l_128, l_768, l_2304, l_2310, l_2316, l_2388, l_2394, l_2406, l_2418, l_2430, l_2558, l_2686, l_2814, l_2942, l_3070, l_3390, l_3394, l_3395, l_3396, l_3397, n_leT, n_leF, n_ltT, n_ltF, n_eqT, n_eqF, nI_add, pk_mul, n_sub, z_ldn, z_san, z_bs, z_b2s, z_b3s, z_ocN, z_ocS, z_oxL, z_oxR, z_scL, z_scR, ↓reduceIte, st_170, st_171, st_172, st_173, Nat.zero_add, Nat.add_zero, Nat.zero_lt_succ, true_and, and_true, eq_self, cDs_ok hR.2.1 hd h1, z_gdp (kd1_ds hd), cSn_ok hR.2.2.1 (I_num hI) hb hs h2, z_gdp (kd1_sn hs), ccell, h3, hho, e1, e2, e3]
          · rw [← hMs]
            unfold fX7_rollback
            have hcN : (z_st Ms 169 4 (nI 0)) (169 + 1) (2388 + d) = nI c := by rw [hcc]; exact hN2 _ (by omega)
            have hpl := mPl (M := z_st Ms 169 4 (nI 0)) (S := S) hN2 hs h3 hd (by omega) hcc2 he hne
            have hoN := hN2 (2418 + s) (by omega)
            rw [h3] at hoN
            simp (disch := first | omega | assumption) only [l_0, l_1, l_2, l_3, l_4, l_5, l_6, l_7, l_8, l_11, l_12, l_15, l_16, l_31, l_32, l_66, l_80, l_100, l_127, l_128, l_768, l_2304, l_2310, l_2316, l_2388, l_2394, l_2406, l_2418, l_2430, l_2558, l_2686, l_2814, l_2942, l_3070, l_3390, l_3394, l_3395, l_3396, l_3397, n_leT, n_leF, n_ltT, n_ltF, n_eqT, n_eqF, nI_add, pk_mul, n_sub, z_ldn, z_san, z_bs, z_b2s, z_b3s, z_ocN, z_ocS, z_oxL, z_oxR, z_scL, z_scR, ↓reduceIte, st_170, st_171, st_172, st_173, Nat.zero_add, Nat.add_zero, Nat.zero_lt_succ, true_and, and_true, eq_self, mSlot_ok hN2 (I_num hI) hb hs h2, mSet_ok hN2 hd h1, hoN, mFits0, hpl, hcN, hmo, st_94, x1, u1, o1]
          · rw [hfr _ (by decide) (by decide), s_s, u_s]
          · rw [hfr _ (by decide) (by decide), s_n (by decide), hMs, s_s, u_s]
          · intro b hb
            rw [y_mk_o (by omega), sR _ (by omega)]
            exact hB b hb
          · exact fun k k1 k2 => hrw k k1 (by omega)
          · exact fun k k1 k2 => hrw k (by omega) (by omega)
          · intro a ha
            rw [hfr a (by omega) (by omega), s_n (by omega), hMs, s_n (by omega)]
          · exact e7 _ (by decide)
          · intro a a1 a2
            exact e7 a a1
        · rw [if_neg h4] at hho
          have h5 : oB S d p (c - 1 - p) = 3 := by
            rcases oB_3 (S := S) (d := d) (p := p) (i := c - 1 - p) with x | x
            · exact absurd x h4
            · exact x
          have hcc2 : S (2388 + d) ≤ 12 := by rw [← hcc]; exact hc12
          have hmo := mOb (M := M) (Mm := z_st M 169 4 (nI 0)) hI hN rfl hd hcc hp
          rw [h5] at hmo
          refine mutNo h (k := nI 3) (b := nI 0) (by decide) ?_ ?_
          · unfold fX6_rollback
            simp (disch := first | omega | assumption) only [l_0, l_1, l_2, l_3, l_4, l_5, l_6, l_7, l_8, l_11, l_12, l_15, l_16, l_31, l_32, l_66, l_80, l_100, l_127, l_128, l_768, l_2304, l_2310, l_2316, l_2388, l_2394, l_2406, l_2418, l_2430, l_2558, l_2686, l_2814, l_2942, l_3070, l_3390, l_3394, l_3395, l_3396, l_3397, n_leT, n_leF, n_ltT, n_ltF, n_eqT, n_eqF, nI_add, pk_mul, n_sub, z_ldn, z_san, z_bs, z_b2s, z_b3s, z_ocN, z_ocS, z_oxL, z_oxR, z_scL, z_scR, ↓reduceIte, st_170, st_171, st_172, st_173, Nat.zero_add, Nat.add_zero, Nat.zero_lt_succ, true_and, and_true, eq_self, cDs_ok hR.2.1 hd h1, z_gdp (kd1_ds hd), cSn_ok hR.2.2.1 (I_num hI) hb hs h2, z_gdp (kd1_sn hs), ccell, h3, hho]
            rfl
          · unfold fX7_rollback
            have hcN : (z_st M 169 4 (nI 0)) (169 + 1) (2388 + d) = nI c := by rw [hcc]; exact hN1 _ (by omega)
            have hpl := mPl (M := z_st M 169 4 (nI 0)) (S := S) hN1 hs h3 hd (by omega) hcc2 he hne
            have hoN := hN1 (2418 + s) (by omega)
            rw [h3] at hoN
            simp (disch := first | omega | assumption) only [l_0, l_1, l_2, l_3, l_4, l_5, l_6, l_7, l_8, l_11, l_12, l_15, l_16, l_31, l_32, l_66, l_80, l_100, l_127, l_128, l_768, l_2304, l_2310, l_2316, l_2388, l_2394, l_2406, l_2418, l_2430, l_2558, l_2686, l_2814, l_2942, l_3070, l_3390, l_3394, l_3395, l_3396, l_3397, n_leT, n_leF, n_ltT, n_ltF, n_eqT, n_eqF, nI_add, pk_mul, n_sub, z_ldn, z_san, z_bs, z_b2s, z_b3s, z_ocN, z_ocS, z_oxL, z_oxR, z_scL, z_scR, ↓reduceIte, st_170, st_171, st_172, st_173, Nat.zero_add, Nat.add_zero, Nat.zero_lt_succ, true_and, and_true, eq_self, mSlot_ok hN1 (I_num hI) hb hs h2, mSet_ok hN1 hd h1, hoN, mFits0, hpl, hcN, hmo, st_94]
      · refine mutNo h (k := nI 2) (b := nI 0) (by decide) ?_ ?_
        · unfold fX6_rollback
          simp (disch := first | omega | assumption) only [l_0, l_1, l_2, l_3, l_4, l_5, l_6, l_7, l_8, l_11, l_12, l_15, l_16, l_31, l_32, l_66, l_80, l_100, l_127, l_128, l_768, l_2304, l_2310, l_2316, l_2388, l_2394, l_2406, l_2418, l_2430, l_2558, l_2686, l_2814, l_2942, l_3070, l_3390, l_3394, l_3395, l_3396, l_3397, n_leT, n_leF, n_ltT, n_ltF, n_eqT, n_eqF, nI_add, pk_mul, n_sub, z_ldn, z_san, z_bs, z_b2s, z_b3s, z_ocN, z_ocS, z_oxL, z_oxR, z_scL, z_scR, ↓reduceIte, st_170, st_171, st_172, st_173, Nat.zero_add, Nat.add_zero, Nat.zero_lt_succ, true_and, and_true, eq_self, cDs_ok hR.2.1 hd h1, z_gdp (kd1_ds hd), cSn_ok hR.2.2.1 (I_num hI) hb hs h2, z_gdp (kd1_sn hs), ccell]
          rfl
        · unfold fX7_rollback
          simp (disch := first | omega | assumption) only [l_0, l_1, l_2, l_3, l_4, l_5, l_6, l_7, l_8, l_11, l_12, l_15, l_16, l_31, l_32, l_66, l_80, l_100, l_127, l_128, l_768, l_2304, l_2310, l_2316, l_2388, l_2394, l_2406, l_2418, l_2430, l_2558, l_2686, l_2814, l_2942, l_3070, l_3390, l_3394, l_3395, l_3396, l_3397, n_leT, n_leF, n_ltT, n_ltF, n_eqT, n_eqF, nI_add, pk_mul, n_sub, z_ldn, z_san, z_bs, z_b2s, z_b3s, z_ocN, z_ocS, z_oxL, z_oxR, z_scL, z_scR, ↓reduceIte, st_170, st_171, st_172, st_173, Nat.zero_add, Nat.add_zero, Nat.zero_lt_succ, true_and, and_true, eq_self, mSlot_ok hN1 (I_num hI) hb hs h2, mSet_ok hN1 hd h1, hN1, mFits2]
    · refine mutNo h (k := nI 1) (b := nI 0) (by decide) ?_ ?_
      · unfold fX6_rollback
        simp (disch := first | omega | assumption) only [l_0, l_1, l_2, l_3, l_4, l_5, l_6, l_7, l_8, l_11, l_12, l_15, l_16, l_31, l_32, l_66, l_80, l_100, l_127, l_128, l_768, l_2304, l_2310, l_2316, l_2388, l_2394, l_2406, l_2418, l_2430, l_2558, l_2686, l_2814, l_2942, l_3070, l_3390, l_3394, l_3395, l_3396, l_3397, n_leT, n_leF, n_ltT, n_ltF, n_eqT, n_eqF, nI_add, pk_mul, n_sub, z_ldn, z_san, z_bs, z_b2s, z_b3s, z_ocN, z_ocS, z_oxL, z_oxR, z_scL, z_scR, ↓reduceIte, st_170, st_171, st_172, st_173, Nat.zero_add, Nat.add_zero, Nat.zero_lt_succ, true_and, and_true, eq_self, cDs_ok hR.2.1 hd h1, z_gdp (kd1_ds hd), cSn_no hR.2.2.1 h2]
      · unfold fX7_rollback
        simp (disch := first | omega | assumption) only [l_0, l_1, l_2, l_3, l_4, l_5, l_6, l_7, l_8, l_11, l_12, l_15, l_16, l_31, l_32, l_66, l_80, l_100, l_127, l_128, l_768, l_2304, l_2310, l_2316, l_2388, l_2394, l_2406, l_2418, l_2430, l_2558, l_2686, l_2814, l_2942, l_3070, l_3390, l_3394, l_3395, l_3396, l_3397, n_leT, n_leF, n_ltT, n_ltF, n_eqT, n_eqF, nI_add, pk_mul, n_sub, z_ldn, z_san, z_bs, z_b2s, z_b3s, z_ocN, z_ocS, z_oxL, z_oxR, z_scL, z_scR, ↓reduceIte, st_170, st_171, st_172, st_173, Nat.zero_add, Nat.add_zero, Nat.zero_lt_succ, true_and, and_true, eq_self, mSlot_no hN1 hb h2, mSet_ok hN1 hd h1, n_m1lt, mFits1]
  · refine mutNo h (k := nI 1) (b := nI 0) (by decide) ?_ ?_
    · unfold fX6_rollback
      simp (disch := first | omega | assumption) only [l_0, l_1, l_2, l_3, l_4, l_5, l_6, l_7, l_8, l_11, l_12, l_15, l_16, l_31, l_32, l_66, l_80, l_100, l_127, l_128, l_768, l_2304, l_2310, l_2316, l_2388, l_2394, l_2406, l_2418, l_2430, l_2558, l_2686, l_2814, l_2942, l_3070, l_3390, l_3394, l_3395, l_3396, l_3397, n_leT, n_leF, n_ltT, n_ltF, n_eqT, n_eqF, nI_add, pk_mul, n_sub, z_ldn, z_san, z_bs, z_b2s, z_b3s, z_ocN, z_ocS, z_oxL, z_oxR, z_scL, z_scR, ↓reduceIte, st_170, st_171, st_172, st_173, Nat.zero_add, Nat.add_zero, Nat.zero_lt_succ, true_and, and_true, eq_self, cDs_no hR.2.1 h1]
    · unfold fX7_rollback
      rcases sn_cases (S := S) a2 with ⟨s, hs, h2, rfl⟩ | h2
      · by_cases q : nI (S (2418 + s)) = a1 <;> simp (disch := first | omega | assumption) only [l_0, l_1, l_2, l_3, l_4, l_5, l_6, l_7, l_8, l_11, l_12, l_15, l_16, l_31, l_32, l_66, l_80, l_100, l_127, l_128, l_768, l_2304, l_2310, l_2316, l_2388, l_2394, l_2406, l_2418, l_2430, l_2558, l_2686, l_2814, l_2942, l_3070, l_3390, l_3394, l_3395, l_3396, l_3397, n_leT, n_leF, n_ltT, n_ltF, n_eqT, n_eqF, nI_add, pk_mul, n_sub, z_ldn, z_san, z_bs, z_b2s, z_b3s, z_ocN, z_ocS, z_oxL, z_oxR, z_scL, z_scR, ↓reduceIte, st_170, st_171, st_172, st_173, Nat.zero_add, Nat.add_zero, Nat.zero_lt_succ, true_and, and_true, eq_self, mSlot_ok hN1 (I_num hI) hb hs h2, mSet_no hN1 h1, hN1, q, mFits1]
      · simp (disch := first | omega | assumption) only [l_0, l_1, l_2, l_3, l_4, l_5, l_6, l_7, l_8, l_11, l_12, l_15, l_16, l_31, l_32, l_66, l_80, l_100, l_127, l_128, l_768, l_2304, l_2310, l_2316, l_2388, l_2394, l_2406, l_2418, l_2430, l_2558, l_2686, l_2814, l_2942, l_3070, l_3390, l_3394, l_3395, l_3396, l_3397, n_leT, n_leF, n_ltT, n_ltF, n_eqT, n_eqF, nI_add, pk_mul, n_sub, z_ldn, z_san, z_bs, z_b2s, z_b3s, z_ocN, z_ocS, z_oxL, z_oxR, z_scL, z_scR, ↓reduceIte, st_170, st_171, st_172, st_173, Nat.zero_add, Nat.add_zero, Nat.zero_lt_succ, true_and, and_true, eq_self, mSlot_no hN1 hb h2, mSet_no hN1 h1, n_m1lt, mFits1]
