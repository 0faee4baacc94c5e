/-! ===== the law's snapshots: clone ===== -/
set_option maxHeartbeats 2000000 in
theorem f_clone {n : Nat} {M : zM} {N N0 : Nat → Int32} {S S0 : Nat → Nat} (hn : n < 512) (hQ : Q_st n M N N0 S S0) {s wy : Nat} (hs4 : s < 4) (h0 : S (2394 + s) ≠ 0) (hw : 14 ≤ wy) (hw2 : wy < 16) : ∃ M3 S1, fL_snapshots 0 169 170 171 (nI wy) (nI s) M = some (nI 1, M3) ∧ Q_st n M3 N N0 S1 S0 := by
  have hR := hQ.1.1
  have hI := hQ.1.2.1
  have hs := hQ.1.2.2.1
  obtain ⟨hX, hB, hM⟩ := hQ.2.1
  have g1 := (hM.2.2 s hs4).1
  have g2 := ((hM.2.2 s hs4).2 h0).1
  have hb := I_nb hI s (by omega)
  have e1 : 1 ≤ S (2394 + s) := by omega
  have x0 := I_ex hI 0 (by decide)
  have x1 := I_ex hI 1 (by decide)
  have x2 := I_ex hI 2 (by decide)
  have m4 : M 171 4 = nI (S 2304) := (hM.2.1 0 (by decide)).1
  have m5 : M 171 5 = nI (S 2305) := (hM.2.1 1 (by decide)).1
  have m6 : M 171 6 = nI (S 2306) := (hM.2.1 2 (by decide)).1
  have x0 : S 2304 ≤ 1 := x0
  have x1 : S 2305 ≤ 1 := x1
  have x2 : S 2306 ≤ 1 := x2
  have hnn : (nI 0 ≤ -nI 1) = False := n_leN (by decide)
  by_cases cf : ∃ d, d < 3 ∧ S (2304 + d) = 0
  · obtain ⟨d, hd, h1, h2⟩ := low_n cf
    have hfind : ((if nI (S 2304) = nI 0 then some (nI 0) else if nI (S 2305) = nI 0 then some (nI 1) else if nI (S 2306) = nI 0 then some (nI 2) else some (-nI 1)) : Option Int32) = some (nI d) := by
      by_cases c0 : S 2304 = 0
      · have ed : d = 0 := Classical.byContradiction (fun x => h2 0 (by omega) c0)
        subst ed
        simp (disch := first | omega | assumption) only [l_0, l_1, l_2, l_3, l_4, l_5, l_6, l_7, l_8, l_11, l_12, l_15, l_16, l_31, l_32, l_66, l_80, l_100, l_127, l_128, l_768, l_2304, l_2310, l_2316, l_2388, l_2394, l_2406, l_2418, l_2430, l_2558, l_2686, l_2814, l_2942, l_3070, l_3390, l_3394, l_3395, l_3396, l_3397, n_leT, n_leF, n_ltT, n_ltF, n_eqT, n_eqF, nI_add, pk_mul, n_sub, z_ldn, z_san, z_bs, z_b2s, z_b3s, z_ocN, z_ocS, z_oxL, z_oxR, z_scL, z_scR, ↓reduceIte, Nat.zero_add, Nat.add_zero, Nat.zero_lt_succ, true_and, and_true, eq_self, n_div, n_mod, z_ldJn, z_saJn, f_blk, f_plc, l_9, l_10, l_13, l_14, l_17, l_18, l_19, l_20, l_21, l_22, l_24, l_28, l_60, l_61, l_62, l_64, l_98, l_99, z_ntR, z_ntwR, z_bz0, z_bz1, c0]
      · by_cases c1 : S 2305 = 0
        · have ed : d = 1 := Classical.byContradiction (fun x => by
            have : d ≠ 0 := fun y => c0 (by rw [y] at h1; exact h1)
            exact h2 1 (by omega) c1)
          subst ed
          simp (disch := first | omega | assumption) only [l_0, l_1, l_2, l_3, l_4, l_5, l_6, l_7, l_8, l_11, l_12, l_15, l_16, l_31, l_32, l_66, l_80, l_100, l_127, l_128, l_768, l_2304, l_2310, l_2316, l_2388, l_2394, l_2406, l_2418, l_2430, l_2558, l_2686, l_2814, l_2942, l_3070, l_3390, l_3394, l_3395, l_3396, l_3397, n_leT, n_leF, n_ltT, n_ltF, n_eqT, n_eqF, nI_add, pk_mul, n_sub, z_ldn, z_san, z_bs, z_b2s, z_b3s, z_ocN, z_ocS, z_oxL, z_oxR, z_scL, z_scR, ↓reduceIte, Nat.zero_add, Nat.add_zero, Nat.zero_lt_succ, true_and, and_true, eq_self, n_div, n_mod, z_ldJn, z_saJn, f_blk, f_plc, l_9, l_10, l_13, l_14, l_17, l_18, l_19, l_20, l_21, l_22, l_24, l_28, l_60, l_61, l_62, l_64, l_98, l_99, z_ntR, z_ntwR, z_bz0, z_bz1, c1]
        · have ed : d = 2 := by
            have y0 : d ≠ 0 := fun y => c0 (by rw [y] at h1; exact h1)
            have y1 : d ≠ 1 := fun y => c1 (by rw [y] at h1; exact h1)
            omega
          subst ed
          have h1 : S 2306 = 0 := h1
          simp (disch := first | omega | assumption) only [l_0, l_1, l_2, l_3, l_4, l_5, l_6, l_7, l_8, l_11, l_12, l_15, l_16, l_31, l_32, l_66, l_80, l_100, l_127, l_128, l_768, l_2304, l_2310, l_2316, l_2388, l_2394, l_2406, l_2418, l_2430, l_2558, l_2686, l_2814, l_2942, l_3070, l_3390, l_3394, l_3395, l_3396, l_3397, n_leT, n_leF, n_ltT, n_ltF, n_eqT, n_eqF, nI_add, pk_mul, n_sub, z_ldn, z_san, z_bs, z_b2s, z_b3s, z_ocN, z_ocS, z_oxL, z_oxR, z_scL, z_scR, ↓reduceIte, Nat.zero_add, Nat.add_zero, Nat.zero_lt_succ, true_and, and_true, eq_self, n_div, n_mod, z_ldJn, z_saJn, f_blk, f_plc, l_9, l_10, l_13, l_14, l_17, l_18, l_19, l_20, l_21, l_22, l_24, l_28, l_60, l_61, l_62, l_64, l_98, l_99, z_ntR, z_ntwR, z_bz0, z_bz1, h1]
    obtain ⟨M10, hM10⟩ : ∃ M10, z_st (z_st M 171 (4 + d) (nI 1)) 171 (8 + d) (nI (S (2394 + s))) = M10 := ⟨_, rfl⟩
    have k10 : ∀ a, a ≠ 171 → M10 a = M a := fun a ha => by rw [← hM10, s_n ha, s_n ha]
    have r10 : ∀ k, M10 171 k = if k = 8 + d then nI (S (2394 + s)) else if k = 4 + d then nI 1 else M 171 k := fun k => by
      rw [← hM10, s_s, s_s]
      rfl
    obtain ⟨M13, l1, l2, l3⟩ := z_loopR (f := fun q : Int32 × zM => fL_snapshots_L1 169 (nI s) (nI d) q.1 q.2) 169 (4 * d) 0 4 (fun j => M 169 (12 + 4 * s + j)) (by omega) (s := nI 0) (M := M10) rfl (fun i M' hi hf hv => by
      rw [Nat.zero_add]
      have e : M' 169 (12 + 4 * s + i) = M 169 (12 + 4 * s + i) := by rw [hv, if_neg (by omega), k10 169 (by decide)]
      simp (disch := first | omega | assumption) only [l_0, l_1, l_2, l_3, l_4, l_5, l_6, l_7, l_8, l_11, l_12, l_15, l_16, l_31, l_32, l_66, l_80, l_100, l_127, l_128, l_768, l_2304, l_2310, l_2316, l_2388, l_2394, l_2406, l_2418, l_2430, l_2558, l_2686, l_2814, l_2942, l_3070, l_3390, l_3394, l_3395, l_3396, l_3397, n_leT, n_leF, n_ltT, n_ltF, n_eqT, n_eqF, nI_add, pk_mul, n_sub, z_ldn, z_san, z_bs, z_b2s, z_b3s, z_ocN, z_ocS, z_oxL, z_oxR, z_scL, z_scR, ↓reduceIte, Nat.zero_add, Nat.add_zero, Nat.zero_lt_succ, true_and, and_true, eq_self, n_div, n_mod, z_ldJn, z_saJn, f_blk, f_plc, l_9, l_10, l_13, l_14, l_17, l_18, l_19, l_20, l_21, l_22, l_24, l_28, l_60, l_61, l_62, l_64, l_98, l_99, z_ntR, z_ntwR, z_bz0, z_bz1, fL_snapshots_L1, e]) (fun M' => by simp (disch := first | omega | assumption) only [l_0, l_1, l_2, l_3, l_4, l_5, l_6, l_7, l_8, l_11, l_12, l_15, l_16, l_31, l_32, l_66, l_80, l_100, l_127, l_128, l_768, l_2304, l_2310, l_2316, l_2388, l_2394, l_2406, l_2418, l_2430, l_2558, l_2686, l_2814, l_2942, l_3070, l_3390, l_3394, l_3395, l_3396, l_3397, n_leT, n_leF, n_ltT, n_ltF, n_eqT, n_eqF, nI_add, pk_mul, n_sub, z_ldn, z_san, z_bs, z_b2s, z_b3s, z_ocN, z_ocS, z_oxL, z_oxR, z_scL, z_scR, ↓reduceIte, Nat.zero_add, Nat.add_zero, Nat.zero_lt_succ, true_and, and_true, eq_self, n_div, n_mod, z_ldJn, z_saJn, f_blk, f_plc, l_9, l_10, l_13, l_14, l_17, l_18, l_19, l_20, l_21, l_22, l_24, l_28, l_60, l_61, l_62, l_64, l_98, l_99, z_ntR, z_ntwR, z_bz0, z_bz1, fL_snapshots_L1])
    have hR13 : z_R1 1 M13 N S := R1_fr hR (fun a ha => by rw [l2 a (by omega)]; exact k10 a (by omega))
    obtain ⟨S1, M16, v1, v2, v3, v4, k6, k7, k8, k9⟩ := k_clone hn hR13 hI (s := s) (d := d) (by omega) h0 (by omega) h1 (fun j hj => h2 j hj)
    have hX1 : L_x 169 M16 S1 := L_x_cg (L_x_tb (u := d) (h := fun p => S (768 + 128 * s + p)) (g := fun j => M 169 (12 + 4 * s + j)) hX (by omega) (fun p => by rw [l3, k10 169 (by decide)]) (by rw [kp_d hd]; exact v1) (fun j hj => by
      rw [hX _ (by omega), ps_s hj])) (k9 169 (by decide) (by decide) (by decide))
    have r16 : ∀ k, M16 171 k = if k = 8 + d then nI (S (2394 + s)) else if k = 4 + d then nI 1 else M 171 k := fun k => by
      rw [k9 171 (by decide) (by decide) (by decide), l2 171 (by decide)]
      exact r10 k
    have hM1 : L_m 171 M16 S1 := by
      obtain ⟨⟨m1, m2, m3⟩, m4, m5⟩ := hM
      refine ⟨⟨?_, ?_, ?_⟩, fun e he => ?_, fun t ht => ?_⟩
      · rw [r16, if_neg (by omega), if_neg (by omega), v4 _ (by omega) (by omega) (by omega)]; exact m1
      · rw [r16, if_neg (by omega), if_neg (by omega), v4 _ (by omega) (by omega) (by omega)]; exact m2
      · rw [r16, if_neg (by omega), if_neg (by omega), v4 _ (by omega) (by omega) (by omega)]; exact m3
      · by_cases z : e = d
        · subst z
          have ez : z_onum S1 e = S (2394 + s) := by
            unfold z_onum
            rw [v3, if_neg (by omega), Nat.add_sub_cancel, v4 _ (by omega) (by omega) (by omega)]
          rw [r16, if_neg (by omega), if_pos rfl, r16, if_pos rfl, v2, ez]
          exact ⟨rfl, rfl⟩
        · have h7 := (I_ori hI e (by omega)).1
          have ez : z_onum S1 e = z_onum S e := by
            unfold z_onum
            rw [v4 (2310 + e) (by omega) (by omega) (by omega), v4 (2394 + (S (2310 + e) - 1)) (by omega) (by omega) (by omega)]
          rw [r16, if_neg (by omega), if_neg (by omega), r16, if_neg (by omega), if_neg (by omega), v4 _ (by omega) (by omega) (by omega), ez]
          exact m4 e he
      · rw [r16, if_neg (by omega), if_neg (by omega), r16, if_neg (by omega), if_neg (by omega), r16, if_neg (by omega), if_neg (by omega), v4 _ (by omega) (by omega) (by omega), v4 _ (by omega) (by omega) (by omega), v4 _ (by omega) (by omega) (by omega)]
        exact m5 t ht
    have hoff : q_off S1 := off_tb (u := d) (h := fun p => S (768 + 128 * s + p)) hs.1 (by omega) (by rw [kp_d hd]; exact v1) (off_s hs hs4)
    have hle : ∀ k, k < 2304 → ∃ j, j < 2304 ∧ S j = S1 k := fun k hk => by
      rw [v1 k hk]
      split
      · exact ⟨_, by omega, rfl⟩
      · exact ⟨k, hk, rfl⟩
    have ho := (I_bnd hI).2.1
    have hB1 : L_b 170 M16 N S1 := fun i hi => by
      have := bl_128 hi
      rw [v4 _ (by omega) (by omega) (by omega), v4 _ (by omega) (by omega) (by omega), v4 _ (by omega) (by omega) (by omega), v4 _ (by omega) (by omega) (by omega)]
      exact L_b_cg hB (by rw [k9 170 (by decide) (by decide) (by decide), l2 170 (by decide), k10 170 (by decide)]) i hi
    obtain ⟨M19, w1, w2, w3⟩ := f_settle (C := 171) hX1 hoff (fun k hk => by
      obtain ⟨j, q1, q2⟩ := hle k hk
      rw [← q2]
      exact I_tab hI j q1) hB1 hM1.1.1 (by rw [v4 _ (by omega) (by omega) (by omega)]; omega) (fun b hb q => by rw [v4 _ (by omega) (by omega) (by omega)]; exact (hs.2.2.2 b hb q).1) (by decide) (by decide)
    have hl0 : sumN (lostN S1) 128 = 0 := lost_0 (I_ref hI) (fun k hk hne => by
      rw [v1 k hk]
      by_cases c : 128 * d ≤ k ∧ k < 128 * d + 128
      · have := I_te hI d (by omega) h1 (k - 128 * d) (by omega)
        rw [show 128 * d + (k - 128 * d) = k by omega] at this
        exact absurd this hne
      · rw [if_neg c]) (fun b hb => v4 _ (by omega) (by omega) (by omega))
    rw [hl0] at w1
    have hst : Q_st n M19 N N0 (y_mk S1) S0 := st_mk hQ (R1_fr k7 (fun a ha => w3 a (by omega))) k8 (fun a q1 q2 => by rw [w3 a (by omega), k9 a q1 (by omega) (by omega), l2 a (by omega)]; exact k10 a (by omega)) (fun a q1 q2 => by rw [w3 a (by omega), k9 a (by omega) (by omega) (by omega), l2 a (by omega)]; exact k10 a (by omega)) (L_x_cg hX1 (w3 169 (by decide))) w2 (L_m_cg hM1 (w3 171 (by decide))) hoff (fun e q1 q2 => by rw [v4 _ (by omega) (by omega) (by omega)]; exact hs.2.1 e q1 q2) (fun t q1 q2 => by rw [v4 _ (by omega) (by omega) (by omega)]; exact hs.2.2.1 t q1 q2) (fun b hb => Or.inl (v4 _ (by omega) (by omega) (by omega))) (fun k q1 q2 => v4 k (by omega) (by omega) (by omega)) (fun k q1 q2 => v4 k (by omega) (by omega) (by omega)) (v4 _ (by omega) (by omega) (by omega)) (fun k _ => rfl) (fun k hk => Or.inr (Or.inl (hle k hk)))
    refine ⟨M19, y_mk S1, ?_, hst⟩
    have hsc : S (2394 + s) - 1 + 1 = S (2394 + s) := by omega
    unfold fL_snapshots
    by_cases c0 : S 2304 = 0
    · have ed : d = 0 := Classical.byContradiction (fun x => h2 0 (by omega) c0)
      subst ed
      rw [c0] at m4
      simp (disch := first | omega | assumption) only [l_0, l_1, l_2, l_3, l_4, l_5, l_6, l_7, l_8, l_11, l_12, l_15, l_16, l_31, l_32, l_66, l_80, l_100, l_127, l_128, l_768, l_2304, l_2310, l_2316, l_2388, l_2394, l_2406, l_2418, l_2430, l_2558, l_2686, l_2814, l_2942, l_3070, l_3390, l_3394, l_3395, l_3396, l_3397, n_leT, n_leF, n_ltT, n_ltF, n_eqT, n_eqF, nI_add, pk_mul, n_sub, z_ldn, z_san, z_bs, z_b2s, z_b3s, z_ocN, z_ocS, z_oxL, z_oxR, z_scL, z_scR, ↓reduceIte, Nat.zero_add, Nat.add_zero, Nat.zero_lt_succ, true_and, and_true, eq_self, n_div, n_mod, z_ldJn, z_saJn, f_blk, f_plc, l_9, l_10, l_13, l_14, l_17, l_18, l_19, l_20, l_21, l_22, l_24, l_28, l_60, l_61, l_62, l_64, l_98, l_99, z_ntR, z_ntwR, z_bz0, z_bz1, g1, g2, m4, hsc]
      simp (disch := first | omega | assumption) only [l_0, l_1, l_2, l_3, l_4, l_5, l_6, l_7, l_8, l_11, l_12, l_15, l_16, l_31, l_32, l_66, l_80, l_100, l_127, l_128, l_768, l_2304, l_2310, l_2316, l_2388, l_2394, l_2406, l_2418, l_2430, l_2558, l_2686, l_2814, l_2942, l_3070, l_3390, l_3394, l_3395, l_3396, l_3397, n_leT, n_leF, n_ltT, n_ltF, n_eqT, n_eqF, nI_add, pk_mul, n_sub, z_ldn, z_san, z_bs, z_b2s, z_b3s, z_ocN, z_ocS, z_oxL, z_oxR, z_scL, z_scR, ↓reduceIte, Nat.zero_add, Nat.add_zero, Nat.zero_lt_succ, true_and, and_true, eq_self, n_div, n_mod, z_ldJn, z_saJn, f_blk, f_plc, l_9, l_10, l_13, l_14, l_17, l_18, l_19, l_20, l_21, l_22, l_24, l_28, l_60, l_61, l_62, l_64, l_98, l_99, z_ntR, z_ntwR, z_bz0, z_bz1, hM10, l1, k6, w1]
    · by_cases c1 : S 2305 = 0
      · have ed : d = 1 := Classical.byContradiction (fun x => by
          have : d ≠ 0 := fun y => c0 (by rw [y] at h1; exact h1)
          exact h2 1 (by omega) c1)
        subst ed
        rw [c1] at m5
        simp (disch := first | omega | assumption) only [l_0, l_1, l_2, l_3, l_4, l_5, l_6, l_7, l_8, l_11, l_12, l_15, l_16, l_31, l_32, l_66, l_80, l_100, l_127, l_128, l_768, l_2304, l_2310, l_2316, l_2388, l_2394, l_2406, l_2418, l_2430, l_2558, l_2686, l_2814, l_2942, l_3070, l_3390, l_3394, l_3395, l_3396, l_3397, n_leT, n_leF, n_ltT, n_ltF, n_eqT, n_eqF, nI_add, pk_mul, n_sub, z_ldn, z_san, z_bs, z_b2s, z_b3s, z_ocN, z_ocS, z_oxL, z_oxR, z_scL, z_scR, ↓reduceIte, Nat.zero_add, Nat.add_zero, Nat.zero_lt_succ, true_and, and_true, eq_self, n_div, n_mod, z_ldJn, z_saJn, f_blk, f_plc, l_9, l_10, l_13, l_14, l_17, l_18, l_19, l_20, l_21, l_22, l_24, l_28, l_60, l_61, l_62, l_64, l_98, l_99, z_ntR, z_ntwR, z_bz0, z_bz1, g1, g2, m4, m5, hsc]
        simp (disch := first | omega | assumption) only [l_0, l_1, l_2, l_3, l_4, l_5, l_6, l_7, l_8, l_11, l_12, l_15, l_16, l_31, l_32, l_66, l_80, l_100, l_127, l_128, l_768, l_2304, l_2310, l_2316, l_2388, l_2394, l_2406, l_2418, l_2430, l_2558, l_2686, l_2814, l_2942, l_3070, l_3390, l_3394, l_3395, l_3396, l_3397, n_leT, n_leF, n_ltT, n_ltF, n_eqT, n_eqF, nI_add, pk_mul, n_sub, z_ldn, z_san, z_bs, z_b2s, z_b3s, z_ocN, z_ocS, z_oxL, z_oxR, z_scL, z_scR, ↓reduceIte, Nat.zero_add, Nat.add_zero, Nat.zero_lt_succ, true_and, and_true, eq_self, n_div, n_mod, z_ldJn, z_saJn, f_blk, f_plc, l_9, l_10, l_13, l_14, l_17, l_18, l_19, l_20, l_21, l_22, l_24, l_28, l_60, l_61, l_62, l_64, l_98, l_99, z_ntR, z_ntwR, z_bz0, z_bz1, hM10, l1, k6, w1]
      · have ed : d = 2 := by
          have y0 : d ≠ 0 := fun y => c0 (by rw [y] at h1; exact h1)
          have y1 : d ≠ 1 := fun y => c1 (by rw [y] at h1; exact h1)
          omega
        subst ed
        have h1 : S 2306 = 0 := h1
        rw [h1] at m6
        simp (disch := first | omega | assumption) only [l_0, l_1, l_2, l_3, l_4, l_5, l_6, l_7, l_8, l_11, l_12, l_15, l_16, l_31, l_32, l_66, l_80, l_100, l_127, l_128, l_768, l_2304, l_2310, l_2316, l_2388, l_2394, l_2406, l_2418, l_2430, l_2558, l_2686, l_2814, l_2942, l_3070, l_3390, l_3394, l_3395, l_3396, l_3397, n_leT, n_leF, n_ltT, n_ltF, n_eqT, n_eqF, nI_add, pk_mul, n_sub, z_ldn, z_san, z_bs, z_b2s, z_b3s, z_ocN, z_ocS, z_oxL, z_oxR, z_scL, z_scR, ↓reduceIte, Nat.zero_add, Nat.add_zero, Nat.zero_lt_succ, true_and, and_true, eq_self, n_div, n_mod, z_ldJn, z_saJn, f_blk, f_plc, l_9, l_10, l_13, l_14, l_17, l_18, l_19, l_20, l_21, l_22, l_24, l_28, l_60, l_61, l_62, l_64, l_98, l_99, z_ntR, z_ntwR, z_bz0, z_bz1, g1, g2, m4, m5, m6, hsc]
        simp (disch := first | omega | assumption) only [l_0, l_1, l_2, l_3, l_4, l_5, l_6, l_7, l_8, l_11, l_12, l_15, l_16, l_31, l_32, l_66, l_80, l_100, l_127, l_128, l_768, l_2304, l_2310, l_2316, l_2388, l_2394, l_2406, l_2418, l_2430, l_2558, l_2686, l_2814, l_2942, l_3070, l_3390, l_3394, l_3395, l_3396, l_3397, n_leT, n_leF, n_ltT, n_ltF, n_eqT, n_eqF, nI_add, pk_mul, n_sub, z_ldn, z_san, z_bs, z_b2s, z_b3s, z_ocN, z_ocS, z_oxL, z_oxR, z_scL, z_scR, ↓reduceIte, Nat.zero_add, Nat.add_zero, Nat.zero_lt_succ, true_and, and_true, eq_self, n_div, n_mod, z_ldJn, z_saJn, f_blk, f_plc, l_9, l_10, l_13, l_14, l_17, l_18, l_19, l_20, l_21, l_22, l_24, l_28, l_60, l_61, l_62, l_64, l_98, l_99, z_ntR, z_ntwR, z_bz0, z_bz1, hM10, l1, k6, w1]
  · refine ⟨M, S, ?_, hQ⟩
    have c0 : S 2304 ≠ 0 := fun x => cf ⟨0, by decide, x⟩
    have c1 : S 2305 ≠ 0 := fun x => cf ⟨1, by decide, x⟩
    have c2 : S 2306 ≠ 0 := fun x => cf ⟨2, by decide, x⟩
    unfold fL_snapshots
    simp (disch := first | omega | assumption) only [l_0, l_1, l_2, l_3, l_4, l_5, l_6, l_7, l_8, l_11, l_12, l_15, l_16, l_31, l_32, l_66, l_80, l_100, l_127, l_128, l_768, l_2304, l_2310, l_2316, l_2388, l_2394, l_2406, l_2418, l_2430, l_2558, l_2686, l_2814, l_2942, l_3070, l_3390, l_3394, l_3395, l_3396, l_3397, n_leT, n_leF, n_ltT, n_ltF, n_eqT, n_eqF, nI_add, pk_mul, n_sub, z_ldn, z_san, z_bs, z_b2s, z_b3s, z_ocN, z_ocS, z_oxL, z_oxR, z_scL, z_scR, ↓reduceIte, Nat.zero_add, Nat.add_zero, Nat.zero_lt_succ, true_and, and_true, eq_self, n_div, n_mod, z_ldJn, z_saJn, f_blk, f_plc, l_9, l_10, l_13, l_14, l_17, l_18, l_19, l_20, l_21, l_22, l_24, l_28, l_60, l_61, l_62, l_64, l_98, l_99, z_ntR, z_ntwR, z_bz0, z_bz1, g1, g2, m4, m5, m6, hnn]
