/-! ===== the law's ways ===== -/
theorem w_leN {a b : Nat} (h : ¬ a ≤ b) (ha : a < 2 ^ 31) (hb : b < 2 ^ 31) : ¬ nI a ≤ nI b := fun x => by
  rw [n_leF (by omega) (by omega) (by omega)] at x
  exact x
theorem w_leY {a b : Nat} (h : a ≤ b) (ha : a < 2 ^ 31) (hb : b < 2 ^ 31) : nI a ≤ nI b := by
  rw [n_leT (by omega) (by omega) (by omega)]
  trivial
theorem w_neq {a b : Nat} (h : a ≠ b) (ha : a < 2 ^ 31) (hb : b < 2 ^ 31) : ¬ nI a = nI b := fun x => by
  rw [n_eqF (by omega) (by omega) (by omega)] at x
  exact x
set_option maxHeartbeats 2000000 in
theorem f_way {n : Nat} {M : zM} {N N0 : Nat → Int32} {S S0 : Nat → Nat} (hn : n < 511) (hQ : Q_st n M N N0 S S0) {d wy : Nat} (hd : d < 3) (h1 : S (2304 + d) = 1) (hw2 : wy < 24) {j9 : Int32} (hj9 : j9 = -nI 1 ∨ ∃ f, f < 4 ∧ j9 = nI f ∧ S (2394 + f) = 0 ∧ ∀ t, t < f → S (2394 + t) ≠ 0) : ∃ M' N1 N2 S1 S2, fL_way (nI wy) (nI d) j9 M = some (nI 1, M') ∧ Q_st (n + 1) M' N1 N2 S1 S2 := by
  have ne : ∀ k, wy ≠ k → k < 2 ^ 31 → ¬ nI wy = nI k := fun k hk hb => w_neq hk (by omega) hb
  by_cases c16 : wy = 16
  · obtain ⟨M3, S1, k1, k2⟩ := f_dat (Nat.lt_succ_of_lt hn) hQ hd h1 (wy := wy) (by omega)
    refine ⟨M3, N, N0, S1, S0, ?_, st_mono k2⟩
    unfold fL_way
    rw [k1, z_b2s, if_pos (by rw [c16]; rfl)]
  · by_cases c17 : wy = 17
    · obtain ⟨M3, S1, k1, k2⟩ := f_dat (Nat.lt_succ_of_lt hn) hQ hd h1 (wy := wy) (by omega)
      refine ⟨M3, N, N0, S1, S0, ?_, st_mono k2⟩
      unfold fL_way
      rw [if_neg (show ¬ nI wy = 16 from ne 16 c16 (by decide)), k1, z_b2s, if_pos (by rw [c17]; rfl)]
    · by_cases c18 : wy = 18
      · obtain ⟨M3, S1, k1, k2⟩ := f_dat (Nat.lt_succ_of_lt hn) hQ hd h1 (wy := wy) (by omega)
        refine ⟨M3, N, N0, S1, S0, ?_, st_mono k2⟩
        unfold fL_way
        rw [if_neg (show ¬ nI wy = 16 from ne 16 c16 (by decide)), if_neg (show ¬ nI wy = 17 from ne 17 c17 (by decide)), k1, z_b2s, if_pos (by rw [c18]; rfl)]
      · by_cases c19 : wy = 19
        · obtain ⟨M11, M13, k1, k2, k3, k4⟩ := f_crash hQ
          refine ⟨M13, N0, N0, S0, S0, ?_, st_mono k4⟩
          have q1 : z_ld M13 171 32 0 = some (nI (S0 3395)) := by simp (disch := first | omega | assumption) only [l_0, l_1, l_2, l_3, l_4, l_5, l_6, l_7, l_8, l_11, l_12, l_15, l_16, l_31, l_32, l_66, l_80, l_100, l_127, l_128, l_768, l_2304, l_2310, l_2316, l_2388, l_2394, l_2406, l_2418, l_2430, l_2558, l_2686, l_2814, l_2942, l_3070, l_3390, l_3394, l_3395, l_3396, l_3397, n_leT, n_leF, n_ltT, n_ltF, n_eqT, n_eqF, nI_add, pk_mul, n_sub, z_ldn, z_san, z_bs, z_b2s, z_b3s, z_ocN, z_ocS, z_oxL, z_oxR, z_scL, z_scR, ↓reduceIte, Nat.zero_add, Nat.add_zero, Nat.zero_lt_succ, true_and, and_true, eq_self, k3]
          unfold fL_way
          rw [if_neg (show ¬ nI wy = 16 from ne 16 c16 (by decide)), if_neg (show ¬ nI wy = 17 from ne 17 c17 (by decide)), if_neg (show ¬ nI wy = 18 from ne 18 c18 (by decide)), if_pos (by rw [c19]; rfl), k1, z_bs, k2, z_b2s, q1, z_bs, if_pos rfl]
          rfl
        · obtain ⟨M18, h18, f18, hh⟩ := f_had hQ.1.1 hQ.1.2.1
          have h18 : z_loop (fun q : Int32 × zM => fL_way_L1 q.1 q.2) z_FU (0, M) = some M18 := h18
          have m0 := hQ.2.1.2.2.1.1
          have m1 := hQ.2.1.2.2.1.2.1
          have ho := (I_bnd hQ.1.2.1).1
          have no2 : ∀ M' : zM, (if nI 0 = (0 : Int32) then some M' else none) = some M' := fun M' => if_pos rfl
          by_cases tk : wy ≤ 21 ∨ j9 = -nI 1
          · obtain ⟨M42, M36, M39, M34, N', S', k1, k2, k3, k4, k5, k6⟩ := f_commit (Nat.lt_succ_of_lt hn) hQ f18 hh
            refine ⟨M34, N', N', S', S', ?_, k6⟩
            have qt : ((if nI wy ≤ 21 then (some 0) else (if j9 < 0 then (some 0) else (some 1)) : Option Int32)) = some (nI 0) := by
              rcases tk with t | t
              · rw [if_pos (show nI wy ≤ 21 from w_leY t (by omega) (by decide))]
                rfl
              · by_cases t2 : wy ≤ 21
                · rw [if_pos (show nI wy ≤ 21 from w_leY t2 (by omega) (by decide))]
                  rfl
                · rw [if_neg (show ¬ nI wy ≤ 21 from w_leN t2 (by omega) (by decide)), t, if_pos (by decide)]
                  rfl
            have ql : z_loop (fun q : Int32 × zM => fL_way_L2 (nI d) j9 (nI 0) q.1 q.2) z_FU (0, M18) = some M18 := by
              obtain ⟨r, y1, y2⟩ := z_loopM (f := fun q : Int32 × zM => fL_way_L2 (nI d) j9 (nI 0) q.1 q.2) (fun _ M' => M' = M18) (fun M' => M' = M18) 0 0 (by omega) rfl rfl (fun k M' hk => by omega) (fun M' hh => ⟨M', by simp (disch := first | omega | assumption) only [l_0, l_1, l_2, l_3, l_4, l_5, l_6, l_7, l_8, l_11, l_12, l_15, l_16, l_31, l_32, l_66, l_80, l_100, l_127, l_128, l_768, l_2304, l_2310, l_2316, l_2388, l_2394, l_2406, l_2418, l_2430, l_2558, l_2686, l_2814, l_2942, l_3070, l_3390, l_3394, l_3395, l_3396, l_3397, n_leT, n_leF, n_ltT, n_ltF, n_eqT, n_eqF, nI_add, pk_mul, n_sub, z_ldn, z_san, z_bs, z_b2s, z_b3s, z_ocN, z_ocS, z_oxL, z_oxR, z_scL, z_scR, ↓reduceIte, Nat.zero_add, Nat.add_zero, Nat.zero_lt_succ, true_and, and_true, eq_self, n_div, n_mod, z_ldJn, z_saJn, f_blk, f_plc, l_9, l_10, l_13, l_14, l_17, l_18, l_19, l_20, l_21, l_22, l_24, l_28, l_60, l_61, l_62, l_64, l_98, l_99, z_ntR, z_ntwR, z_bz0, z_bz1, fL_way_L2], hh⟩)
              rw [y2] at y1
              exact y1
            have q1 : z_ld M42 171 32 0 = some (nI (S 3395)) := by simp (disch := first | omega | assumption) only [l_0, l_1, l_2, l_3, l_4, l_5, l_6, l_7, l_8, l_11, l_12, l_15, l_16, l_31, l_32, l_66, l_80, l_100, l_127, l_128, l_768, l_2304, l_2310, l_2316, l_2388, l_2394, l_2406, l_2418, l_2430, l_2558, l_2686, l_2814, l_2942, l_3070, l_3390, l_3394, l_3395, l_3396, l_3397, n_leT, n_leF, n_ltT, n_ltF, n_eqT, n_eqF, nI_add, pk_mul, n_sub, z_ldn, z_san, z_bs, z_b2s, z_b3s, z_ocN, z_ocS, z_oxL, z_oxR, z_scL, z_scR, ↓reduceIte, Nat.zero_add, Nat.add_zero, Nat.zero_lt_succ, true_and, and_true, eq_self, k2]
            have k3 : fL_settle 169 170 171 M42 = some (0, M36) := k3
            have z10 : ¬ (1 : Int32) = 0 := by decide
            have z11 : ¬ nI 1 = (0 : Int32) := by decide
            unfold fL_way
            rw [if_neg (show ¬ nI wy = 16 from ne 16 c16 (by decide)), if_neg (show ¬ nI wy = 17 from ne 17 c17 (by decide)), if_neg (show ¬ nI wy = 18 from ne 18 c18 (by decide)), if_neg (show ¬ nI wy = 19 from ne 19 c19 (by decide)), h18, z_bs, qt, z_bs, ql, z_bs, if_pos (show nI 0 = 0 from rfl), z_bs, if_pos (show nI 0 = 0 from rfl), k1, z_b2s, q1, z_bs, if_pos rfl, z_b2s, if_neg z10, k3, z_b2s, if_pos rfl, k4, z_b2s, if_neg z11, z_b2s, k5, z_bs]
            rfl
          · have t1 : ¬ wy ≤ 21 := fun x => tk (Or.inl x)
            rcases hj9 with hj9 | ⟨f, hf, hjf, h0, hlow⟩
            · exact absurd (Or.inr hj9) tk
            · subst hjf
              have qt : ((if nI wy ≤ 21 then (some 0) else (if nI f < 0 then (some 0) else (some 1)) : Option Int32)) = some (nI 1) := by
                rw [if_neg (show ¬ nI wy ≤ 21 from w_leN t1 (by omega) (by decide)), if_neg (fun x => by
                  rw [show (0 : Int32) = nI 0 from rfl, n_ltF (by omega) (by omega) (by omega)] at x
                  exact x)]
                rfl
              obtain ⟨M24, l1, l2, l3⟩ := z_loopR (f := fun q : Int32 × zM => fL_way_L2 (nI d) (nI f) (nI 1) q.1 q.2) 169 (12 + 4 * f) 0 4 (fun j => M 169 (4 * d + j)) (by omega) (s := nI 0) (M := M18) rfl (fun i M' hi hf2 hv => by
                rw [Nat.zero_add]
                have e : M' 169 (4 * d + i) = M 169 (4 * d + i) := by rw [hv, if_neg (by omega), f18 169 (by decide)]
                simp (disch := first | omega | assumption) only [l_0, l_1, l_2, l_3, l_4, l_5, l_6, l_7, l_8, l_11, l_12, l_15, l_16, l_31, l_32, l_66, l_80, l_100, l_127, l_128, l_768, l_2304, l_2310, l_2316, l_2388, l_2394, l_2406, l_2418, l_2430, l_2558, l_2686, l_2814, l_2942, l_3070, l_3390, l_3394, l_3395, l_3396, l_3397, n_leT, n_leF, n_ltT, n_ltF, n_eqT, n_eqF, nI_add, pk_mul, n_sub, z_ldn, z_san, z_bs, z_b2s, z_b3s, z_ocN, z_ocS, z_oxL, z_oxR, z_scL, z_scR, ↓reduceIte, Nat.zero_add, Nat.add_zero, Nat.zero_lt_succ, true_and, and_true, eq_self, n_div, n_mod, z_ldJn, z_saJn, f_blk, f_plc, l_9, l_10, l_13, l_14, l_17, l_18, l_19, l_20, l_21, l_22, l_24, l_28, l_60, l_61, l_62, l_64, l_98, l_99, z_ntR, z_ntwR, z_bz0, z_bz1, fL_way_L2, e]) (fun M' => by simp (disch := first | omega | assumption) only [l_0, l_1, l_2, l_3, l_4, l_5, l_6, l_7, l_8, l_11, l_12, l_15, l_16, l_31, l_32, l_66, l_80, l_100, l_127, l_128, l_768, l_2304, l_2310, l_2316, l_2388, l_2394, l_2406, l_2418, l_2430, l_2558, l_2686, l_2814, l_2942, l_3070, l_3390, l_3394, l_3395, l_3396, l_3397, n_leT, n_leF, n_ltT, n_ltF, n_eqT, n_eqF, nI_add, pk_mul, n_sub, z_ldn, z_san, z_bs, z_b2s, z_b3s, z_ocN, z_ocS, z_oxL, z_oxR, z_scL, z_scR, ↓reduceIte, Nat.zero_add, Nat.add_zero, Nat.zero_lt_succ, true_and, and_true, eq_self, n_div, n_mod, z_ldJn, z_saJn, f_blk, f_plc, l_9, l_10, l_13, l_14, l_17, l_18, l_19, l_20, l_21, l_22, l_24, l_28, l_60, l_61, l_62, l_64, l_98, l_99, z_ntR, z_ntwR, z_bz0, z_bz1, fL_way_L2])
              have l1 : z_loop (fun q : Int32 × zM => fL_way_L2 (nI d) (nI f) (nI 1) q.1 q.2) z_FU (0, M18) = some M24 := l1
              have e24 : M24 171 = M 171 := by rw [l2 171 (by decide), f18 171 (by decide)]
              obtain ⟨M27, hM27⟩ : ∃ M27, z_st (z_st (z_st (z_st M24 171 (12 + f) (nI (S 3394 + 1))) 171 (16 + f) (nI d)) 171 (20 + f) (nI (S 3395))) 171 1 (nI (S 3394 + 1)) = M27 := ⟨_, rfl⟩
              have f27 : ∀ a, a ≠ 171 → M27 a = M24 a := fun a ha => by rw [← hM27, s_n ha, s_n ha, s_n ha, s_n ha]
              have r27 : ∀ i, M27 171 i = if i = 12 + f then nI (S 3394 + 1) else if i = 16 + f then nI d else if i = 20 + f then nI (S 3395) else if i = 1 then nI (S 3394 + 1) else M 171 i := fun i => by
                rw [← hM27, s_s, s_s, s_s, s_s, e24]
                unfold upd
                by_cases y1 : i = 1
                · rw [if_pos y1, if_neg (by omega), if_neg (by omega), if_neg (by omega), if_pos y1]
                · rw [if_neg y1]
                  by_cases y2 : i = 20 + f
                  · rw [if_pos y2, if_neg (by omega), if_neg (by omega), if_pos y2]
                  · rw [if_neg y2]
                    by_cases y3 : i = 16 + f
                    · rw [if_pos y3, if_neg (by omega), if_pos y3]
                    · rw [if_neg y3]
                      by_cases y4 : i = 12 + f
                      · rw [if_pos y4, if_pos y4]
                      · rw [if_neg y4, if_neg y4, if_neg y3, if_neg y2, if_neg y1]
              obtain ⟨M42, M36, M39, M34, N', S', k1, k2, k3, k4, k5, k6⟩ := f_snap (M27 := M27) (Nat.lt_succ_of_lt hn) hQ hd h1 hf h0 hlow (fun a y1 y2 y3 => by rw [f27 a y2, l2 a y1, f18 a y3]) (fun p => by rw [f27 169 (by decide), l3, f18 169 (by decide)]) r27 (fun r hr => by rw [f27 175 (by decide), l2 175 (by decide)]; exact hh r hr)
              refine ⟨M34, N', N', S', S', ?_, k6⟩
              have q1 : z_ld M24 171 32 1 = some (nI (S 3394)) := by
                have e : M24 171 1 = nI (S 3394) := by rw [e24]; exact m1
                simp (disch := first | omega | assumption) only [l_0, l_1, l_2, l_3, l_4, l_5, l_6, l_7, l_8, l_11, l_12, l_15, l_16, l_31, l_32, l_66, l_80, l_100, l_127, l_128, l_768, l_2304, l_2310, l_2316, l_2388, l_2394, l_2406, l_2418, l_2430, l_2558, l_2686, l_2814, l_2942, l_3070, l_3390, l_3394, l_3395, l_3396, l_3397, n_leT, n_leF, n_ltT, n_ltF, n_eqT, n_eqF, nI_add, pk_mul, n_sub, z_ldn, z_san, z_bs, z_b2s, z_b3s, z_ocN, z_ocS, z_oxL, z_oxR, z_scL, z_scR, ↓reduceIte, Nat.zero_add, Nat.add_zero, Nat.zero_lt_succ, true_and, and_true, eq_self, e]
              have q2 : z_sa M24 171 32 (12 + nI f) (nI (S 3394) + 1) = some (z_st M24 171 (12 + f) (nI (S 3394 + 1))) := by simp (disch := first | omega | assumption) only [l_0, l_1, l_2, l_3, l_4, l_5, l_6, l_7, l_8, l_11, l_12, l_15, l_16, l_31, l_32, l_66, l_80, l_100, l_127, l_128, l_768, l_2304, l_2310, l_2316, l_2388, l_2394, l_2406, l_2418, l_2430, l_2558, l_2686, l_2814, l_2942, l_3070, l_3390, l_3394, l_3395, l_3396, l_3397, n_leT, n_leF, n_ltT, n_ltF, n_eqT, n_eqF, nI_add, pk_mul, n_sub, z_ldn, z_san, z_bs, z_b2s, z_b3s, z_ocN, z_ocS, z_oxL, z_oxR, z_scL, z_scR, ↓reduceIte, Nat.zero_add, Nat.add_zero, Nat.zero_lt_succ, true_and, and_true, eq_self]
              have q3 : z_sa (z_st M24 171 (12 + f) (nI (S 3394 + 1))) 171 32 (16 + nI f) (nI d) = some (z_st (z_st M24 171 (12 + f) (nI (S 3394 + 1))) 171 (16 + f) (nI d)) := by simp (disch := first | omega | assumption) only [l_0, l_1, l_2, l_3, l_4, l_5, l_6, l_7, l_8, l_11, l_12, l_15, l_16, l_31, l_32, l_66, l_80, l_100, l_127, l_128, l_768, l_2304, l_2310, l_2316, l_2388, l_2394, l_2406, l_2418, l_2430, l_2558, l_2686, l_2814, l_2942, l_3070, l_3390, l_3394, l_3395, l_3396, l_3397, n_leT, n_leF, n_ltT, n_ltF, n_eqT, n_eqF, nI_add, pk_mul, n_sub, z_ldn, z_san, z_bs, z_b2s, z_b3s, z_ocN, z_ocS, z_oxL, z_oxR, z_scL, z_scR, ↓reduceIte, Nat.zero_add, Nat.add_zero, Nat.zero_lt_succ, true_and, and_true, eq_self]
              have q4 : z_ld (z_st (z_st M24 171 (12 + f) (nI (S 3394 + 1))) 171 (16 + f) (nI d)) 171 32 0 = some (nI (S 3395)) := by
                have e : (z_st (z_st M24 171 (12 + f) (nI (S 3394 + 1))) 171 (16 + f) (nI d)) 171 0 = nI (S 3395) := by
                  rw [s_s, u_n (by omega), s_s, u_n (by omega), e24]
                  exact m0
                simp (disch := first | omega | assumption) only [l_0, l_1, l_2, l_3, l_4, l_5, l_6, l_7, l_8, l_11, l_12, l_15, l_16, l_31, l_32, l_66, l_80, l_100, l_127, l_128, l_768, l_2304, l_2310, l_2316, l_2388, l_2394, l_2406, l_2418, l_2430, l_2558, l_2686, l_2814, l_2942, l_3070, l_3390, l_3394, l_3395, l_3396, l_3397, n_leT, n_leF, n_ltT, n_ltF, n_eqT, n_eqF, nI_add, pk_mul, n_sub, z_ldn, z_san, z_bs, z_b2s, z_b3s, z_ocN, z_ocS, z_oxL, z_oxR, z_scL, z_scR, ↓reduceIte, Nat.zero_add, Nat.add_zero, Nat.zero_lt_succ, true_and, and_true, eq_self, e]
              have q5 : ∀ M0 : zM, z_sa M0 171 32 (20 + nI f) (nI (S 3395)) = some (z_st M0 171 (20 + f) (nI (S 3395))) := fun M0 => by simp (disch := first | omega | assumption) only [l_0, l_1, l_2, l_3, l_4, l_5, l_6, l_7, l_8, l_11, l_12, l_15, l_16, l_31, l_32, l_66, l_80, l_100, l_127, l_128, l_768, l_2304, l_2310, l_2316, l_2388, l_2394, l_2406, l_2418, l_2430, l_2558, l_2686, l_2814, l_2942, l_3070, l_3390, l_3394, l_3395, l_3396, l_3397, n_leT, n_leF, n_ltT, n_ltF, n_eqT, n_eqF, nI_add, pk_mul, n_sub, z_ldn, z_san, z_bs, z_b2s, z_b3s, z_ocN, z_ocS, z_oxL, z_oxR, z_scL, z_scR, ↓reduceIte, Nat.zero_add, Nat.add_zero, Nat.zero_lt_succ, true_and, and_true, eq_self, n_div, n_mod, z_ldJn, z_saJn, f_blk, f_plc, l_9, l_10, l_13, l_14, l_17, l_18, l_19, l_20, l_21, l_22, l_24, l_28, l_60, l_61, l_62, l_64, l_98, l_99]
              have q6 : z_ld (z_st (z_st (z_st M24 171 (12 + f) (nI (S 3394 + 1))) 171 (16 + f) (nI d)) 171 (20 + f) (nI (S 3395))) 171 32 1 = some (nI (S 3394)) := by
                have e : (z_st (z_st (z_st M24 171 (12 + f) (nI (S 3394 + 1))) 171 (16 + f) (nI d)) 171 (20 + f) (nI (S 3395))) 171 1 = nI (S 3394) := by
                  rw [s_s, u_n (by omega), s_s, u_n (by omega), s_s, u_n (by omega), e24]
                  exact m1
                simp (disch := first | omega | assumption) only [l_0, l_1, l_2, l_3, l_4, l_5, l_6, l_7, l_8, l_11, l_12, l_15, l_16, l_31, l_32, l_66, l_80, l_100, l_127, l_128, l_768, l_2304, l_2310, l_2316, l_2388, l_2394, l_2406, l_2418, l_2430, l_2558, l_2686, l_2814, l_2942, l_3070, l_3390, l_3394, l_3395, l_3396, l_3397, n_leT, n_leF, n_ltT, n_ltF, n_eqT, n_eqF, nI_add, pk_mul, n_sub, z_ldn, z_san, z_bs, z_b2s, z_b3s, z_ocN, z_ocS, z_oxL, z_oxR, z_scL, z_scR, ↓reduceIte, Nat.zero_add, Nat.add_zero, Nat.zero_lt_succ, true_and, and_true, eq_self, e]
              have q7 : ∀ M0 : zM, z_sa M0 171 32 1 (nI (S 3394) + 1) = some (z_st M0 171 1 (nI (S 3394 + 1))) := fun M0 => by simp (disch := first | omega | assumption) only [l_0, l_1, l_2, l_3, l_4, l_5, l_6, l_7, l_8, l_11, l_12, l_15, l_16, l_31, l_32, l_66, l_80, l_100, l_127, l_128, l_768, l_2304, l_2310, l_2316, l_2388, l_2394, l_2406, l_2418, l_2430, l_2558, l_2686, l_2814, l_2942, l_3070, l_3390, l_3394, l_3395, l_3396, l_3397, n_leT, n_leF, n_ltT, n_ltF, n_eqT, n_eqF, nI_add, pk_mul, n_sub, z_ldn, z_san, z_bs, z_b2s, z_b3s, z_ocN, z_ocS, z_oxL, z_oxR, z_scL, z_scR, ↓reduceIte, Nat.zero_add, Nat.add_zero, Nat.zero_lt_succ, true_and, and_true, eq_self, n_div, n_mod, z_ldJn, z_saJn, f_blk, f_plc, l_9, l_10, l_13, l_14, l_17, l_18, l_19, l_20, l_21, l_22, l_24, l_28, l_60, l_61, l_62, l_64, l_98, l_99]
              have q8 : (fX6_snapshot 0 (nI d) M27).bind z_ntw = some (nI (S 3394), M42) := by
                rw [k1]
                rfl
              have q9 : z_ld M42 171 32 1 = some (nI (S 3394 + 1)) := by simp (disch := first | omega | assumption) only [l_0, l_1, l_2, l_3, l_4, l_5, l_6, l_7, l_8, l_11, l_12, l_15, l_16, l_31, l_32, l_66, l_80, l_100, l_127, l_128, l_768, l_2304, l_2310, l_2316, l_2388, l_2394, l_2406, l_2418, l_2430, l_2558, l_2686, l_2814, l_2942, l_3070, l_3390, l_3394, l_3395, l_3396, l_3397, n_leT, n_leF, n_ltT, n_ltF, n_eqT, n_eqF, nI_add, pk_mul, n_sub, z_ldn, z_san, z_bs, z_b2s, z_b3s, z_ocN, z_ocS, z_oxL, z_oxR, z_scL, z_scR, ↓reduceIte, Nat.zero_add, Nat.add_zero, Nat.zero_lt_succ, true_and, and_true, eq_self, k2]
              have q10 : nI (S 3394) = nI (S 3394 + 1) - 1 := by
                rw [show (1 : Int32) = nI 1 from rfl, n_sub (by omega), Nat.add_sub_cancel]
              have k3 : fL_settle 169 170 171 M42 = some (0, M36) := k3
              have z10 : ¬ (1 : Int32) = 0 := by decide
              have z11 : ¬ nI 1 = (0 : Int32) := by decide
              unfold fL_way
              rw [if_neg (show ¬ nI wy = 16 from ne 16 c16 (by decide)), if_neg (show ¬ nI wy = 17 from ne 17 c17 (by decide)), if_neg (show ¬ nI wy = 18 from ne 18 c18 (by decide)), if_neg (show ¬ nI wy = 19 from ne 19 c19 (by decide)), h18, z_bs, qt, z_bs, l1, z_bs, if_neg z11, q1, z_bs, q2, z_bs, q3, z_bs, q4, z_bs, q5, z_bs, q6, z_bs, q7, z_bs, hM27, z_bs, if_neg z11, q8, z_b2s, q9, z_bs, if_pos q10, z_b2s, if_neg z10, k3, z_b2s, if_pos rfl, k4, z_b2s, if_neg z11, z_b2s, k5, z_bs]
              rfl
