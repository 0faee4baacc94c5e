/-! ===== the law's snapshots: rollback, the rows ===== -/
set_option maxHeartbeats 2000000 in
theorem f_ro3 {n : Nat} {M : zM} {S : Nat → Nat} (hM : L_m 171 M S) (hI : z_I n S) (hn : n < 512) (hs : q_sm S) {d s : Nat} (hd : d < 3) (hs4 : s < 4) (h0 : S (2394 + s) ≠ 0) : ∃ M', z_loop (fun q : Int32 × zM => fL_snapshots_L3 169 171 (nI s) (nI (S (2394 + s))) (nI d) (nI 1) q.1 q.2) z_FU (nI 0, M) = some M' ∧ (∀ a, a ≠ 169 → a ≠ 171 → M' a = M a) ∧ (∀ i, M' 171 i = if 12 ≤ i ∧ i < 12 + 4 ∧ q_be S d s (i - 12) then nI 0 else M 171 i) ∧ ∀ p, p < 28 → M' 169 p = if 4 * d ≤ p ∧ p < 4 * d + 4 then M 169 (12 + 4 * s + (p - 4 * d)) else if 12 ≤ p ∧ (p - 12) / 4 < 4 ∧ q_be S d s ((p - 12) / 4) then nI 0 else M 169 p := by
  refine z_loopM (f := fun q : Int32 × zM => fL_snapshots_L3 169 171 (nI s) (nI (S (2394 + s))) (nI d) (nI 1) q.1 q.2) (fun k M' => (∀ a, a ≠ 169 → a ≠ 171 → M' a = M a) ∧ (∀ i, M' 171 i = if 12 ≤ i ∧ i < 12 + k ∧ q_be S d s (i - 12) then nI 0 else M 171 i) ∧ ∀ p, p < 28 → M' 169 p = if 4 * d ≤ p ∧ p < 4 * d + k then M 169 (12 + 4 * s + (p - 4 * d)) else if 12 ≤ p ∧ (p - 12) / 4 < k ∧ q_be S d s ((p - 12) / 4) then nI 0 else M 169 p) (fun M' => (∀ a, a ≠ 169 → a ≠ 171 → M' a = M a) ∧ (∀ i, M' 171 i = if 12 ≤ i ∧ i < 12 + 4 ∧ q_be S d s (i - 12) then nI 0 else M 171 i) ∧ ∀ p, p < 28 → M' 169 p = if 4 * d ≤ p ∧ p < 4 * d + 4 then M 169 (12 + 4 * s + (p - 4 * d)) else if 12 ≤ p ∧ (p - 12) / 4 < 4 ∧ q_be S d s ((p - 12) / 4) then nI 0 else M 169 p) 0 4 (by omega) rfl ⟨fun a _ _ => rfl, fun i => by rw [if_neg (by omega)], fun p hp => by rw [if_neg (by omega), if_neg (by omega)]⟩ (fun k M' hk hh => ?_) (fun M' hh => ⟨M', by simp (disch := first | omega | assumption) only [l_0, l_1, l_2, l_3, l_4, l_5, l_6, l_7, l_8, l_11, l_12, l_15, l_16, l_31, l_32, l_66, l_80, l_100, l_127, l_128, l_768, l_2304, l_2310, l_2316, l_2388, l_2394, l_2406, l_2418, l_2430, l_2558, l_2686, l_2814, l_2942, l_3070, l_3390, l_3394, l_3395, l_3396, l_3397, n_leT, n_leF, n_ltT, n_ltF, n_eqT, n_eqF, nI_add, pk_mul, n_sub, z_ldn, z_san, z_bs, z_b2s, z_b3s, z_ocN, z_ocS, z_oxL, z_oxR, z_scL, z_scR, ↓reduceIte, Nat.zero_add, Nat.add_zero, Nat.zero_lt_succ, true_and, and_true, eq_self, n_div, n_mod, z_ldJn, z_saJn, f_blk, f_plc, l_9, l_10, l_13, l_14, l_17, l_18, l_19, l_20, l_21, l_22, l_24, l_28, l_60, l_61, l_62, l_64, l_98, l_99, z_ntR, z_ntwR, z_bz0, z_bz1, fL_snapshots_L3], hh⟩)
  obtain ⟨a1, a2, a3⟩ := hh
  rw [Nat.zero_add]
  have hns : ¬ q_be S d s s := fun x => absurd x.1 (Nat.lt_irrefl _)
  have g1 : M' 171 (12 + k) = nI (S (2394 + k)) := by
    rw [a2, if_neg (by omega)]
    exact (hM.2.2 k hk).1
  have gs : ∀ M2 : zM, (∀ p, p < 28 → (12 + 4 * k ≤ p ∧ p < 12 + 4 * k + 4) = False ∨ M2 169 p = M' 169 p) → True := fun _ _ => trivial
  have hsrc : M' 169 (12 + 4 * s + k) = M 169 (12 + 4 * s + k) := by
    rw [a3 _ (by omega), if_neg (by omega), if_neg (fun x => hns (by
      have e : (12 + 4 * s + k - 12) / 4 = s := by omega
      rw [e] at x
      exact x.2.2))]
  have hb := I_nb hI k (by omega)
  have hb2 := I_nb hI s (by omega)
  have e1 : 1 ≤ S (2394 + s) := by omega
  have hm1 : (nI 0 - nI 1 ≤ nI (S (2394 + s) - 1)) = True := n_m1le (by omega)
  by_cases c : q_be S d s k
  · have hks : k ≠ s := fun x => hns (by rw [x] at c; exact c)
    obtain ⟨M50, d1, d2, d3, d4⟩ := f_drop (M := M') (X := 169) (C := 171) hk (by decide)
    have g2 : M' 171 (16 + k) = nI d := by
      rw [a2, if_neg (by omega), ((hM.2.2 k hk).2 (by omega)).1, c.2]
    have h50 : M50 169 (12 + 4 * s + k) = M 169 (12 + 4 * s + k) := by
      rw [d3, if_neg (by omega)]
      exact hsrc
    refine ⟨z_st M50 169 (4 * d + k) (M 169 (12 + 4 * s + k)), ?_, fun a q1 q2 => by rw [s_n q1, d4 a q1 q2]; exact a1 a q1 q2, fun i => ?_, fun p hp => ?_⟩
    · have e2 : 1 ≤ S (2394 + k) := by omega
      have hlt := c.1
      simp (disch := first | omega | assumption) only [l_0, l_1, l_2, l_3, l_4, l_5, l_6, l_7, l_8, l_11, l_12, l_15, l_16, l_31, l_32, l_66, l_80, l_100, l_127, l_128, l_768, l_2304, l_2310, l_2316, l_2388, l_2394, l_2406, l_2418, l_2430, l_2558, l_2686, l_2814, l_2942, l_3070, l_3390, l_3394, l_3395, l_3396, l_3397, n_leT, n_leF, n_ltT, n_ltF, n_eqT, n_eqF, nI_add, pk_mul, n_sub, z_ldn, z_san, z_bs, z_b2s, z_b3s, z_ocN, z_ocS, z_oxL, z_oxR, z_scL, z_scR, ↓reduceIte, Nat.zero_add, Nat.add_zero, Nat.zero_lt_succ, true_and, and_true, eq_self, n_div, n_mod, z_ldJn, z_saJn, f_blk, f_plc, l_9, l_10, l_13, l_14, l_17, l_18, l_19, l_20, l_21, l_22, l_24, l_28, l_60, l_61, l_62, l_64, l_98, l_99, z_ntR, z_ntwR, z_bz0, z_bz1, fL_snapshots_L3, g1, g2, d1, h50]
    · rw [s_n (by decide), d2]
      by_cases z : i = 12 + k
      · rw [z, u_s, if_pos ⟨by omega, by omega, by rw [Nat.add_sub_cancel_left]; exact c⟩]
      · rw [u_n z, a2]
        by_cases z2 : 12 ≤ i ∧ i < 12 + k ∧ q_be S d s (i - 12)
        · rw [if_pos z2, if_pos ⟨z2.1, by omega, z2.2.2⟩]
        · rw [if_neg z2, if_neg (fun x => z2 ⟨x.1, by omega, x.2.2⟩)]
    · rw [s_s]
      by_cases z : p = 4 * d + k
      · rw [z, u_s, if_pos ⟨by omega, by omega⟩, Nat.add_sub_cancel_left]
      · rw [u_n z, d3]
        by_cases z1 : 12 + 4 * k ≤ p ∧ p < 12 + 4 * k + 4
        · have e : (p - 12) / 4 = k := by omega
          rw [if_pos z1, if_neg (by omega), if_pos ⟨by omega, by omega, by rw [e]; exact c⟩]
        · rw [if_neg z1, a3 p hp]
          by_cases z2 : 4 * d ≤ p ∧ p < 4 * d + k
          · rw [if_pos z2, if_pos ⟨z2.1, by omega⟩]
          · rw [if_neg z2, if_neg (c := 4 * d ≤ p ∧ p < 4 * d + (k + 1)) (by omega)]
            by_cases z3 : 12 ≤ p ∧ (p - 12) / 4 < k ∧ q_be S d s ((p - 12) / 4)
            · rw [if_pos z3, if_pos ⟨z3.1, by omega, z3.2.2⟩]
            · rw [if_neg z3, if_neg (fun x => z3 ⟨x.1, by omega, x.2.2⟩)]
  · refine ⟨z_st M' 169 (4 * d + k) (M 169 (12 + 4 * s + k)), ?_, fun a q1 q2 => by rw [s_n q1]; exact a1 a q1 q2, fun i => ?_, fun p hp => ?_⟩
    · by_cases cz : S (2394 + k) = 0
      · rw [cz] at g1
        simp (disch := first | omega | assumption) only [l_0, l_1, l_2, l_3, l_4, l_5, l_6, l_7, l_8, l_11, l_12, l_15, l_16, l_31, l_32, l_66, l_80, l_100, l_127, l_128, l_768, l_2304, l_2310, l_2316, l_2388, l_2394, l_2406, l_2418, l_2430, l_2558, l_2686, l_2814, l_2942, l_3070, l_3390, l_3394, l_3395, l_3396, l_3397, n_leT, n_leF, n_ltT, n_ltF, n_eqT, n_eqF, nI_add, pk_mul, n_sub, z_ldn, z_san, z_bs, z_b2s, z_b3s, z_ocN, z_ocS, z_oxL, z_oxR, z_scL, z_scR, ↓reduceIte, Nat.zero_add, Nat.add_zero, Nat.zero_lt_succ, true_and, and_true, eq_self, n_div, n_mod, z_ldJn, z_saJn, f_blk, f_plc, l_9, l_10, l_13, l_14, l_17, l_18, l_19, l_20, l_21, l_22, l_24, l_28, l_60, l_61, l_62, l_64, l_98, l_99, z_ntR, z_ntwR, z_bz0, z_bz1, fL_snapshots_L3, g1, hm1, hsrc]
      · have e2 : 1 ≤ S (2394 + k) := by omega
        have g2 : M' 171 (16 + k) = nI (S (2418 + k)) := by
          rw [a2, if_neg (by omega), ((hM.2.2 k hk).2 cz).1]
        have how := I_own6 hI k (by omega) cz
        by_cases cl : S (2394 + s) < S (2394 + k)
        · have co : ¬ S (2418 + k) = d := fun x => c ⟨cl, x⟩
          simp (disch := first | omega | assumption) only [l_0, l_1, l_2, l_3, l_4, l_5, l_6, l_7, l_8, l_11, l_12, l_15, l_16, l_31, l_32, l_66, l_80, l_100, l_127, l_128, l_768, l_2304, l_2310, l_2316, l_2388, l_2394, l_2406, l_2418, l_2430, l_2558, l_2686, l_2814, l_2942, l_3070, l_3390, l_3394, l_3395, l_3396, l_3397, n_leT, n_leF, n_ltT, n_ltF, n_eqT, n_eqF, nI_add, pk_mul, n_sub, z_ldn, z_san, z_bs, z_b2s, z_b3s, z_ocN, z_ocS, z_oxL, z_oxR, z_scL, z_scR, ↓reduceIte, Nat.zero_add, Nat.add_zero, Nat.zero_lt_succ, true_and, and_true, eq_self, n_div, n_mod, z_ldJn, z_saJn, f_blk, f_plc, l_9, l_10, l_13, l_14, l_17, l_18, l_19, l_20, l_21, l_22, l_24, l_28, l_60, l_61, l_62, l_64, l_98, l_99, z_ntR, z_ntwR, z_bz0, z_bz1, fL_snapshots_L3, g1, g2, hsrc]
        · simp (disch := first | omega | assumption) only [l_0, l_1, l_2, l_3, l_4, l_5, l_6, l_7, l_8, l_11, l_12, l_15, l_16, l_31, l_32, l_66, l_80, l_100, l_127, l_128, l_768, l_2304, l_2310, l_2316, l_2388, l_2394, l_2406, l_2418, l_2430, l_2558, l_2686, l_2814, l_2942, l_3070, l_3390, l_3394, l_3395, l_3396, l_3397, n_leT, n_leF, n_ltT, n_ltF, n_eqT, n_eqF, nI_add, pk_mul, n_sub, z_ldn, z_san, z_bs, z_b2s, z_b3s, z_ocN, z_ocS, z_oxL, z_oxR, z_scL, z_scR, ↓reduceIte, Nat.zero_add, Nat.add_zero, Nat.zero_lt_succ, true_and, and_true, eq_self, n_div, n_mod, z_ldJn, z_saJn, f_blk, f_plc, l_9, l_10, l_13, l_14, l_17, l_18, l_19, l_20, l_21, l_22, l_24, l_28, l_60, l_61, l_62, l_64, l_98, l_99, z_ntR, z_ntwR, z_bz0, z_bz1, fL_snapshots_L3, g1, hsrc]
    · rw [s_n (by decide), a2]
      by_cases z2 : 12 ≤ i ∧ i < 12 + k ∧ q_be S d s (i - 12)
      · rw [if_pos z2, if_pos ⟨z2.1, by omega, z2.2.2⟩]
      · rw [if_neg z2, if_neg (fun x => z2 ⟨x.1, Classical.byContradiction (fun y => c (by
          have e : i - 12 = k := by omega
          rw [← e]
          exact x.2.2)), x.2.2⟩)]
    · rw [s_s]
      by_cases z : p = 4 * d + k
      · rw [z, u_s, if_pos ⟨by omega, by omega⟩, Nat.add_sub_cancel_left]
      · rw [u_n z, a3 p hp]
        by_cases z2 : 4 * d ≤ p ∧ p < 4 * d + k
        · rw [if_pos z2, if_pos ⟨z2.1, by omega⟩]
        · rw [if_neg z2, if_neg (c := 4 * d ≤ p ∧ p < 4 * d + (k + 1)) (by omega)]
          by_cases z3 : 12 ≤ p ∧ (p - 12) / 4 < k ∧ q_be S d s ((p - 12) / 4)
          · rw [if_pos z3, if_pos ⟨z3.1, by omega, z3.2.2⟩]
          · rw [if_neg z3, if_neg (fun x => z3 ⟨x.1, Classical.byContradiction (fun y => c (by
              have e : (p - 12) / 4 = k := by omega
              rw [← e]
              exact x.2.2)), x.2.2⟩)]
