/-! ===== the law's runs ===== -/
theorem f_kind {M : zM} {N : Nat → Int32} {S : Nat → Nat} (hB : L_b 170 M N S) (hb : ∀ b, b < 128 → S (2942 + b) ≤ 1) {i kd : Nat} (hi : i < 64) (hk : kd ≤ 2) : fL_isKind 170 (nI i) (nI kd) M = some (nI (gm S kd (q_bl i))) := by
  have g61 := f_h61 hi (hB i hi)
  have g62 := f_h62 hi (hB i hi)
  have hbb := hb _ (bl_128 hi)
  have hk3 : kd = 0 ∨ kd = 1 ∨ kd = 2 := by omega
  rcases hk3 with e | e | e
  · subst e
    have ed : gm S 0 (q_bl i) = if S (2814 + q_bl i) = 0 ∧ S (2942 + q_bl i) = 1 then 1 else 0 := rfl
    by_cases c : S (2814 + q_bl i) = 0
    · rw [if_pos c] at g62
      by_cases c2 : S (2942 + q_bl i) = 0
      · rw [if_pos c2] at g61
        rw [ed, if_neg (by omega)]
        simp (disch := first | omega | assumption) only [l_0, l_1, l_2, l_3, l_4, l_5, l_6, l_7, l_8, l_11, l_12, l_15, l_16, l_31, l_32, l_66, l_80, l_100, l_127, l_128, l_768, l_2304, l_2310, l_2316, l_2388, l_2394, l_2406, l_2418, l_2430, l_2558, l_2686, l_2814, l_2942, l_3070, l_3390, l_3394, l_3395, l_3396, l_3397, n_leT, n_leF, n_ltT, n_ltF, n_eqT, n_eqF, nI_add, pk_mul, n_sub, z_ldn, z_san, z_bs, z_b2s, z_b3s, z_ocN, z_ocS, z_oxL, z_oxR, z_scL, z_scR, ↓reduceIte, Nat.zero_add, Nat.add_zero, Nat.zero_lt_succ, true_and, and_true, eq_self, n_div, n_mod, z_ldJn, z_saJn, f_blk, f_plc, l_9, l_10, l_13, l_14, l_17, l_18, l_19, l_20, l_21, l_22, l_24, l_28, l_60, l_61, l_62, l_64, l_98, l_99, z_ntR, z_ntwR, z_bz0, z_bz1, fL_isKind, g61, g62]
      · rw [if_neg c2] at g61
        rw [ed, if_pos (by omega)]
        simp (disch := first | omega | assumption) only [l_0, l_1, l_2, l_3, l_4, l_5, l_6, l_7, l_8, l_11, l_12, l_15, l_16, l_31, l_32, l_66, l_80, l_100, l_127, l_128, l_768, l_2304, l_2310, l_2316, l_2388, l_2394, l_2406, l_2418, l_2430, l_2558, l_2686, l_2814, l_2942, l_3070, l_3390, l_3394, l_3395, l_3396, l_3397, n_leT, n_leF, n_ltT, n_ltF, n_eqT, n_eqF, nI_add, pk_mul, n_sub, z_ldn, z_san, z_bs, z_b2s, z_b3s, z_ocN, z_ocS, z_oxL, z_oxR, z_scL, z_scR, ↓reduceIte, Nat.zero_add, Nat.add_zero, Nat.zero_lt_succ, true_and, and_true, eq_self, n_div, n_mod, z_ldJn, z_saJn, f_blk, f_plc, l_9, l_10, l_13, l_14, l_17, l_18, l_19, l_20, l_21, l_22, l_24, l_28, l_60, l_61, l_62, l_64, l_98, l_99, z_ntR, z_ntwR, z_bz0, z_bz1, fL_isKind, g61, g62]
    · rw [if_neg c] at g62
      rw [ed, if_neg (by omega)]
      simp (disch := first | omega | assumption) only [l_0, l_1, l_2, l_3, l_4, l_5, l_6, l_7, l_8, l_11, l_12, l_15, l_16, l_31, l_32, l_66, l_80, l_100, l_127, l_128, l_768, l_2304, l_2310, l_2316, l_2388, l_2394, l_2406, l_2418, l_2430, l_2558, l_2686, l_2814, l_2942, l_3070, l_3390, l_3394, l_3395, l_3396, l_3397, n_leT, n_leF, n_ltT, n_ltF, n_eqT, n_eqF, nI_add, pk_mul, n_sub, z_ldn, z_san, z_bs, z_b2s, z_b3s, z_ocN, z_ocS, z_oxL, z_oxR, z_scL, z_scR, ↓reduceIte, Nat.zero_add, Nat.add_zero, Nat.zero_lt_succ, true_and, and_true, eq_self, n_div, n_mod, z_ldJn, z_saJn, f_blk, f_plc, l_9, l_10, l_13, l_14, l_17, l_18, l_19, l_20, l_21, l_22, l_24, l_28, l_60, l_61, l_62, l_64, l_98, l_99, z_ntR, z_ntwR, z_bz0, z_bz1, fL_isKind, g61, g62]
  · subst e
    have ed : gm S 1 (q_bl i) = if S (2814 + q_bl i) ≠ 0 ∧ S (2942 + q_bl i) ≠ 1 then 1 else 0 := rfl
    by_cases c : S (2814 + q_bl i) = 0
    · rw [if_pos c] at g62
      rw [ed, if_neg (by omega)]
      simp (disch := first | omega | assumption) only [l_0, l_1, l_2, l_3, l_4, l_5, l_6, l_7, l_8, l_11, l_12, l_15, l_16, l_31, l_32, l_66, l_80, l_100, l_127, l_128, l_768, l_2304, l_2310, l_2316, l_2388, l_2394, l_2406, l_2418, l_2430, l_2558, l_2686, l_2814, l_2942, l_3070, l_3390, l_3394, l_3395, l_3396, l_3397, n_leT, n_leF, n_ltT, n_ltF, n_eqT, n_eqF, nI_add, pk_mul, n_sub, z_ldn, z_san, z_bs, z_b2s, z_b3s, z_ocN, z_ocS, z_oxL, z_oxR, z_scL, z_scR, ↓reduceIte, Nat.zero_add, Nat.add_zero, Nat.zero_lt_succ, true_and, and_true, eq_self, n_div, n_mod, z_ldJn, z_saJn, f_blk, f_plc, l_9, l_10, l_13, l_14, l_17, l_18, l_19, l_20, l_21, l_22, l_24, l_28, l_60, l_61, l_62, l_64, l_98, l_99, z_ntR, z_ntwR, z_bz0, z_bz1, fL_isKind, g61, g62]
    · rw [if_neg c] at g62
      by_cases c2 : S (2942 + q_bl i) = 0
      · rw [if_pos c2] at g61
        rw [ed, if_pos (by omega)]
        simp (disch := first | omega | assumption) only [l_0, l_1, l_2, l_3, l_4, l_5, l_6, l_7, l_8, l_11, l_12, l_15, l_16, l_31, l_32, l_66, l_80, l_100, l_127, l_128, l_768, l_2304, l_2310, l_2316, l_2388, l_2394, l_2406, l_2418, l_2430, l_2558, l_2686, l_2814, l_2942, l_3070, l_3390, l_3394, l_3395, l_3396, l_3397, n_leT, n_leF, n_ltT, n_ltF, n_eqT, n_eqF, nI_add, pk_mul, n_sub, z_ldn, z_san, z_bs, z_b2s, z_b3s, z_ocN, z_ocS, z_oxL, z_oxR, z_scL, z_scR, ↓reduceIte, Nat.zero_add, Nat.add_zero, Nat.zero_lt_succ, true_and, and_true, eq_self, n_div, n_mod, z_ldJn, z_saJn, f_blk, f_plc, l_9, l_10, l_13, l_14, l_17, l_18, l_19, l_20, l_21, l_22, l_24, l_28, l_60, l_61, l_62, l_64, l_98, l_99, z_ntR, z_ntwR, z_bz0, z_bz1, fL_isKind, g61, g62]
      · rw [if_neg c2] at g61
        rw [ed, if_neg (by omega)]
        simp (disch := first | omega | assumption) only [l_0, l_1, l_2, l_3, l_4, l_5, l_6, l_7, l_8, l_11, l_12, l_15, l_16, l_31, l_32, l_66, l_80, l_100, l_127, l_128, l_768, l_2304, l_2310, l_2316, l_2388, l_2394, l_2406, l_2418, l_2430, l_2558, l_2686, l_2814, l_2942, l_3070, l_3390, l_3394, l_3395, l_3396, l_3397, n_leT, n_leF, n_ltT, n_ltF, n_eqT, n_eqF, nI_add, pk_mul, n_sub, z_ldn, z_san, z_bs, z_b2s, z_b3s, z_ocN, z_ocS, z_oxL, z_oxR, z_scL, z_scR, ↓reduceIte, Nat.zero_add, Nat.add_zero, Nat.zero_lt_succ, true_and, and_true, eq_self, n_div, n_mod, z_ldJn, z_saJn, f_blk, f_plc, l_9, l_10, l_13, l_14, l_17, l_18, l_19, l_20, l_21, l_22, l_24, l_28, l_60, l_61, l_62, l_64, l_98, l_99, z_ntR, z_ntwR, z_bz0, z_bz1, fL_isKind, g61, g62]
  · subst e
    have ed : gm S 2 (q_bl i) = if S (2814 + q_bl i) = 0 then 0 else 1 := rfl
    by_cases c : S (2814 + q_bl i) = 0
    · rw [if_pos c] at g62
      rw [ed, if_pos c]
      simp (disch := first | omega | assumption) only [l_0, l_1, l_2, l_3, l_4, l_5, l_6, l_7, l_8, l_11, l_12, l_15, l_16, l_31, l_32, l_66, l_80, l_100, l_127, l_128, l_768, l_2304, l_2310, l_2316, l_2388, l_2394, l_2406, l_2418, l_2430, l_2558, l_2686, l_2814, l_2942, l_3070, l_3390, l_3394, l_3395, l_3396, l_3397, n_leT, n_leF, n_ltT, n_ltF, n_eqT, n_eqF, nI_add, pk_mul, n_sub, z_ldn, z_san, z_bs, z_b2s, z_b3s, z_ocN, z_ocS, z_oxL, z_oxR, z_scL, z_scR, ↓reduceIte, Nat.zero_add, Nat.add_zero, Nat.zero_lt_succ, true_and, and_true, eq_self, n_div, n_mod, z_ldJn, z_saJn, f_blk, f_plc, l_9, l_10, l_13, l_14, l_17, l_18, l_19, l_20, l_21, l_22, l_24, l_28, l_60, l_61, l_62, l_64, l_98, l_99, z_ntR, z_ntwR, z_bz0, z_bz1, fL_isKind, g61, g62]
    · rw [if_neg c] at g62
      rw [ed, if_neg c]
      simp (disch := first | omega | assumption) only [l_0, l_1, l_2, l_3, l_4, l_5, l_6, l_7, l_8, l_11, l_12, l_15, l_16, l_31, l_32, l_66, l_80, l_100, l_127, l_128, l_768, l_2304, l_2310, l_2316, l_2388, l_2394, l_2406, l_2418, l_2430, l_2558, l_2686, l_2814, l_2942, l_3070, l_3390, l_3394, l_3395, l_3396, l_3397, n_leT, n_leF, n_ltT, n_ltF, n_eqT, n_eqF, nI_add, pk_mul, n_sub, z_ldn, z_san, z_bs, z_b2s, z_b3s, z_ocN, z_ocS, z_oxL, z_oxR, z_scL, z_scR, ↓reduceIte, Nat.zero_add, Nat.add_zero, Nat.zero_lt_succ, true_and, and_true, eq_self, n_div, n_mod, z_ldJn, z_saJn, f_blk, f_plc, l_9, l_10, l_13, l_14, l_17, l_18, l_19, l_20, l_21, l_22, l_24, l_28, l_60, l_61, l_62, l_64, l_98, l_99, z_ntR, z_ntwR, z_bz0, z_bz1, fL_isKind, g61, g62]
theorem gR_16 {S : Nat → Nat} (hs : ∀ b, b < 128 → 16 ≤ b % 32 → S (2814 + b) = 0 ∧ S (2686 + b) = 0 ∧ S (2942 + b) = 0) {kd r p : Nat} (hr : r < 4) (hp : 16 ≤ p) : gR S kd r p = 0 := by
  by_cases c : p < 32
  · rw [gR_in c]
    obtain ⟨h1, h2, h3⟩ := hs (32 * r + p) (by omega) (by omega)
    unfold gm
    rw [h1, h3]
    split
    · rfl
    · split <;> rfl
  · exact gR_z (by omega)
theorem gR_w {S : Nat → Nat} {kd r w : Nat} (hw : w < 16) : gR S kd r w = gm S kd (q_bl (16 * r + w)) := by
  rw [gR_in (by omega)]
  congr 1
  unfold q_bl
  omega
/-- the end of a run -/
theorem run_16 {g : Nat → Nat} (h16 : g 16 = 0) : ∀ (m w : Nat), w + m = 16 → ∃ i, i ≤ m ∧ g (w + i) = 0 ∧ ∀ j, j < i → g (w + j) ≠ 0
  | 0, w, h => ⟨0, Nat.le_refl _, by rw [show w + 0 = 16 by omega]; exact h16, fun j hj => absurd hj (Nat.not_lt_zero j)⟩
  | m + 1, w, h => by
    by_cases q : g w = 0
    · exact ⟨0, Nat.zero_le _, q, fun j hj => absurd hj (Nat.not_lt_zero j)⟩
    · obtain ⟨i, i1, i2, i3⟩ := run_16 h16 m (w + 1) (by omega)
      refine ⟨i + 1, by omega, by rw [show w + (i + 1) = w + 1 + i by omega]; exact i2, fun j hj => ?_⟩
      by_cases c : j = 0
      · rw [c]
        exact q
      · rw [show w + j = w + 1 + (j - 1) by omega]
        exact i3 (j - 1) (by omega)
/-- what the law asks of a log's entries from a place on -/
def q_ck (M : zM) (g : Nat → Nat) (r kd pl : Nat) : Prop := ∀ j, j < (rl g 33).1 → fX6_runAt 0 (nI r) (nI (pl + j)) M = some (.inr (nI (100 * (32 * r + ((rl g 33).2 j).1) + ((rl g 33).2 j).2))) ∧ fX6_allocates 0 (nI r) (nI (pl + j)) M = some (.inr (nI (if kd = 0 then 0 else 1)))
set_option maxHeartbeats 2000000 in
theorem f_runs_g {M : zM} {g : Nat → Nat} {r kd : Nat} (hr : r < 4) (hk : kd ≤ 2) (hg16 : ∀ p, 16 ≤ p → g p = 0) (hkind : ∀ w, w < 16 → fL_isKind 170 (nI (16 * r + w)) (nI kd) M = some (nI (g w))) (hg1 : ∀ p, g p ≤ 1) {a4 : Int32} (ha : a4 = -nI 1 ∨ ∃ pl, pl < 100 ∧ a4 = nI pl ∧ q_ck M g r kd pl) : fL_runs 0 170 (nI r) (nI kd) a4 M = some (nI (rl g 33).1) := by
  have hst := fun p => rl_st (g := g) (p := p)
  obtain ⟨st, hstd⟩ : ∃ st : Nat → Nat, ∀ w, st w = if g w ≠ 0 ∧ trl g w = 0 then 1 else 0 := ⟨fun w => if g w ≠ 0 ∧ trl g w = 0 then 1 else 0, fun w => rfl⟩
  have est : ∀ p, sumN st p = (rl g p).1 + (if trl g p = 0 then 0 else 1) := fun p => by
    rw [← hst p]
    exact sumN_cg (fun i hi => hstd i)
  have hend : sumN st 16 = (rl g 33).1 := by
    have e1 : sumN st (16 + 17) = sumN st 16 + sumN (fun i => st (16 + i)) 17 := sumN_sp
    have e2 : sumN (fun i => st (16 + i)) 17 = 0 := sumN_0 (fun i hi => by
      show st (16 + i) = 0
      rw [hstd, if_neg (fun x => x.1 (hg16 _ (by omega)))])
    have e3 := est 33
    rw [trl_0 (hg16 32 (by omega)), if_pos rfl] at e3
    have e1 : sumN st 33 = sumN st 16 + sumN (fun i => st (16 + i)) 17 := e1
    omega
  have hb16 : ∀ w, w ≤ 16 → sumN st w ≤ 16 := fun w hw => by
    have := sumN_le (g := st) (c := 1) (n := w) (fun i hi => by
      rw [hstd]
      split <;> decide)
    omega
  have hloop : z_loop (fun q : Int32 × Int32 => fL_runs_L1 0 170 (nI r) (nI kd) a4 M q.1 q.2) z_FU (nI 0, nI (16 * r)) = some (.inr (nI (sumN st 16))) := by
    refine z_loopC (f := fun q : Int32 × Int32 => fL_runs_L1 0 170 (nI r) (nI kd) a4 M q.1 q.2) (fun w => (nI (sumN st w), nI (16 * r + w))) 16 _ (by omega) (fun w hw => ?_) (by simp (disch := first | omega | assumption) only [l_0, l_1, l_2, l_3, l_4, l_5, l_6, l_7, l_8, l_11, l_12, l_15, l_16, l_31, l_32, l_66, l_80, l_100, l_127, l_128, l_768, l_2304, l_2310, l_2316, l_2388, l_2394, l_2406, l_2418, l_2430, l_2558, l_2686, l_2814, l_2942, l_3070, l_3390, l_3394, l_3395, l_3396, l_3397, n_leT, n_leF, n_ltT, n_ltF, n_eqT, n_eqF, nI_add, pk_mul, n_sub, z_ldn, z_san, z_bs, z_b2s, z_b3s, z_ocN, z_ocS, z_oxL, z_oxR, z_scL, z_scR, ↓reduceIte, Nat.zero_add, Nat.add_zero, Nat.zero_lt_succ, true_and, and_true, eq_self, n_div, n_mod, z_ldJn, z_saJn, f_blk, f_plc, l_9, l_10, l_13, l_14, l_17, l_18, l_19, l_20, l_21, l_22, l_24, l_28, l_60, l_61, l_62, l_64, l_98, l_99, z_ntR, z_ntwR, z_bz0, z_bz1, fL_runs_L1])
    show fL_runs_L1 0 170 (nI r) (nI kd) a4 M (nI (sumN st w)) (nI (16 * r + w)) = some (.inl (nI (sumN st w + st w), nI (16 * r + w + 1)))
    have k1 := hkind w hw
    have hw16 := hb16 w (by omega)
    have emod : (16 * r + w) % 16 = w := by omega
    by_cases cs : g w ≠ 0 ∧ trl g w = 0
    · obtain ⟨c1, c2⟩ := cs
      have g1w : g w = 1 := by
        have := hg1 w
        omega
      have es : st w = 1 := by rw [hstd, if_pos ⟨c1, c2⟩]
      rw [es]
      rw [g1w] at k1
      have hj7 : ((if nI 1 = nI 0 then some (nI 0) else (if nI w = nI 0 then some (nI 1) else ((fL_isKind 170 (nI (16 * r + w - 1)) (nI kd) M).bind fun x28 => if x28 = nI 0 then (some (nI 1)) else (some (nI 0))))) : Option Int32) = some (nI 1) := by
        by_cases w0 : w = 0
        · simp (disch := first | omega | assumption) only [l_0, l_1, l_2, l_3, l_4, l_5, l_6, l_7, l_8, l_11, l_12, l_15, l_16, l_31, l_32, l_66, l_80, l_100, l_127, l_128, l_768, l_2304, l_2310, l_2316, l_2388, l_2394, l_2406, l_2418, l_2430, l_2558, l_2686, l_2814, l_2942, l_3070, l_3390, l_3394, l_3395, l_3396, l_3397, n_leT, n_leF, n_ltT, n_ltF, n_eqT, n_eqF, nI_add, pk_mul, n_sub, z_ldn, z_san, z_bs, z_b2s, z_b3s, z_ocN, z_ocS, z_oxL, z_oxR, z_scL, z_scR, ↓reduceIte, Nat.zero_add, Nat.add_zero, Nat.zero_lt_succ, true_and, and_true, eq_self, n_div, n_mod, z_ldJn, z_saJn, f_blk, f_plc, l_9, l_10, l_13, l_14, l_17, l_18, l_19, l_20, l_21, l_22, l_24, l_28, l_60, l_61, l_62, l_64, l_98, l_99, z_ntR, z_ntwR, z_bz0, z_bz1, w0]
        · have g0 : g (w - 1) = 0 := by
            rcases trl_z.mp c2 with x | x
            · exact absurd x w0
            · exact x.2
          have k2 := hkind (w - 1) (by omega)
          rw [g0, show 16 * r + (w - 1) = 16 * r + w - 1 by omega] at k2
          simp (disch := first | omega | assumption) only [l_0, l_1, l_2, l_3, l_4, l_5, l_6, l_7, l_8, l_11, l_12, l_15, l_16, l_31, l_32, l_66, l_80, l_100, l_127, l_128, l_768, l_2304, l_2310, l_2316, l_2388, l_2394, l_2406, l_2418, l_2430, l_2558, l_2686, l_2814, l_2942, l_3070, l_3390, l_3394, l_3395, l_3396, l_3397, n_leT, n_leF, n_ltT, n_ltF, n_eqT, n_eqF, nI_add, pk_mul, n_sub, z_ldn, z_san, z_bs, z_b2s, z_b3s, z_ocN, z_ocS, z_oxL, z_oxR, z_scL, z_scR, ↓reduceIte, Nat.zero_add, Nat.add_zero, Nat.zero_lt_succ, true_and, and_true, eq_self, n_div, n_mod, z_ldJn, z_saJn, f_blk, f_plc, l_9, l_10, l_13, l_14, l_17, l_18, l_19, l_20, l_21, l_22, l_24, l_28, l_60, l_61, l_62, l_64, l_98, l_99, z_ntR, z_ntwR, z_bz0, z_bz1, k2]
      obtain ⟨m, m1, m2, m3⟩ := run_16 (g := g) (hg16 16 (by omega)) (16 - w) w (by omega)
      have hm1 : 1 ≤ m := Classical.byContradiction (fun x => by
        have e : m = 0 := by omega
        rw [e] at m2
        exact c1 m2)
      have hl2 : z_loop (fun q : Int32 => fL_runs_L2 170 (nI r) (nI kd) M (nI (16 * r + w)) (nI 1) q) z_FU (nI 0) = some (nI m) := by
        refine z_loopC (f := fun q : Int32 => fL_runs_L2 170 (nI r) (nI kd) M (nI (16 * r + w)) (nI 1) q) (fun k => nI k) m _ (by omega) (fun k hk => ?_) ?_
        · have k3 := hkind (w + k) (by
            have := hg16 (w + k)
            have := m3 k hk
            omega)
          have e1 : g (w + k) = 1 := by
            have := hg1 (w + k)
            have := m3 k hk
            omega
          have hlt : w + k < 16 := Classical.byContradiction (fun x => m3 k hk (hg16 _ (by omega)))
          rw [e1, ← Nat.add_assoc] at k3
          simp (disch := first | omega | assumption) only [l_0, l_1, l_2, l_3, l_4, l_5, l_6, l_7, l_8, l_11, l_12, l_15, l_16, l_31, l_32, l_66, l_80, l_100, l_127, l_128, l_768, l_2304, l_2310, l_2316, l_2388, l_2394, l_2406, l_2418, l_2430, l_2558, l_2686, l_2814, l_2942, l_3070, l_3390, l_3394, l_3395, l_3396, l_3397, n_leT, n_leF, n_ltT, n_ltF, n_eqT, n_eqF, nI_add, pk_mul, n_sub, z_ldn, z_san, z_bs, z_b2s, z_b3s, z_ocN, z_ocS, z_oxL, z_oxR, z_scL, z_scR, ↓reduceIte, Nat.zero_add, Nat.add_zero, Nat.zero_lt_succ, true_and, and_true, eq_self, n_div, n_mod, z_ldJn, z_saJn, f_blk, f_plc, l_9, l_10, l_13, l_14, l_17, l_18, l_19, l_20, l_21, l_22, l_24, l_28, l_60, l_61, l_62, l_64, l_98, l_99, z_ntR, z_ntwR, z_bz0, z_bz1, fL_runs_L2, k3]
        · by_cases ce : w + m = 16
          · simp (disch := first | omega | assumption) only [l_0, l_1, l_2, l_3, l_4, l_5, l_6, l_7, l_8, l_11, l_12, l_15, l_16, l_31, l_32, l_66, l_80, l_100, l_127, l_128, l_768, l_2304, l_2310, l_2316, l_2388, l_2394, l_2406, l_2418, l_2430, l_2558, l_2686, l_2814, l_2942, l_3070, l_3390, l_3394, l_3395, l_3396, l_3397, n_leT, n_leF, n_ltT, n_ltF, n_eqT, n_eqF, nI_add, pk_mul, n_sub, z_ldn, z_san, z_bs, z_b2s, z_b3s, z_ocN, z_ocS, z_oxL, z_oxR, z_scL, z_scR, ↓reduceIte, Nat.zero_add, Nat.add_zero, Nat.zero_lt_succ, true_and, and_true, eq_self, n_div, n_mod, z_ldJn, z_saJn, f_blk, f_plc, l_9, l_10, l_13, l_14, l_17, l_18, l_19, l_20, l_21, l_22, l_24, l_28, l_60, l_61, l_62, l_64, l_98, l_99, z_ntR, z_ntwR, z_bz0, z_bz1, fL_runs_L2]
          · have k3 := hkind (w + m) (by omega)
            rw [m2, ← Nat.add_assoc] at k3
            simp (disch := first | omega | assumption) only [l_0, l_1, l_2, l_3, l_4, l_5, l_6, l_7, l_8, l_11, l_12, l_15, l_16, l_31, l_32, l_66, l_80, l_100, l_127, l_128, l_768, l_2304, l_2310, l_2316, l_2388, l_2394, l_2406, l_2418, l_2430, l_2558, l_2686, l_2814, l_2942, l_3070, l_3390, l_3394, l_3395, l_3396, l_3397, n_leT, n_leF, n_ltT, n_ltF, n_eqT, n_eqF, nI_add, pk_mul, n_sub, z_ldn, z_san, z_bs, z_b2s, z_b3s, z_ocN, z_ocS, z_oxL, z_oxR, z_scL, z_scR, ↓reduceIte, Nat.zero_add, Nat.add_zero, Nat.zero_lt_succ, true_and, and_true, eq_self, n_div, n_mod, z_ldJn, z_saJn, f_blk, f_plc, l_9, l_10, l_13, l_14, l_17, l_18, l_19, l_20, l_21, l_22, l_24, l_28, l_60, l_61, l_62, l_64, l_98, l_99, z_ntR, z_ntwR, z_bz0, z_bz1, fL_runs_L2, k3]
      obtain ⟨q1, q2⟩ := rl_at c2 hm1 m3 m2 (by omega)
      have e3 := est w
      rw [if_pos c2, Nat.add_zero] at e3
      rw [← e3] at q1 q2
      have hrl := rl16 (g := g)
      rcases ha with ha | ⟨pl, p1, p2, p3⟩
      · subst ha
        have hnl : (-nI 1 < nI 0) = True := n_mlt (by decide)
        by_cases w0 : w = 0
        · simp (disch := first | omega | assumption) only [l_0, l_1, l_2, l_3, l_4, l_5, l_6, l_7, l_8, l_11, l_12, l_15, l_16, l_31, l_32, l_66, l_80, l_100, l_127, l_128, l_768, l_2304, l_2310, l_2316, l_2388, l_2394, l_2406, l_2418, l_2430, l_2558, l_2686, l_2814, l_2942, l_3070, l_3390, l_3394, l_3395, l_3396, l_3397, n_leT, n_leF, n_ltT, n_ltF, n_eqT, n_eqF, nI_add, pk_mul, n_sub, z_ldn, z_san, z_bs, z_b2s, z_b3s, z_ocN, z_ocS, z_oxL, z_oxR, z_scL, z_scR, ↓reduceIte, Nat.zero_add, Nat.add_zero, Nat.zero_lt_succ, true_and, and_true, eq_self, n_div, n_mod, z_ldJn, z_saJn, f_blk, f_plc, l_9, l_10, l_13, l_14, l_17, l_18, l_19, l_20, l_21, l_22, l_24, l_28, l_60, l_61, l_62, l_64, l_98, l_99, z_ntR, z_ntwR, z_bz0, z_bz1, fL_runs_L1, k1, emod, hl2, hnl]
        · have g0 : g (w - 1) = 0 := by
            rcases trl_z.mp c2 with x | x
            · exact absurd x w0
            · exact x.2
          have k2 := hkind (w - 1) (by omega)
          rw [g0, show 16 * r + (w - 1) = 16 * r + w - 1 by omega] at k2
          simp (disch := first | omega | assumption) only [l_0, l_1, l_2, l_3, l_4, l_5, l_6, l_7, l_8, l_11, l_12, l_15, l_16, l_31, l_32, l_66, l_80, l_100, l_127, l_128, l_768, l_2304, l_2310, l_2316, l_2388, l_2394, l_2406, l_2418, l_2430, l_2558, l_2686, l_2814, l_2942, l_3070, l_3390, l_3394, l_3395, l_3396, l_3397, n_leT, n_leF, n_ltT, n_ltF, n_eqT, n_eqF, nI_add, pk_mul, n_sub, z_ldn, z_san, z_bs, z_b2s, z_b3s, z_ocN, z_ocS, z_oxL, z_oxR, z_scL, z_scR, ↓reduceIte, Nat.zero_add, Nat.add_zero, Nat.zero_lt_succ, true_and, and_true, eq_self, n_div, n_mod, z_ldJn, z_saJn, f_blk, f_plc, l_9, l_10, l_13, l_14, l_17, l_18, l_19, l_20, l_21, l_22, l_24, l_28, l_60, l_61, l_62, l_64, l_98, l_99, z_ntR, z_ntwR, z_bz0, z_bz1, fL_runs_L1, k1, emod, k2, hl2, hnl]
      · subst p2
        obtain ⟨p4, p5⟩ := p3 _ q1
        rw [q2] at p4
        have p4 : fX6_runAt 0 (nI r) (nI (pl + sumN st w)) M = some (.inr (nI (100 * (32 * r + w) + m))) := p4
        have ebl : q_bl (16 * r + w) = 32 * r + w := by
          unfold q_bl
          omega
        have hkk : ((if nI kd ≤ nI 0 then some (nI 0) else some (nI 1)) : Option Int32) = some (nI (if kd = 0 then 0 else 1)) := by
          by_cases k0 : kd = 0
          · simp (disch := first | omega | assumption) only [l_0, l_1, l_2, l_3, l_4, l_5, l_6, l_7, l_8, l_11, l_12, l_15, l_16, l_31, l_32, l_66, l_80, l_100, l_127, l_128, l_768, l_2304, l_2310, l_2316, l_2388, l_2394, l_2406, l_2418, l_2430, l_2558, l_2686, l_2814, l_2942, l_3070, l_3390, l_3394, l_3395, l_3396, l_3397, n_leT, n_leF, n_ltT, n_ltF, n_eqT, n_eqF, nI_add, pk_mul, n_sub, z_ldn, z_san, z_bs, z_b2s, z_b3s, z_ocN, z_ocS, z_oxL, z_oxR, z_scL, z_scR, ↓reduceIte, Nat.zero_add, Nat.add_zero, Nat.zero_lt_succ, true_and, and_true, eq_self, n_div, n_mod, z_ldJn, z_saJn, f_blk, f_plc, l_9, l_10, l_13, l_14, l_17, l_18, l_19, l_20, l_21, l_22, l_24, l_28, l_60, l_61, l_62, l_64, l_98, l_99, z_ntR, z_ntwR, z_bz0, z_bz1, k0]
          · rw [if_neg k0]
            simp (disch := first | omega | assumption) only [l_0, l_1, l_2, l_3, l_4, l_5, l_6, l_7, l_8, l_11, l_12, l_15, l_16, l_31, l_32, l_66, l_80, l_100, l_127, l_128, l_768, l_2304, l_2310, l_2316, l_2388, l_2394, l_2406, l_2418, l_2430, l_2558, l_2686, l_2814, l_2942, l_3070, l_3390, l_3394, l_3395, l_3396, l_3397, n_leT, n_leF, n_ltT, n_ltF, n_eqT, n_eqF, nI_add, pk_mul, n_sub, z_ldn, z_san, z_bs, z_b2s, z_b3s, z_ocN, z_ocS, z_oxL, z_oxR, z_scL, z_scR, ↓reduceIte, Nat.zero_add, Nat.add_zero, Nat.zero_lt_succ, true_and, and_true, eq_self, n_div, n_mod, z_ldJn, z_saJn, f_blk, f_plc, l_9, l_10, l_13, l_14, l_17, l_18, l_19, l_20, l_21, l_22, l_24, l_28, l_60, l_61, l_62, l_64, l_98, l_99, z_ntR, z_ntwR, z_bz0, z_bz1]
        by_cases k0 : kd = 0
        · rw [if_pos k0] at p5
          by_cases w0 : w = 0
          · simp (disch := first | omega | assumption) only [l_0, l_1, l_2, l_3, l_4, l_5, l_6, l_7, l_8, l_11, l_12, l_15, l_16, l_31, l_32, l_66, l_80, l_100, l_127, l_128, l_768, l_2304, l_2310, l_2316, l_2388, l_2394, l_2406, l_2418, l_2430, l_2558, l_2686, l_2814, l_2942, l_3070, l_3390, l_3394, l_3395, l_3396, l_3397, n_leT, n_leF, n_ltT, n_ltF, n_eqT, n_eqF, nI_add, pk_mul, n_sub, z_ldn, z_san, z_bs, z_b2s, z_b3s, z_ocN, z_ocS, z_oxL, z_oxR, z_scL, z_scR, ↓reduceIte, Nat.zero_add, Nat.add_zero, Nat.zero_lt_succ, true_and, and_true, eq_self, n_div, n_mod, z_ldJn, z_saJn, f_blk, f_plc, l_9, l_10, l_13, l_14, l_17, l_18, l_19, l_20, l_21, l_22, l_24, l_28, l_60, l_61, l_62, l_64, l_98, l_99, z_ntR, z_ntwR, z_bz0, z_bz1, fL_runs_L1, k1, emod, hl2, p4, ebl, p5]
          · have g0 : g (w - 1) = 0 := by
              rcases trl_z.mp c2 with x | x
              · exact absurd x w0
              · exact x.2
            have k2 := hkind (w - 1) (by omega)
            rw [g0, show 16 * r + (w - 1) = 16 * r + w - 1 by omega] at k2
            simp (disch := first | omega | assumption) only [l_0, l_1, l_2, l_3, l_4, l_5, l_6, l_7, l_8, l_11, l_12, l_15, l_16, l_31, l_32, l_66, l_80, l_100, l_127, l_128, l_768, l_2304, l_2310, l_2316, l_2388, l_2394, l_2406, l_2418, l_2430, l_2558, l_2686, l_2814, l_2942, l_3070, l_3390, l_3394, l_3395, l_3396, l_3397, n_leT, n_leF, n_ltT, n_ltF, n_eqT, n_eqF, nI_add, pk_mul, n_sub, z_ldn, z_san, z_bs, z_b2s, z_b3s, z_ocN, z_ocS, z_oxL, z_oxR, z_scL, z_scR, ↓reduceIte, Nat.zero_add, Nat.add_zero, Nat.zero_lt_succ, true_and, and_true, eq_self, n_div, n_mod, z_ldJn, z_saJn, f_blk, f_plc, l_9, l_10, l_13, l_14, l_17, l_18, l_19, l_20, l_21, l_22, l_24, l_28, l_60, l_61, l_62, l_64, l_98, l_99, z_ntR, z_ntwR, z_bz0, z_bz1, fL_runs_L1, k1, emod, k2, hl2, p4, ebl, p5]
        · rw [if_neg k0] at p5
          by_cases w0 : w = 0
          · simp (disch := first | omega | assumption) only [l_0, l_1, l_2, l_3, l_4, l_5, l_6, l_7, l_8, l_11, l_12, l_15, l_16, l_31, l_32, l_66, l_80, l_100, l_127, l_128, l_768, l_2304, l_2310, l_2316, l_2388, l_2394, l_2406, l_2418, l_2430, l_2558, l_2686, l_2814, l_2942, l_3070, l_3390, l_3394, l_3395, l_3396, l_3397, n_leT, n_leF, n_ltT, n_ltF, n_eqT, n_eqF, nI_add, pk_mul, n_sub, z_ldn, z_san, z_bs, z_b2s, z_b3s, z_ocN, z_ocS, z_oxL, z_oxR, z_scL, z_scR, ↓reduceIte, Nat.zero_add, Nat.add_zero, Nat.zero_lt_succ, true_and, and_true, eq_self, n_div, n_mod, z_ldJn, z_saJn, f_blk, f_plc, l_9, l_10, l_13, l_14, l_17, l_18, l_19, l_20, l_21, l_22, l_24, l_28, l_60, l_61, l_62, l_64, l_98, l_99, z_ntR, z_ntwR, z_bz0, z_bz1, fL_runs_L1, k1, emod, hl2, p4, ebl, p5]
          · have g0 : g (w - 1) = 0 := by
              rcases trl_z.mp c2 with x | x
              · exact absurd x w0
              · exact x.2
            have k2 := hkind (w - 1) (by omega)
            rw [g0, show 16 * r + (w - 1) = 16 * r + w - 1 by omega] at k2
            simp (disch := first | omega | assumption) only [l_0, l_1, l_2, l_3, l_4, l_5, l_6, l_7, l_8, l_11, l_12, l_15, l_16, l_31, l_32, l_66, l_80, l_100, l_127, l_128, l_768, l_2304, l_2310, l_2316, l_2388, l_2394, l_2406, l_2418, l_2430, l_2558, l_2686, l_2814, l_2942, l_3070, l_3390, l_3394, l_3395, l_3396, l_3397, n_leT, n_leF, n_ltT, n_ltF, n_eqT, n_eqF, nI_add, pk_mul, n_sub, z_ldn, z_san, z_bs, z_b2s, z_b3s, z_ocN, z_ocS, z_oxL, z_oxR, z_scL, z_scR, ↓reduceIte, Nat.zero_add, Nat.add_zero, Nat.zero_lt_succ, true_and, and_true, eq_self, n_div, n_mod, z_ldJn, z_saJn, f_blk, f_plc, l_9, l_10, l_13, l_14, l_17, l_18, l_19, l_20, l_21, l_22, l_24, l_28, l_60, l_61, l_62, l_64, l_98, l_99, z_ntR, z_ntwR, z_bz0, z_bz1, fL_runs_L1, k1, emod, k2, hl2, p4, ebl, p5]
    · have es : st w = 0 := by rw [hstd, if_neg cs]
      rw [es]
      have hl2 : z_loop (fun q : Int32 => fL_runs_L2 170 (nI r) (nI kd) M (nI (16 * r + w)) (nI 0) q) z_FU (nI 0) = some (nI 0) := by
        refine z_loopC (f := fun q : Int32 => fL_runs_L2 170 (nI r) (nI kd) M (nI (16 * r + w)) (nI 0) q) (fun k => nI k) 0 _ (by omega) (fun k hk => by omega) ?_
        simp (disch := first | omega | assumption) only [l_0, l_1, l_2, l_3, l_4, l_5, l_6, l_7, l_8, l_11, l_12, l_15, l_16, l_31, l_32, l_66, l_80, l_100, l_127, l_128, l_768, l_2304, l_2310, l_2316, l_2388, l_2394, l_2406, l_2418, l_2430, l_2558, l_2686, l_2814, l_2942, l_3070, l_3390, l_3394, l_3395, l_3396, l_3397, n_leT, n_leF, n_ltT, n_ltF, n_eqT, n_eqF, nI_add, pk_mul, n_sub, z_ldn, z_san, z_bs, z_b2s, z_b3s, z_ocN, z_ocS, z_oxL, z_oxR, z_scL, z_scR, ↓reduceIte, Nat.zero_add, Nat.add_zero, Nat.zero_lt_succ, true_and, and_true, eq_self, n_div, n_mod, z_ldJn, z_saJn, f_blk, f_plc, l_9, l_10, l_13, l_14, l_17, l_18, l_19, l_20, l_21, l_22, l_24, l_28, l_60, l_61, l_62, l_64, l_98, l_99, z_ntR, z_ntwR, z_bz0, z_bz1, fL_runs_L2]
      by_cases c1 : g w = 0
      · rw [c1] at k1
        simp (disch := first | omega | assumption) only [l_0, l_1, l_2, l_3, l_4, l_5, l_6, l_7, l_8, l_11, l_12, l_15, l_16, l_31, l_32, l_66, l_80, l_100, l_127, l_128, l_768, l_2304, l_2310, l_2316, l_2388, l_2394, l_2406, l_2418, l_2430, l_2558, l_2686, l_2814, l_2942, l_3070, l_3390, l_3394, l_3395, l_3396, l_3397, n_leT, n_leF, n_ltT, n_ltF, n_eqT, n_eqF, nI_add, pk_mul, n_sub, z_ldn, z_san, z_bs, z_b2s, z_b3s, z_ocN, z_ocS, z_oxL, z_oxR, z_scL, z_scR, ↓reduceIte, Nat.zero_add, Nat.add_zero, Nat.zero_lt_succ, true_and, and_true, eq_self, n_div, n_mod, z_ldJn, z_saJn, f_blk, f_plc, l_9, l_10, l_13, l_14, l_17, l_18, l_19, l_20, l_21, l_22, l_24, l_28, l_60, l_61, l_62, l_64, l_98, l_99, z_ntR, z_ntwR, z_bz0, z_bz1, fL_runs_L1, k1, hl2]
      · have g1w : g w = 1 := by
          have := hg1 w
          omega
        have c2 : trl g w ≠ 0 := fun x => cs ⟨c1, x⟩
        have w0 : w ≠ 0 := fun x => c2 (trl_z.mpr (Or.inl x))
        have g0 : g (w - 1) = 1 := by
          have h1 : g (w - 1) ≠ 0 := fun x => c2 (trl_z.mpr (Or.inr ⟨w0, x⟩))
          have := hg1 (w - 1)
          omega
        have k2 := hkind (w - 1) (by omega)
        rw [g0, show 16 * r + (w - 1) = 16 * r + w - 1 by omega] at k2
        rw [g1w] at k1
        simp (disch := first | omega | assumption) only [l_0, l_1, l_2, l_3, l_4, l_5, l_6, l_7, l_8, l_11, l_12, l_15, l_16, l_31, l_32, l_66, l_80, l_100, l_127, l_128, l_768, l_2304, l_2310, l_2316, l_2388, l_2394, l_2406, l_2418, l_2430, l_2558, l_2686, l_2814, l_2942, l_3070, l_3390, l_3394, l_3395, l_3396, l_3397, n_leT, n_leF, n_ltT, n_ltF, n_eqT, n_eqF, nI_add, pk_mul, n_sub, z_ldn, z_san, z_bs, z_b2s, z_b3s, z_ocN, z_ocS, z_oxL, z_oxR, z_scL, z_scR, ↓reduceIte, Nat.zero_add, Nat.add_zero, Nat.zero_lt_succ, true_and, and_true, eq_self, n_div, n_mod, z_ldJn, z_saJn, f_blk, f_plc, l_9, l_10, l_13, l_14, l_17, l_18, l_19, l_20, l_21, l_22, l_24, l_28, l_60, l_61, l_62, l_64, l_98, l_99, z_ntR, z_ntwR, z_bz0, z_bz1, fL_runs_L1, k1, emod, k2, hl2]
  rw [hend] at hloop
  unfold fL_runs
  rw [show (16 : Int32) * nI r = nI (16 * r) by rw [show (16 : Int32) = nI 16 from rfl, pk_mul]]
  have hloop : z_loop (fun q : Int32 × Int32 => fL_runs_L1 0 170 (nI r) (nI kd) a4 M q.1 q.2) z_FU (0, nI (16 * r)) = some (.inr (nI (rl g 33).1)) := hloop
  rw [hloop, z_bs, z_scR]
theorem f_runs {M : zM} {N : Nat → Int32} {S : Nat → Nat} (hB : L_b 170 M N S) (hb : ∀ b, b < 128 → S (2942 + b) ≤ 1) (hs : ∀ b, b < 128 → 16 ≤ b % 32 → S (2814 + b) = 0 ∧ S (2686 + b) = 0 ∧ S (2942 + b) = 0) {r kd : Nat} (hr : r < 4) (hk : kd ≤ 2) {a4 : Int32} (ha : a4 = -nI 1 ∨ ∃ pl, pl < 100 ∧ a4 = nI pl ∧ q_ck M (gR S kd r) r kd pl) : fL_runs 0 170 (nI r) (nI kd) a4 M = some (nI (rl (gR S kd r) 33).1) :=
  f_runs_g hr hk (fun p hp => gR_16 hs hr hp) (fun w hw => by
    rw [gR_w hw]
    exact f_kind hB hb (by omega) hk) (fun p => gR_1) ha
