/-! ===== what the law asks of logs behind a commit: all regions ===== -/
set_option maxHeartbeats 2000000 in
theorem f_lg1 {n : Nat} {M : zM} {N N' : Nat → Int32} {S : Nat → Nat} (hB : L_b 170 M N S) (hb : ∀ b, b < 128 → S (2942 + b) ≤ 1) (hs : ∀ b, b < 128 → 16 ≤ b % 32 → S (2814 + b) = 0 ∧ S (2686 + b) = 0 ∧ S (2942 + b) = 0) (hR : z_R1 1 M N' (cmS S)) (hI : z_I n (cmS S)) (hF : Fcm S N N') (hL : ∀ r, r < 4 → y_lr N S r) (hk : ∀ r, r < 4 → S (3390 + r) ≤ 34) (hh : ∀ r, r < 4 → M 175 r = nI (S (3390 + r))) (hm2 : M 171 2 = nI (S 3396)) : ∃ M', z_loop (fun q : Int32 × Int32 × zM => fL_isLogged_L1 0 170 171 175 q.1 q.2.1 q.2.2) z_FU (nI 1, nI 0, M) = some (nI 1, M') ∧ (∀ a, a ≠ 171 → (∀ q, q < 4 → a ≠ 68 + 5 * q) → M' a = M a) ∧ ∀ i, M' 171 i = if i = 2 then nI (S 3396 + cmQ S 4) else M 171 i := by
  obtain ⟨⟨r1, r2⟩, q1, q2, q3, q4⟩ := z_loopA (f := fun q : Int32 × Int32 × zM => fL_isLogged_L1 0 170 171 175 q.1 q.2.1 q.2.2) (fun r x M' => x = nI 1 ∧ (∀ a, a ≠ 171 → (∀ q, q < 4 → a ≠ 68 + 5 * q) → M' a = M a) ∧ ∀ i, M' 171 i = if i = 2 then nI (S 3396 + cmQ S r) else M 171 i) (fun z => z.1 = nI 1 ∧ (∀ a, a ≠ 171 → (∀ q, q < 4 → a ≠ 68 + 5 * q) → z.2 a = M a) ∧ ∀ i, z.2 171 i = if i = 2 then nI (S 3396 + cmQ S 4) else M 171 i) 0 4 (by omega) (x := nI 1) (s := nI 0) (M := M) rfl ⟨rfl, fun a _ _ => rfl, fun i => by
    by_cases z : i = 2
    · rw [if_pos z, z, hm2]
      rfl
    · rw [if_neg z]⟩ (fun r x M3 hr hh2 => by
    obtain ⟨b1, b2, b3⟩ := hh2
    subst b1
    rw [Nat.zero_add]
    have hR3 : z_R1 1 M3 N' (cmS S) := z_R1_cg hR (fun k y1 y2 y3 => b2 k (by omega) (fun q hq => by have := y3 q hq; omega))
    have hB3 := L_b_cg hB (b2 170 (by decide) (fun q hq => by omega))
    have hh3 : M3 175 r = nI (S (3390 + r)) := by
      rw [b2 175 (by decide) (fun q hq => by omega)]
      exact hh r hr
    have hm3 : M3 171 2 = nI (S 3396 + cmQ S r) := by rw [b3, if_pos rfl]
    have k1 := f_runs hB3 hb hs (r := r) (kd := 1) hr (by decide) (a4 := -nI 1) (Or.inl rfl)
    have k0 := f_runs hB3 hb hs (r := r) (kd := 0) hr (by decide) (a4 := -nI 1) (Or.inl rfl)
    have k2 := f_runs hB3 hb hs (r := r) (kd := 2) hr (by decide) (a4 := -nI 1) (Or.inl rfl)
    have k1 : fL_runs 0 170 (nI r) 1 (-1) M3 = some (nI (rl (gR S 1 r) 33).1) := k1
    have k0 : fL_runs 0 170 (nI r) 0 (-1) M3 = some (nI (rl (gR S 0 r) 33).1) := k0
    have k2 : fL_runs 0 170 (nI r) 2 (-1) M3 = some (nI (rl (gR S 2 r) 33).1) := k2
    obtain ⟨M34, m1, m2, m3⟩ := f_lgm hB3 hb hs hR3 hI hF hr (hk r hr) hh3 hm3
    have hR34 : z_R1 1 M34 N' (cmS S) := R1_fr hR3 (fun a ha => m2 a (by omega))
    have hB34 := L_b_cg hB3 (m2 170 (by decide))
    obtain ⟨M41, p1, p2⟩ := k_replay hR34 hI hr (lr_cm hr (hL r hr) hF hb)
    have hlive : z_loop (fun q : Int32 × Int32 => fL_isLogged_L3 170 (nI r) M34 q.1 q.2) z_FU (nI 0, nI (16 * r)) = some (nI (sumN (fun i => if S (2814 + q_bl (16 * r + i)) = 0 then 0 else 1) 16)) :=
      z_loopS (f := fun q : Int32 × Int32 => fL_isLogged_L3 170 (nI r) M34 q.1 q.2) (fun i => if S (2814 + q_bl (16 * r + i)) = 0 then 0 else 1) (16 * r) 16 (by omega) rfl (fun i x hi => by
        have g := f_h62 (i := 16 * r + i) (by omega) (hB34 (16 * r + i) (by omega))
        by_cases z : S (2814 + q_bl (16 * r + i)) = 0
        · rw [if_pos z] at g ⊢
          simp (disch := first | omega | assumption) only [l_0, l_1, l_2, l_3, l_4, l_5, l_6, l_7, l_8, l_11, l_12, l_15, l_16, l_31, l_32, l_66, l_80, l_100, l_127, l_128, l_768, l_2304, l_2310, l_2316, l_2388, l_2394, l_2406, l_2418, l_2430, l_2558, l_2686, l_2814, l_2942, l_3070, l_3390, l_3394, l_3395, l_3396, l_3397, n_leT, n_leF, n_ltT, n_ltF, n_eqT, n_eqF, nI_add, pk_mul, n_sub, z_ldn, z_san, z_bs, z_b2s, z_b3s, z_ocN, z_ocS, z_oxL, z_oxR, z_scL, z_scR, ↓reduceIte, Nat.zero_add, Nat.add_zero, Nat.zero_lt_succ, true_and, and_true, eq_self, n_div, n_mod, z_ldJn, z_saJn, f_blk, f_plc, l_9, l_10, l_13, l_14, l_17, l_18, l_19, l_20, l_21, l_22, l_24, l_28, l_60, l_61, l_62, l_64, l_98, l_99, z_ntR, z_ntwR, z_bz0, z_bz1, fL_isLogged_L3, g]
        · rw [if_neg z] at g ⊢
          simp (disch := first | omega | assumption) only [l_0, l_1, l_2, l_3, l_4, l_5, l_6, l_7, l_8, l_11, l_12, l_15, l_16, l_31, l_32, l_66, l_80, l_100, l_127, l_128, l_768, l_2304, l_2310, l_2316, l_2388, l_2394, l_2406, l_2418, l_2430, l_2558, l_2686, l_2814, l_2942, l_3070, l_3390, l_3394, l_3395, l_3396, l_3397, n_leT, n_leF, n_ltT, n_ltF, n_eqT, n_eqF, nI_add, pk_mul, n_sub, z_ldn, z_san, z_bs, z_b2s, z_b3s, z_ocN, z_ocS, z_oxL, z_oxR, z_scL, z_scR, ↓reduceIte, Nat.zero_add, Nat.add_zero, Nat.zero_lt_succ, true_and, and_true, eq_self, n_div, n_mod, z_ldJn, z_saJn, f_blk, f_plc, l_9, l_10, l_13, l_14, l_17, l_18, l_19, l_20, l_21, l_22, l_24, l_28, l_60, l_61, l_62, l_64, l_98, l_99, z_ntR, z_ntwR, z_bz0, z_bz1, fL_isLogged_L3, g]) (fun x => by simp (disch := first | omega | assumption) only [l_0, l_1, l_2, l_3, l_4, l_5, l_6, l_7, l_8, l_11, l_12, l_15, l_16, l_31, l_32, l_66, l_80, l_100, l_127, l_128, l_768, l_2304, l_2310, l_2316, l_2388, l_2394, l_2406, l_2418, l_2430, l_2558, l_2686, l_2814, l_2942, l_3070, l_3390, l_3394, l_3395, l_3396, l_3397, n_leT, n_leF, n_ltT, n_ltF, n_eqT, n_eqF, nI_add, pk_mul, n_sub, z_ldn, z_san, z_bs, z_b2s, z_b3s, z_ocN, z_ocS, z_oxL, z_oxR, z_scL, z_scR, ↓reduceIte, Nat.zero_add, Nat.add_zero, Nat.zero_lt_succ, true_and, and_true, eq_self, n_div, n_mod, z_ldJn, z_saJn, f_blk, f_plc, l_9, l_10, l_13, l_14, l_17, l_18, l_19, l_20, l_21, l_22, l_24, l_28, l_60, l_61, l_62, l_64, l_98, l_99, z_ntR, z_ntwR, z_bz0, z_bz1, fL_isLogged_L3])
    have hsum : sumN (fun p => cmS S (2942 + 32 * r + p)) 32 = sumN (fun i => if S (2814 + q_bl (16 * r + i)) = 0 then 0 else 1) 16 := by
      rw [sumN_cg (g' := fun p => if S (2814 + (32 * r + p)) = 0 then 0 else 1) (fun p hp => by
        show cmS S (2942 + 32 * r + p) = _
        rw [show 2942 + 32 * r + p = 2942 + (32 * r + p) by omega, cm_b (by omega)])]
      exact sum_rg (g := fun b => if S (2814 + b) = 0 then 0 else 1) hr (fun b hb q => if_pos (hs b hb q).1)
    rw [hsum] at p1
    have hq : cmQ S (r + 1) = cmQ S r + (if cmC S r then 1 else 0) := rfl
    refine ⟨nI 1, M41, ?_, rfl, fun a y1 y2 => ?_, fun i => ?_⟩
    · have q0 : ¬ ((4 : Int32) ≤ nI r) := fun x => by
        rw [show (4 : Int32) = nI 4 from rfl, n_leF (by omega) (by omega) (by omega)] at x
        exact x
      have q5 : z_ld M3 175 4 (nI r) = some (nI (S (3390 + r))) := by simp (disch := first | omega | assumption) only [l_0, l_1, l_2, l_3, l_4, l_5, l_6, l_7, l_8, l_11, l_12, l_15, l_16, l_31, l_32, l_66, l_80, l_100, l_127, l_128, l_768, l_2304, l_2310, l_2316, l_2388, l_2394, l_2406, l_2418, l_2430, l_2558, l_2686, l_2814, l_2942, l_3070, l_3390, l_3394, l_3395, l_3396, l_3397, n_leT, n_leF, n_ltT, n_ltF, n_eqT, n_eqF, nI_add, pk_mul, n_sub, z_ldn, z_san, z_bs, z_b2s, z_b3s, z_ocN, z_ocS, z_oxL, z_oxR, z_scL, z_scR, ↓reduceIte, Nat.zero_add, Nat.add_zero, Nat.zero_lt_succ, true_and, and_true, eq_self, hh3]
      have q6 : (16 : Int32) * nI r = nI (16 * r) := by rw [show (16 : Int32) = nI 16 from rfl, pk_mul]
      have q7 : z_loop (fun q : Int32 × Int32 => fL_isLogged_L3 170 (nI r) M34 q.1 q.2) z_FU (0, nI (16 * r)) = some (nI (sumN (fun i => if S (2814 + q_bl (16 * r + i)) = 0 then 0 else 1) 16)) := hlive
      have q8 : (fX6_replay 0 (nI r) M34).bind z_ntw = some (nI (sumN (fun i => if S (2814 + q_bl (16 * r + i)) = 0 then 0 else 1) 16), M41) := by
        rw [p1]
        rfl
      show fL_isLogged_L1 0 170 171 175 (nI 1) (nI r) M3 = _
      unfold fL_isLogged_L1
      rw [if_neg q0, if_neg (show ¬ nI 1 = 0 by decide), k1, z_bs, k0, z_bs, k2, z_bs, q5, z_bs]
      have m1 := m1
      unfold fL_lgm at m1
      rw [q5] at m1
      rw [m1, z_b2s, q6, q7, z_bs, if_neg (show ¬ nI 1 = 0 by decide), q8, z_b2s, if_pos rfl]
      show some (Sum.inl (1, nI r + nI 1, M41)) = _
      rw [nI_add]
      rfl
    · rw [p2 a (y2 r hr), m2 a y1]
      exact b2 a y1 y2
    · rw [p2 171 (by omega), m3, b3, hq]
      by_cases z : i = 2
      · rw [if_pos z, if_pos z, Nat.add_assoc]
      · rw [if_neg z, if_neg z, if_neg z]) (fun x M' hh => ⟨(x, M'), by simp (disch := first | omega | assumption) only [l_0, l_1, l_2, l_3, l_4, l_5, l_6, l_7, l_8, l_11, l_12, l_15, l_16, l_31, l_32, l_66, l_80, l_100, l_127, l_128, l_768, l_2304, l_2310, l_2316, l_2388, l_2394, l_2406, l_2418, l_2430, l_2558, l_2686, l_2814, l_2942, l_3070, l_3390, l_3394, l_3395, l_3396, l_3397, n_leT, n_leF, n_ltT, n_ltF, n_eqT, n_eqF, nI_add, pk_mul, n_sub, z_ldn, z_san, z_bs, z_b2s, z_b3s, z_ocN, z_ocS, z_oxL, z_oxR, z_scL, z_scR, ↓reduceIte, Nat.zero_add, Nat.add_zero, Nat.zero_lt_succ, true_and, and_true, eq_self, n_div, n_mod, z_ldJn, z_saJn, f_blk, f_plc, l_9, l_10, l_13, l_14, l_17, l_18, l_19, l_20, l_21, l_22, l_24, l_28, l_60, l_61, l_62, l_64, l_98, l_99, z_ntR, z_ntwR, z_bz0, z_bz1, fL_isLogged_L1], hh⟩)
  have q2 : r1 = nI 1 := q2
  subst q2
  exact ⟨r2, q1, q3, q4⟩
set_option maxHeartbeats 2000000 in
theorem f_lg2 {M : zM} {N N' : Nat → Int32} {S : Nat → Nat} (hB : L_b 170 M N S) (hF : Fcm S N N') : ∃ M', z_loop (fun q : Int32 × zM => fL_isLogged_L2 170 q.1 q.2) z_FU (nI 0, M) = some M' ∧ (∀ a, a ≠ 170 → M' a = M a) ∧ L_b 170 M' N' (cmS S) := by
  obtain ⟨M', q1, q2, q3⟩ := z_loopM (f := fun q : Int32 × zM => fL_isLogged_L2 170 q.1 q.2) (fun i M' => (∀ a, a ≠ 170 → M' a = M a) ∧ ∀ q, q < 64 → y_B1 M' 170 q (N (2430 + q_bl q)) (S (2558 + q_bl q)) (if q < i then 0 else S (2686 + q_bl q)) (if q < i then S (2814 + q_bl q) else S (2942 + q_bl q)) (S (2814 + q_bl q))) (fun M' => (∀ a, a ≠ 170 → M' a = M a) ∧ L_b 170 M' N' (cmS S)) 0 64 (by omega) (s := nI 0) (M := M) rfl ⟨fun a _ => rfl, fun q hq => by
    rw [if_neg (by omega), if_neg (by omega)]
    exact hB q hq⟩ (fun i M3 hi hh => by
    obtain ⟨a1, a2⟩ := hh
    rw [Nat.zero_add]
    have h1 := a2 i hi
    rw [if_neg (by omega), if_neg (by omega)] at h1
    have hbi := h1.2
    have g62 := f_h62 hi h1
    have hE := h1.1
    obtain ⟨A, hA⟩ : ∃ A, (if S (2814 + q_bl i) = 0 then 0 else 1) = A := ⟨_, rfl⟩
    have hA1 : A ≤ 1 := by
      rw [← hA]
      split <;> decide
    rw [hA] at g62
    refine ⟨z_stJ M3 170 i (y_E (N (2430 + q_bl i)) (S (2558 + q_bl i)) 0 A (S (2814 + q_bl i))), ?_, fun a ha => by rw [sJ_n ha]; exact a1 a ha, fun q hq => ?_⟩
    · simp (disch := first | omega | assumption) only [l_0, l_1, l_2, l_3, l_4, l_5, l_6, l_7, l_8, l_11, l_12, l_15, l_16, l_31, l_32, l_66, l_80, l_100, l_127, l_128, l_768, l_2304, l_2310, l_2316, l_2388, l_2394, l_2406, l_2418, l_2430, l_2558, l_2686, l_2814, l_2942, l_3070, l_3390, l_3394, l_3395, l_3396, l_3397, n_leT, n_leF, n_ltT, n_ltF, n_eqT, n_eqF, nI_add, pk_mul, n_sub, z_ldn, z_san, z_bs, z_b2s, z_b3s, z_ocN, z_ocS, z_oxL, z_oxR, z_scL, z_scR, ↓reduceIte, Nat.zero_add, Nat.add_zero, Nat.zero_lt_succ, true_and, and_true, eq_self, n_div, n_mod, z_ldJn, z_saJn, f_blk, f_plc, l_9, l_10, l_13, l_14, l_17, l_18, l_19, l_20, l_21, l_22, l_24, l_28, l_60, l_61, l_62, l_64, l_98, l_99, z_ntR, z_ntwR, z_bz0, z_bz1, fL_isLogged_L2, hE, f_with60, f_with61, g62]
    · unfold y_B1
      rw [jj_s]
      by_cases c : q = i
      · rw [if_pos c, c, if_pos (by omega), if_pos (by omega)]
        refine ⟨E_cg Iff.rfl ?_ Iff.rfl, hbi⟩
        rw [← hA]
        by_cases z : S (2814 + q_bl i) = 0
        · rw [if_pos z, z]
        · rw [if_neg z]
          exact ⟨fun x => absurd x (by decide), fun x => absurd x z⟩
      · rw [if_neg c]
        have h2 := a2 q hq
        by_cases z : q < i
        · rw [if_pos z, if_pos z] at h2
          rw [if_pos (by omega), if_pos (by omega)]
          exact h2
        · rw [if_neg z, if_neg z] at h2
          rw [if_neg (by omega), if_neg (by omega)]
          exact h2) (fun M3 hh => ⟨M3, by simp (disch := first | omega | assumption) only [l_0, l_1, l_2, l_3, l_4, l_5, l_6, l_7, l_8, l_11, l_12, l_15, l_16, l_31, l_32, l_66, l_80, l_100, l_127, l_128, l_768, l_2304, l_2310, l_2316, l_2388, l_2394, l_2406, l_2418, l_2430, l_2558, l_2686, l_2814, l_2942, l_3070, l_3390, l_3394, l_3395, l_3396, l_3397, n_leT, n_leF, n_ltT, n_ltF, n_eqT, n_eqF, nI_add, pk_mul, n_sub, z_ldn, z_san, z_bs, z_b2s, z_b3s, z_ocN, z_ocS, z_oxL, z_oxR, z_scL, z_scR, ↓reduceIte, Nat.zero_add, Nat.add_zero, Nat.zero_lt_succ, true_and, and_true, eq_self, n_div, n_mod, z_ldJn, z_saJn, f_blk, f_plc, l_9, l_10, l_13, l_14, l_17, l_18, l_19, l_20, l_21, l_22, l_24, l_28, l_60, l_61, l_62, l_64, l_98, l_99, z_ntR, z_ntwR, z_bz0, z_bz1, fL_isLogged_L2], hh.1, fun q hq => by
    have hb := bl_128 hq
    have h2 := hh.2 q hq
    rw [if_pos hq, if_pos hq] at h2
    rw [hF.1 _ (by omega) (by omega), cm_o (k := 2558 + q_bl q) (by omega), cm_o (k := 2814 + q_bl q) (by omega), cm_p hb, cm_b hb]
    refine B1_cg h2 Iff.rfl ?_ Iff.rfl
    by_cases z : S (2814 + q_bl q) = 0
    · rw [if_pos z, z]
    · rw [if_neg z]
      exact ⟨fun x => absurd x z, fun x => absurd x (by decide)⟩⟩)
  exact ⟨M', q1, q2, q3⟩
theorem f_logd {n : Nat} {M : zM} {N N' : Nat → Int32} {S : Nat → Nat} (hB : L_b 170 M N S) (hb : ∀ b, b < 128 → S (2942 + b) ≤ 1) (hs : ∀ b, b < 128 → 16 ≤ b % 32 → S (2814 + b) = 0 ∧ S (2686 + b) = 0 ∧ S (2942 + b) = 0) (hR : z_R1 1 M N' (cmS S)) (hI : z_I n (cmS S)) (hF : Fcm S N N') (hL : ∀ r, r < 4 → y_lr N S r) (hk : ∀ r, r < 4 → S (3390 + r) ≤ 34) (hh : ∀ r, r < 4 → M 175 r = nI (S (3390 + r))) (hm0 : M 171 0 = nI (S 3395)) (hm2 : M 171 2 = nI (S 3396)) : ∃ M', fL_isLogged 0 170 171 175 M = some (nI 1, M') ∧ L_b 170 M' N' (cmS S) ∧ M' 171 0 = nI (cmS S 3395) ∧ M' 171 2 = nI (cmS S 3396) ∧ (∀ i, i ≠ 0 → i ≠ 2 → M' 171 i = M 171 i) ∧ ∀ a, a ≠ 170 → a ≠ 171 → (∀ q, q < 4 → a ≠ 68 + 5 * q) → M' a = M a := by
  obtain ⟨M5, l1, l2, l3⟩ := f_lg1 hB hb hs hR hI hF hL hk hh hm2
  obtain ⟨M9, w1, w2, w3⟩ := f_lg2 (L_b_cg hB (l2 170 (by decide) (fun q hq => by omega))) hF
  obtain ⟨M12, hM12⟩ : ∃ M12, z_st M9 171 0 (nI (S 3395 + 1)) = M12 := ⟨_, rfl⟩
  have f12 : ∀ a, a ≠ 171 → M12 a = M9 a := fun a ha => by rw [← hM12]; exact s_n ha
  have fa : ∀ a, a ≠ 170 → a ≠ 171 → (∀ q, q < 4 → a ≠ 68 + 5 * q) → M12 a = M a := fun a y1 y2 y3 => by
    rw [f12 a y2, w2 a y1]
    exact l2 a y2 y3
  have r12 : ∀ i, M12 171 i = if i = 0 then nI (S 3395 + 1) else if i = 2 then nI (S 3396 + cmQ S 4) else M 171 i := fun i => by
    rw [← hM12, s_s]
    by_cases z : i = 0
    · rw [z, u_s, if_pos rfl]
    · rw [u_n z, if_neg z, w2 171 (by decide)]
      exact l3 i
  have hR12 : z_R1 1 M12 N' (cmS S) := z_R1_cg hR (fun k y1 y2 y3 => fa k (by omega) (by omega) (fun q hq => by have := y3 q hq; omega))
  have hc := k_cond hR12 hI
  have ht := k_trans hR12 hI
  rw [cm_6] at hc
  rw [cm_5] at ht
  refine ⟨M12, ?_, L_b_cg w3 (f12 170 (by decide)), by rw [r12, if_pos rfl, cm_5], by rw [r12, if_neg (by decide), if_pos rfl, cm_6], fun i y1 y2 => by rw [r12, if_neg y1, if_neg y2], fa⟩
  have g0 : M9 171 0 = nI (S 3395) := by
    rw [w2 171 (by decide), l3, if_neg (by decide)]
    exact hm0
  have l1 : z_loop (fun q : Int32 × Int32 × zM => fL_isLogged_L1 0 170 171 175 q.1 q.2.1 q.2.2) z_FU (1, 0, M) = some (nI 1, M5) := l1
  have w1 : z_loop (fun q : Int32 × zM => fL_isLogged_L2 170 q.1 q.2) z_FU (0, M5) = some M9 := w1
  have q1 : z_ld M9 171 32 0 = some (nI (S 3395)) := by simp (disch := first | omega | assumption) only [l_0, l_1, l_2, l_3, l_4, l_5, l_6, l_7, l_8, l_11, l_12, l_15, l_16, l_31, l_32, l_66, l_80, l_100, l_127, l_128, l_768, l_2304, l_2310, l_2316, l_2388, l_2394, l_2406, l_2418, l_2430, l_2558, l_2686, l_2814, l_2942, l_3070, l_3390, l_3394, l_3395, l_3396, l_3397, n_leT, n_leF, n_ltT, n_ltF, n_eqT, n_eqF, nI_add, pk_mul, n_sub, z_ldn, z_san, z_bs, z_b2s, z_b3s, z_ocN, z_ocS, z_oxL, z_oxR, z_scL, z_scR, ↓reduceIte, Nat.zero_add, Nat.add_zero, Nat.zero_lt_succ, true_and, and_true, eq_self, g0]
  have q2 : z_sa M9 171 32 0 (nI (S 3395) + 1) = some M12 := by
    rw [← hM12]
    simp (disch := first | omega | assumption) only [l_0, l_1, l_2, l_3, l_4, l_5, l_6, l_7, l_8, l_11, l_12, l_15, l_16, l_31, l_32, l_66, l_80, l_100, l_127, l_128, l_768, l_2304, l_2310, l_2316, l_2388, l_2394, l_2406, l_2418, l_2430, l_2558, l_2686, l_2814, l_2942, l_3070, l_3390, l_3394, l_3395, l_3396, l_3397, n_leT, n_leF, n_ltT, n_ltF, n_eqT, n_eqF, nI_add, pk_mul, n_sub, z_ldn, z_san, z_bs, z_b2s, z_b3s, z_ocN, z_ocS, z_oxL, z_oxR, z_scL, z_scR, ↓reduceIte, Nat.zero_add, Nat.add_zero, Nat.zero_lt_succ, true_and, and_true, eq_self]
  have q3 : z_ld M12 171 32 2 = some (nI (S 3396 + cmQ S 4)) := by
    have e : M12 171 2 = nI (S 3396 + cmQ S 4) := by rw [r12, if_neg (by decide), if_pos rfl]
    simp (disch := first | omega | assumption) only [l_0, l_1, l_2, l_3, l_4, l_5, l_6, l_7, l_8, l_11, l_12, l_15, l_16, l_31, l_32, l_66, l_80, l_100, l_127, l_128, l_768, l_2304, l_2310, l_2316, l_2388, l_2394, l_2406, l_2418, l_2430, l_2558, l_2686, l_2814, l_2942, l_3070, l_3390, l_3394, l_3395, l_3396, l_3397, n_leT, n_leF, n_ltT, n_ltF, n_eqT, n_eqF, nI_add, pk_mul, n_sub, z_ldn, z_san, z_bs, z_b2s, z_b3s, z_ocN, z_ocS, z_oxL, z_oxR, z_scL, z_scR, ↓reduceIte, Nat.zero_add, Nat.add_zero, Nat.zero_lt_succ, true_and, and_true, eq_self, e]
  have q4 : z_ld M12 171 32 0 = some (nI (S 3395 + 1)) := by
    have e : M12 171 0 = nI (S 3395 + 1) := by rw [r12, if_pos rfl]
    simp (disch := first | omega | assumption) only [l_0, l_1, l_2, l_3, l_4, l_5, l_6, l_7, l_8, l_11, l_12, l_15, l_16, l_31, l_32, l_66, l_80, l_100, l_127, l_128, l_768, l_2304, l_2310, l_2316, l_2388, l_2394, l_2406, l_2418, l_2430, l_2558, l_2686, l_2814, l_2942, l_3070, l_3390, l_3394, l_3395, l_3396, l_3397, n_leT, n_leF, n_ltT, n_ltF, n_eqT, n_eqF, nI_add, pk_mul, n_sub, z_ldn, z_san, z_bs, z_b2s, z_b3s, z_ocN, z_ocS, z_oxL, z_oxR, z_scL, z_scR, ↓reduceIte, Nat.zero_add, Nat.add_zero, Nat.zero_lt_succ, true_and, and_true, eq_self, e]
  unfold fL_isLogged
  rw [l1, z_b2s, w1, z_bs, q1, z_bs, q2, z_bs, if_neg (show ¬ nI 1 = 0 by decide), hc, z_bs, q3, z_bs, if_pos rfl, ht, z_bs, q4, z_bs, if_pos rfl]
  rfl
