theorem cm_R {M M1 M4 M6 : zM} {N N' : Nat → Int32} {S : Nat → Nat} {n : Nat} (hR : z_R1 1 M N S) (hIs : z_Is n S) (hF : Fcm S N N') (f1 : ∀ b, b < 128 → M1 (1 + 3 + 1) b = nI (cmA S b)) (f2 : ∀ a, a ≠ 1 + 3 + 1 → M1 a = M a) (l1 : ∀ a, a ≠ 1 → (a < 64 ∨ 84 ≤ a) → M4 a = M1 a) (l2 : M4 1 6 = nI (S 3396 + cmQ S 4)) (l3 : ∀ j, j ≠ 6 → M4 1 j = M1 1 j) (l4 : ∀ r, r < 4 → cLf S M1 M4 r) (h6 : M6 = z_st M4 1 4 (nI (S 3395 + 1))) : z_R1 1 M6 N' (cmS S) := by
  obtain ⟨r1, r2, r3, r4, r5, r6⟩ := hR
  have f6 : ∀ a, a ≠ 1 → M6 a = M4 a := fun a ha => by rw [h6, s_n ha]
  have fM : ∀ a, a ≠ 1 → a ≠ 1 + 3 + 1 → (a < 64 ∨ 84 ≤ a) → M6 a = M a := fun a a1 a2 a3 => by rw [f6 a a1, l1 a a1 a3, f2 a a2]
  refine ⟨fun t ht p hp => ?_, R_ds_S (R_ds_cg r2 (fun k k1 k2 => fM k (by omega) (by omega) (by omega))) (fun d hd => (hIs.2.2.2.2.2.2.2.1 d hd).1) (fun k k1 k2 => cm_o (by omega)), R_sn_S (R_sn_cg r3 (fun k k1 k2 => fM k (by omega) (by omega) (by omega))) hIs.2.2.2.1 (fun d hd => (hIs.2.2.2.2.2.1 d hd).1) (fun k k1 k2 => cm_o (by omega)), fun b hb => ⟨?_, ?_, ?_, ?_⟩, fun r hr => ?_, ?_, ?_, ?_⟩
  · rw [fM _ (by omega) (by omega) (by omega), cm_o (by omega)]
    exact r1 t ht p hp
  · rw [f6 _ (by decide), l1 _ (by decide) (by decide), f1 b hb]
    unfold z_sta cmA
    rw [cm_o (by omega), cm_p hb]
    by_cases q : S (2814 + b) = 0
    · rw [if_pos q, if_neg (fun x => x q), if_neg (fun x => x rfl)]
    · rw [if_neg q, if_pos q]
  · rw [fM _ (by decide) (by decide) (by decide), hF.1 _ (by omega) (by omega)]
    exact (r4 b hb).2.1
  · rw [fM _ (by decide) (by decide) (by decide), cm_o (by omega)]
    exact (r4 b hb).2.2.1
  · rw [fM _ (by decide) (by decide) (by decide), cm_o (by omega)]
    exact (r4 b hb).2.2.2
  · obtain ⟨k1, k2, k3⟩ := l4 r hr
    obtain ⟨q1, q2, q3⟩ := r5 r hr
    have g0 : M6 (1 + 63 + 5 * r) = M4 (1 + 63 + 5 * r) := f6 _ (by omega)
    refine ⟨by rw [g0]; exact k1, by rw [g0, cm_l hr]; exact k2, fun j hj => ?_⟩
    rw [cm_l hr] at hj
    obtain ⟨u1, u2⟩ := k3 j hj
    obtain ⟨v1, v2⟩ := hF.2 r hr j hj
    unfold R_lg1
    rw [f6 (1 + 63 + 5 * r + 1) (by omega), f6 (1 + 63 + 5 * r + 2) (by omega), f6 (1 + 63 + 5 * r + 3) (by omega)]
    by_cases y : cmO S r j
    · rw [u1 y 1 (by omega) (by omega), u1 y 2 (by omega) (by omega), u1 y 3 (by omega) (by omega), v1 y, f2 (1 + 63 + 5 * r + 1) (by omega), f2 (1 + 63 + 5 * r + 2) (by omega), f2 (1 + 63 + 5 * r + 3) (by omega)]
      exact q3 j y.2
    · obtain ⟨w1, w2, w3⟩ := u2 y
      obtain ⟨e1, e2, e3⟩ := lgE_val hj y
      rw [w3]
      exact ⟨_, _, e1, Nat.le_add_right _ _, by show 32 * r + (cmE S r j).1 + (cmE S r j).2.1 ≤ 32 * r + 32; have e2 : (cmE S r j).1 + (cmE S r j).2.1 ≤ 32 := e2; omega, w1, w2, v2 y⟩
  · rw [h6, s_s, u_s, cm_5]
  · rw [h6, s_s, u_n (by decide), l3 5 (by decide), f2 1 (by decide), cm_o (by omega)]
    exact r6.2.1
  · rw [h6, s_s, u_n (by decide), cm_6]
    exact l2
theorem cClose {n n' : Nat} {M : zM} {N N0 N1 : Nat → Int32} {S S0 : Nat → Nat} (hR : z_R1 1 M N S) (hR0 : z_R1 84 M N0 S0) (hI : z_I n' S) (hI' : z_I (n + 1) (cmS S)) (hB : z_Bf S S0) (hF : Fcm S N N1) : ∃ M', fX6_closeTransaction 0 M = some (nI (S 3395), M') ∧ (∀ N', Fcm S N N' → z_R1 1 M' N' (cmS S) ∧ z_R1 84 M' N' (cmS S)) ∧ ∀ a, 167 ≤ a → M' a = M a := by
  obtain ⟨M1, e1, f1, f2⟩ := cRel (I_st hR.2.2.2.1)
  have c4 : M 1 4 = nI (S 3395) := hR.2.2.2.2.2.1
  obtain ⟨M4, g1, l1, l2, l3, l4⟩ := cLogs (M1 := M1) (S := S) (S0 := S0) (fun r hr => by
    rw [f2 _ (by omega)]
    exact ⟨(hR.2.2.2.2.1 r hr).1, (hR.2.2.2.2.1 r hr).2.1, I_log hI r hr⟩) f1 (fun b hb => by
    rw [f2 _ (by decide)]
    exact (hR0.2.2.2.1 b hb).1) hB (by rw [f2 _ (by decide)]; exact hR.2.2.2.2.2.2.2)
  obtain ⟨M6, hM6⟩ : ∃ M6, M6 = z_st M4 1 4 (nI (S 3395 + 1)) := ⟨_, rfl⟩
  have hall : ∀ N', Fcm S N N' → z_R1 1 M6 N' (cmS S) := fun N' h => cm_R hR hI.1 h f1 f2 l1 l2 l3 l4 hM6
  have f84 : ∀ a, 84 ≤ a → M6 a = M a := fun a ha => by rw [hM6, s_n (by omega), l1 a (by omega) (by omega), f2 a (by omega)]
  obtain ⟨M7, h1, h2, h3⟩ := cCopy (V := 84) (W := 1) (by decide) (hall N1 hF) hI' (fun r hr => by
    rw [f84 _ (by omega)]
    exact (hR0.2.2.2.2.1 r hr).1)
  refine ⟨M7, ?_, fun N' h => ⟨z_R1_cg (hall N' h) (fun k k1 k2 _ => h3 k (by omega)), h2 N' (hall N' h)⟩, fun a ha => by rw [h3 a (by omega), f84 a (by omega)]⟩
  unfold fX6_closeTransaction
  rw [show fX3_releasePending (0 + 1 + 3) M = some M1 from e1, z_bs, show z_loop _ z_FU ((0 : Int32), M1) = _ from g1, z_bs, c4, show nI (S 3395) + 1 = nI (S 3395 + 1) from nI_add _ _, show z_st M4 (0 + 1) 4 (nI (S 3395 + 1)) = M6 from hM6.symm, z_bs, show fX5_copyFrom (0 + 84) (0 + 1) M6 = some M7 from h1, z_bs]
theorem Bf_1 {S S0 : Nat → Nat} (h : z_Bf S S0) : ∀ b, b < 128 → S (2942 + b) ≤ 1 := fun b hb => by
  rw [h b hb]
  split <;> omega
theorem op_6 {n : Nat} (hn : n < 512) {M : zM} (h : z_P n M) (a1 a2 a3 a4 a5 a6 : Int32) : ∃ M9, fL_c6 a1 a2 a3 a4 a5 a6 M = some (1, M9) ∧ z_P (n + 1) M9 := by
  obtain ⟨S, S0, hN, hN0, hR, hR0, hI, hI0, hB, hB0⟩ := id h
  have hb := I_bnd hI
  have hI' : z_I (n + 1) (cmS S) := cm_I hI.1 hI.2 (by omega) hb.2.1 hb.2.2.1 hb.2.2.2
  obtain ⟨Md, _, _, hFd, _, _⟩ := mCm (Mm := M) hN hI (by omega) (Bf_1 hB)
  obtain ⟨M2, e1, e2, e3⟩ := cClose hR hR0 hI hI' hB hFd
  have h170 : M2 170 = M 170 := e3 _ (by decide)
  obtain ⟨M4, m1, m2, m3, m4, m5⟩ := mCm (Mm := z_st M2 169 4 (nI 0)) (S := S) (by
    show z_N (M2 170) S
    rw [h170]
    exact hN) hI (by omega) (Bf_1 hB)
  have m3 : Fcm S (M 170) (M4 170) := by
    have : (z_st M2 169 4 (nI 0)) 170 = M 170 := h170
    rw [this] at m3
    exact m3
  obtain ⟨r1, r2⟩ := e2 _ m3
  have f4 : ∀ a, a < 169 → M4 a = M2 a := fun a ha => by rw [m5 a (by omega) (by omega), s_n (by omega)]
  have hl : ∀ r, r < 4 → cmS S (3390 + r) ≤ 80 := fun r hr => by
    rw [cm_l hr]
    have := cmN_le (S := S) (r := r)
    omega
  refine ⟨M4, ?_, cmS S, cmS S, m2, ?_, z_R1_cg r1 (fun k k1 k2 _ => f4 k (by omega)), z_R1_N (z_R1_cg r2 (fun k k1 k2 _ => f4 k (by omega))) hl (fun k k1 k2 => m4 k (by omega)) (fun k k1 k2 => m4 k (by omega)), hI', hI', cm_Bf, cm_Bf⟩
  · unfold fL_c6 fX6_commit fX7_commit
    simp (disch := first | omega | assumption) only [l_0, l_1, l_2, l_3, l_4, l_5, l_6, l_7, l_8, l_11, l_12, l_15, l_16, l_31, l_32, l_66, l_80, l_100, l_127, l_128, l_768, l_2304, l_2310, l_2316, l_2388, l_2394, l_2406, l_2418, l_2430, l_2558, l_2686, l_2814, l_2942, l_3070, l_3390, l_3394, l_3395, l_3396, l_3397, n_leT, n_leF, n_ltT, n_ltF, n_eqT, n_eqF, nI_add, pk_mul, n_sub, z_ldn, z_san, z_bs, z_b2s, z_b3s, z_ocN, z_ocS, z_oxL, z_oxR, z_scL, z_scR, ↓reduceIte, st_170, st_171, st_172, st_173, Nat.zero_add, Nat.add_zero, Nat.zero_lt_succ, true_and, and_true, eq_self, e1, m1]
  · exact ⟨fun k hk => by rw [m4 k (by omega)]; exact m2.1 k hk, fun k k1 k2 => by rw [m4 k (by omega)]; exact m2.2.1 k k1 k2, fun k k1 k2 => by rw [m4 k (by omega)]; exact m2.2.2 k k1 k2⟩
