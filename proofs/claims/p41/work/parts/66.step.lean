/-! ===== a step of the law; how it begins ===== -/
def q_P (n : Nat) (M : zM) : Prop := ∃ N N0 S S0, Q_st n M N N0 S S0
theorem f_snps {n : Nat} {M : zM} {N N0 : Nat → Int32} {S S0 : Nat → Nat} (hn : n < 512) (hQ : Q_st n M N N0 S S0) {s wy : Nat} (hs4 : s < 4) (h0 : S (2394 + s) ≠ 0) (hw : wy < 16) : ∃ M3 S1, fL_snapshots 0 169 170 171 (nI wy) (nI s) M = some (nI 1, M3) ∧ Q_st n M3 N N0 S1 S0 := by
  by_cases c : wy < 12
  · exact f_sdes hn hQ hs4 h0 c
  · by_cases c2 : wy < 14
    · exact f_roll hn hQ hs4 h0 (by omega) c2
    · exact f_clone hn hQ hs4 h0 (by omega) hw
set_option maxHeartbeats 2000000 in
theorem f_step {n j1 j2 j3 : Nat} {M : zM} (hn : n < 150) (h1 : j1 < 24) (h2 : j2 < 10000) (h3 : j3 < 3) (hP : q_P n M) : ∃ M9, fL_step (nI j1) (nI j2) (nI j3) (nI n) M = some (1, M9) ∧ q_P (n + 1) M9 := by
  obtain ⟨N, N0, S, S0, hQ⟩ := hP
  have hI := hQ.1.2.1
  have hs := hQ.1.2.2.1
  obtain ⟨hX, hB, hM⟩ := hQ.2.1
  have x0 : S 2304 ≤ 1 := I_ex hI 0 (by decide)
  have x1 : S 2305 ≤ 1 := I_ex hI 1 (by decide)
  have x2 : S 2306 ≤ 1 := I_ex hI 2 (by decide)
  have m4 : M 171 4 = nI (S 2304) := (hM.2.1 0 (by decide)).1
  have m5 : M 171 5 = nI (S 2305) := (hM.2.1 1 (by decide)).1
  have m6 : M 171 6 = nI (S 2306) := (hM.2.1 2 (by decide)).1
  have mj := (hM.2.1 j3 h3).1
  have xj := I_ex hI j3 (by omega)
  have l4 : z_ld M 171 32 4 = some (nI (S 2304)) := by simp (disch := first | omega | assumption) only [l_0, l_1, l_2, l_3, l_4, l_5, l_6, l_7, l_8, l_11, l_12, l_15, l_16, l_31, l_32, l_66, l_80, l_100, l_127, l_128, l_768, l_2304, l_2310, l_2316, l_2388, l_2394, l_2406, l_2418, l_2430, l_2558, l_2686, l_2814, l_2942, l_3070, l_3390, l_3394, l_3395, l_3396, l_3397, n_leT, n_leF, n_ltT, n_ltF, n_eqT, n_eqF, nI_add, pk_mul, n_sub, z_ldn, z_san, z_bs, z_b2s, z_b3s, z_ocN, z_ocS, z_oxL, z_oxR, z_scL, z_scR, ↓reduceIte, Nat.zero_add, Nat.add_zero, Nat.zero_lt_succ, true_and, and_true, eq_self, n_div, n_mod, z_ldJn, z_saJn, f_blk, f_plc, l_9, l_10, l_13, l_14, l_17, l_18, l_19, l_20, l_21, l_22, l_24, l_28, l_60, l_61, l_62, l_64, l_98, l_99, m4]
  have l5 : z_ld M 171 32 5 = some (nI (S 2305)) := by simp (disch := first | omega | assumption) only [l_0, l_1, l_2, l_3, l_4, l_5, l_6, l_7, l_8, l_11, l_12, l_15, l_16, l_31, l_32, l_66, l_80, l_100, l_127, l_128, l_768, l_2304, l_2310, l_2316, l_2388, l_2394, l_2406, l_2418, l_2430, l_2558, l_2686, l_2814, l_2942, l_3070, l_3390, l_3394, l_3395, l_3396, l_3397, n_leT, n_leF, n_ltT, n_ltF, n_eqT, n_eqF, nI_add, pk_mul, n_sub, z_ldn, z_san, z_bs, z_b2s, z_b3s, z_ocN, z_ocS, z_oxL, z_oxR, z_scL, z_scR, ↓reduceIte, Nat.zero_add, Nat.add_zero, Nat.zero_lt_succ, true_and, and_true, eq_self, n_div, n_mod, z_ldJn, z_saJn, f_blk, f_plc, l_9, l_10, l_13, l_14, l_17, l_18, l_19, l_20, l_21, l_22, l_24, l_28, l_60, l_61, l_62, l_64, l_98, l_99, m5]
  have lj : z_ld M 171 32 (4 + nI j3) = some (nI (S (2304 + j3))) := by simp (disch := first | omega | assumption) only [l_0, l_1, l_2, l_3, l_4, l_5, l_6, l_7, l_8, l_11, l_12, l_15, l_16, l_31, l_32, l_66, l_80, l_100, l_127, l_128, l_768, l_2304, l_2310, l_2316, l_2388, l_2394, l_2406, l_2418, l_2430, l_2558, l_2686, l_2814, l_2942, l_3070, l_3390, l_3394, l_3395, l_3396, l_3397, n_leT, n_leF, n_ltT, n_ltF, n_eqT, n_eqF, nI_add, pk_mul, n_sub, z_ldn, z_san, z_bs, z_b2s, z_b3s, z_ocN, z_ocS, z_oxL, z_oxR, z_scL, z_scR, ↓reduceIte, Nat.zero_add, Nat.add_zero, Nat.zero_lt_succ, true_and, and_true, eq_self, n_div, n_mod, z_ldJn, z_saJn, f_blk, f_plc, l_9, l_10, l_13, l_14, l_17, l_18, l_19, l_20, l_21, l_22, l_24, l_28, l_60, l_61, l_62, l_64, l_98, l_99, mj]
  -- the dataset
  obtain ⟨d, hd, hdx, hdd⟩ : ∃ d, d < 3 ∧ S (2304 + d) = 1 ∧ ((if nI (S (2304 + j3)) = 1 then (some (nI j3)) else ((z_ld M 171 32 4).bind fun x30 => if x30 = 1 then (some 0) else ((z_ld M 171 32 5).bind fun x32 => if x32 = 1 then (some 1) else (some 2))) : Option Int32)) = some (nI d) := by
    by_cases c : S (2304 + j3) = 1
    · exact ⟨j3, h3, c, by rw [c]; rfl⟩
    · have c0 : S (2304 + j3) = 0 := by omega
      rw [c0, l4, l5]
      by_cases c4 : S 2304 = 1
      · exact ⟨0, by decide, c4, by rw [c4]; rfl⟩
      · have e4 : S 2304 = 0 := by omega
        by_cases c5 : S 2305 = 1
        · exact ⟨1, by decide, c5, by rw [e4, c5]; rfl⟩
        · have e5 : S 2305 = 0 := by omega
          obtain ⟨d, q1, q2⟩ := I_one hI
          have hd2 : d = 2 := by
            have y0 : d ≠ 0 := fun x => c4 (by rw [x] at q2; exact q2)
            have y1 : d ≠ 1 := fun x => c5 (by rw [x] at q2; exact q2)
            have y3 : ¬ 3 ≤ d := fun x => by
              have := hs.2.1 d x q1
              omega
            omega
          subst hd2
          exact ⟨2, by decide, q2, by rw [e4, e5]; rfl⟩
  -- the slot
  have ms := (hM.2.2 (j2 % 4) (by omega)).1
  have bs := I_nb hI (j2 % 4) (by omega)
  have ls : z_ld M 171 32 (12 + (nI j2 - nI j2 / 4 * 4)) = some (nI (S (2394 + j2 % 4))) := by simp (disch := first | omega | assumption) only [l_0, l_1, l_2, l_3, l_4, l_5, l_6, l_7, l_8, l_11, l_12, l_15, l_16, l_31, l_32, l_66, l_80, l_100, l_127, l_128, l_768, l_2304, l_2310, l_2316, l_2388, l_2394, l_2406, l_2418, l_2430, l_2558, l_2686, l_2814, l_2942, l_3070, l_3390, l_3394, l_3395, l_3396, l_3397, n_leT, n_leF, n_ltT, n_ltF, n_eqT, n_eqF, nI_add, pk_mul, n_sub, z_ldn, z_san, z_bs, z_b2s, z_b3s, z_ocN, z_ocS, z_oxL, z_oxR, z_scL, z_scR, ↓reduceIte, Nat.zero_add, Nat.add_zero, Nat.zero_lt_succ, true_and, and_true, eq_self, n_div, n_mod, z_ldJn, z_saJn, f_blk, f_plc, l_9, l_10, l_13, l_14, l_17, l_18, l_19, l_20, l_21, l_22, l_24, l_28, l_60, l_61, l_62, l_64, l_98, l_99, ms]
  have ej : nI j2 - nI j2 / 4 * 4 = nI (j2 % 4) := by simp (disch := first | omega | assumption) only [l_0, l_1, l_2, l_3, l_4, l_5, l_6, l_7, l_8, l_11, l_12, l_15, l_16, l_31, l_32, l_66, l_80, l_100, l_127, l_128, l_768, l_2304, l_2310, l_2316, l_2388, l_2394, l_2406, l_2418, l_2430, l_2558, l_2686, l_2814, l_2942, l_3070, l_3390, l_3394, l_3395, l_3396, l_3397, n_leT, n_leF, n_ltT, n_ltF, n_eqT, n_eqF, nI_add, pk_mul, n_sub, z_ldn, z_san, z_bs, z_b2s, z_b3s, z_ocN, z_ocS, z_oxL, z_oxR, z_scL, z_scR, ↓reduceIte, Nat.zero_add, Nat.add_zero, Nat.zero_lt_succ, true_and, and_true, eq_self, n_div, n_mod, z_ldJn, z_saJn, f_blk, f_plc, l_9, l_10, l_13, l_14, l_17, l_18, l_19, l_20, l_21, l_22, l_24, l_28, l_60, l_61, l_62, l_64, l_98, l_99]
  obtain ⟨j6, hj6, hjj⟩ : ∃ j6 : Int32, ((if nI (S (2394 + j2 % 4)) ≤ 0 then (some (-1)) else (some (nI j2 - nI j2 / 4 * 4)) : Option Int32)) = some j6 ∧ ((S (2394 + j2 % 4) = 0 ∧ j6 = -nI 1) ∨ (S (2394 + j2 % 4) ≠ 0 ∧ j6 = nI (j2 % 4))) := by
    by_cases c : S (2394 + j2 % 4) = 0
    · rw [c]
      exact ⟨_, if_pos (by decide), Or.inl ⟨rfl, rfl⟩⟩
    · exact ⟨_, if_neg (show ¬ nI (S (2394 + j2 % 4)) ≤ (0 : Int32) from w_leN (b := 0) (by omega) (by omega) (by decide)), Or.inr ⟨c, ej⟩⟩
  -- the free slot
  have f0 : M 171 12 = nI (S 2394) := (hM.2.2 0 (by decide)).1
  have f1 : M 171 13 = nI (S 2395) := (hM.2.2 1 (by decide)).1
  have f2 : M 171 14 = nI (S 2396) := (hM.2.2 2 (by decide)).1
  have f3 : M 171 15 = nI (S 2397) := (hM.2.2 3 (by decide)).1
  have b0 : S 2394 ≤ n := I_nb hI 0 (by decide)
  have b1 : S 2395 ≤ n := I_nb hI 1 (by decide)
  have b2 : S 2396 ≤ n := I_nb hI 2 (by decide)
  have b3 : S 2397 ≤ n := I_nb hI 3 (by decide)
  have k0 : z_ld M 171 32 12 = some (nI (S 2394)) := by simp (disch := first | omega | assumption) only [l_0, l_1, l_2, l_3, l_4, l_5, l_6, l_7, l_8, l_11, l_12, l_15, l_16, l_31, l_32, l_66, l_80, l_100, l_127, l_128, l_768, l_2304, l_2310, l_2316, l_2388, l_2394, l_2406, l_2418, l_2430, l_2558, l_2686, l_2814, l_2942, l_3070, l_3390, l_3394, l_3395, l_3396, l_3397, n_leT, n_leF, n_ltT, n_ltF, n_eqT, n_eqF, nI_add, pk_mul, n_sub, z_ldn, z_san, z_bs, z_b2s, z_b3s, z_ocN, z_ocS, z_oxL, z_oxR, z_scL, z_scR, ↓reduceIte, Nat.zero_add, Nat.add_zero, Nat.zero_lt_succ, true_and, and_true, eq_self, n_div, n_mod, z_ldJn, z_saJn, f_blk, f_plc, l_9, l_10, l_13, l_14, l_17, l_18, l_19, l_20, l_21, l_22, l_24, l_28, l_60, l_61, l_62, l_64, l_98, l_99, f0]
  have k1 : z_ld M 171 32 13 = some (nI (S 2395)) := by simp (disch := first | omega | assumption) only [l_0, l_1, l_2, l_3, l_4, l_5, l_6, l_7, l_8, l_11, l_12, l_15, l_16, l_31, l_32, l_66, l_80, l_100, l_127, l_128, l_768, l_2304, l_2310, l_2316, l_2388, l_2394, l_2406, l_2418, l_2430, l_2558, l_2686, l_2814, l_2942, l_3070, l_3390, l_3394, l_3395, l_3396, l_3397, n_leT, n_leF, n_ltT, n_ltF, n_eqT, n_eqF, nI_add, pk_mul, n_sub, z_ldn, z_san, z_bs, z_b2s, z_b3s, z_ocN, z_ocS, z_oxL, z_oxR, z_scL, z_scR, ↓reduceIte, Nat.zero_add, Nat.add_zero, Nat.zero_lt_succ, true_and, and_true, eq_self, n_div, n_mod, z_ldJn, z_saJn, f_blk, f_plc, l_9, l_10, l_13, l_14, l_17, l_18, l_19, l_20, l_21, l_22, l_24, l_28, l_60, l_61, l_62, l_64, l_98, l_99, f1]
  have k2 : z_ld M 171 32 14 = some (nI (S 2396)) := by simp (disch := first | omega | assumption) only [l_0, l_1, l_2, l_3, l_4, l_5, l_6, l_7, l_8, l_11, l_12, l_15, l_16, l_31, l_32, l_66, l_80, l_100, l_127, l_128, l_768, l_2304, l_2310, l_2316, l_2388, l_2394, l_2406, l_2418, l_2430, l_2558, l_2686, l_2814, l_2942, l_3070, l_3390, l_3394, l_3395, l_3396, l_3397, n_leT, n_leF, n_ltT, n_ltF, n_eqT, n_eqF, nI_add, pk_mul, n_sub, z_ldn, z_san, z_bs, z_b2s, z_b3s, z_ocN, z_ocS, z_oxL, z_oxR, z_scL, z_scR, ↓reduceIte, Nat.zero_add, Nat.add_zero, Nat.zero_lt_succ, true_and, and_true, eq_self, n_div, n_mod, z_ldJn, z_saJn, f_blk, f_plc, l_9, l_10, l_13, l_14, l_17, l_18, l_19, l_20, l_21, l_22, l_24, l_28, l_60, l_61, l_62, l_64, l_98, l_99, f2]
  have k3 : z_ld M 171 32 15 = some (nI (S 2397)) := by simp (disch := first | omega | assumption) only [l_0, l_1, l_2, l_3, l_4, l_5, l_6, l_7, l_8, l_11, l_12, l_15, l_16, l_31, l_32, l_66, l_80, l_100, l_127, l_128, l_768, l_2304, l_2310, l_2316, l_2388, l_2394, l_2406, l_2418, l_2430, l_2558, l_2686, l_2814, l_2942, l_3070, l_3390, l_3394, l_3395, l_3396, l_3397, n_leT, n_leF, n_ltT, n_ltF, n_eqT, n_eqF, nI_add, pk_mul, n_sub, z_ldn, z_san, z_bs, z_b2s, z_b3s, z_ocN, z_ocS, z_oxL, z_oxR, z_scL, z_scR, ↓reduceIte, Nat.zero_add, Nat.add_zero, Nat.zero_lt_succ, true_and, and_true, eq_self, n_div, n_mod, z_ldJn, z_saJn, f_blk, f_plc, l_9, l_10, l_13, l_14, l_17, l_18, l_19, l_20, l_21, l_22, l_24, l_28, l_60, l_61, l_62, l_64, l_98, l_99, f3]
  obtain ⟨j9, hj9, hjf⟩ : ∃ j9 : Int32, ((if nI (S 2394) = 0 then (some 0) else ((z_ld M 171 32 13).bind fun x24 => if x24 = 0 then (some 1) else ((z_ld M 171 32 14).bind fun x26 => if x26 = 0 then (some 2) else ((z_ld M 171 32 15).bind fun x28 => if x28 = 0 then (some 3) else (some (-1))))) : Option Int32)) = some j9 ∧ (j9 = -nI 1 ∨ ∃ f, f < 4 ∧ j9 = nI f ∧ S (2394 + f) = 0 ∧ ∀ t, t < f → S (2394 + t) ≠ 0) := by
    rw [k1, k2, k3]
    by_cases c0 : S 2394 = 0
    · exact ⟨_, if_pos (by rw [c0]; rfl), Or.inr ⟨0, by decide, rfl, c0, fun t ht => absurd ht (Nat.not_lt_zero t)⟩⟩
    · have n0 : ¬ nI (S 2394) = (0 : Int32) := w_neq c0 (by omega) (by decide)
      by_cases c1 : S 2395 = 0
      · refine ⟨nI 1, ?_, Or.inr ⟨1, by decide, rfl, c1, fun t ht => ?_⟩⟩
        · rw [if_neg n0, z_bs, if_pos (by rw [c1]; rfl)]
          rfl
        · have e : t = 0 := by omega
          subst e
          exact c0
      · have n1 : ¬ nI (S 2395) = (0 : Int32) := w_neq c1 (by omega) (by decide)
        by_cases c2 : S 2396 = 0
        · refine ⟨nI 2, ?_, Or.inr ⟨2, by decide, rfl, c2, fun t ht => ?_⟩⟩
          · rw [if_neg n0, z_bs, if_neg n1, z_bs, if_pos (by rw [c2]; rfl)]
            rfl
          · have e : t = 0 ∨ t = 1 := by omega
            rcases e with e | e
            · subst e
              exact c0
            · subst e
              exact c1
        · have n2 : ¬ nI (S 2396) = (0 : Int32) := w_neq c2 (by omega) (by decide)
          by_cases c3 : S 2397 = 0
          · refine ⟨nI 3, ?_, Or.inr ⟨3, by decide, rfl, c3, fun t ht => ?_⟩⟩
            · rw [if_neg n0, z_bs, if_neg n1, z_bs, if_neg n2, z_bs, if_pos (by rw [c3]; rfl)]
              rfl
            · have e : t = 0 ∨ t = 1 ∨ t = 2 := by omega
              rcases e with e | e | e
              · subst e
                exact c0
              · subst e
                exact c1
              · subst e
                exact c2
          · have n3 : ¬ nI (S 2397) = (0 : Int32) := w_neq c3 (by omega) (by decide)
            refine ⟨-nI 1, ?_, Or.inl rfl⟩
            rw [if_neg n0, z_bs, if_neg n1, z_bs, if_neg n2, z_bs, if_neg n3]
            rfl
  -- the way
  obtain ⟨M12, N1, N2, S1, S2, hway, hQ1⟩ : ∃ M12 N1 N2 S1 S2, (if 9 ≤ nI j1 then (if 16 ≤ nI j1 then (fL_way (nI j1) (nI d) j9 M) else (if j6 < 0 then (fL_way (nI j1) (nI d) j9 M) else (z_b2 (fL_snapshots 0 169 170 171 (nI j1) j6 M) fun x20 M21 => some (x20, M21)))) else (z_b2 (fL_places 0 169 170 171 (nI j1) (nI d) (nI j2) M) fun x22 M23 => some (x22, M23)) : Option (Int32 × zM)) = some (nI 1, M12) ∧ Q_st (n + 1) M12 N1 N2 S1 S2 := by
    by_cases c9 : 9 ≤ j1
    · rw [if_pos (show (9 : Int32) ≤ nI j1 from w_leY c9 (by decide) (by omega))]
      by_cases c16 : 16 ≤ j1
      · rw [if_pos (show (16 : Int32) ≤ nI j1 from w_leY c16 (by decide) (by omega))]
        exact f_way (by omega) hQ hd hdx h1 hjf
      · rw [if_neg (show ¬ (16 : Int32) ≤ nI j1 from w_leN c16 (by decide) (by omega))]
        rcases hjj with ⟨q1, q2⟩ | ⟨q1, q2⟩
        · rw [q2, if_pos (by decide)]
          exact f_way (by omega) hQ hd hdx h1 hjf
        · rw [q2, if_neg (fun x => by
            rw [show (0 : Int32) = nI 0 from rfl, n_ltF (by omega) (by omega) (by omega)] at x
            exact x)]
          obtain ⟨M3, S1, y1, y2⟩ := f_snps (by omega) hQ (s := j2 % 4) (wy := j1) (by omega) q1 (by omega)
          rw [y1, z_b2s]
          exact ⟨M3, N, N0, S1, S0, rfl, st_mono y2⟩
    · rw [if_neg (show ¬ (9 : Int32) ≤ nI j1 from w_leN c9 (by decide) (by omega))]
      obtain ⟨M3, N', S1, y1, y2⟩ := f_plcs (by omega) hQ (d := d) (z := j2) (wy := j1) hd hdx h2 (by omega)
      rw [y1, z_b2s]
      exact ⟨M3, N', N0, S1, S0, rfl, st_mono y2⟩
  have en : nI n - nI n / 5 * 5 = nI (n % 5) := by simp (disch := first | omega | assumption) only [l_0, l_1, l_2, l_3, l_4, l_5, l_6, l_7, l_8, l_11, l_12, l_15, l_16, l_31, l_32, l_66, l_80, l_100, l_127, l_128, l_768, l_2304, l_2310, l_2316, l_2388, l_2394, l_2406, l_2418, l_2430, l_2558, l_2686, l_2814, l_2942, l_3070, l_3390, l_3394, l_3395, l_3396, l_3397, n_leT, n_leF, n_ltT, n_ltF, n_eqT, n_eqF, nI_add, pk_mul, n_sub, z_ldn, z_san, z_bs, z_b2s, z_b3s, z_ocN, z_ocS, z_oxL, z_oxR, z_scL, z_scR, ↓reduceIte, Nat.zero_add, Nat.add_zero, Nat.zero_lt_succ, true_and, and_true, eq_self, n_div, n_mod, z_ldJn, z_saJn, f_blk, f_plc, l_9, l_10, l_13, l_14, l_17, l_18, l_19, l_20, l_21, l_22, l_24, l_28, l_60, l_61, l_62, l_64, l_98, l_99]
  have z11 : ¬ nI 1 = (0 : Int32) := by decide
  have top : fL_step (nI j1) (nI j2) (nI j3) (nI n) M = if (nI n - nI n / 5 * 5) < 4 then (some (1, M12)) else (z_b2 (fL_isTold 0 169 170 171 M12) fun x15 M16 => if x15 = 0 then (some (0, M16)) else (some (1, M16))) := by
    unfold fL_step
    rw [lj, z_bs, hdd, z_bs, ls, z_bs, hj6, z_bs, k0, z_bs, hj9, z_bs, hway, z_b2s, if_neg z11]
  rw [top, en]
  by_cases c4 : n % 5 < 4
  · refine ⟨M12, ?_, N1, N2, S1, S2, hQ1⟩
    rw [if_pos (by rw [show (4 : Int32) = nI 4 from rfl, n_ltT (by omega) (by omega) (by omega)]; trivial)]
  · obtain ⟨M16, t1, t2⟩ := f_told (by omega) (Q_LR hQ1)
    refine ⟨M16, ?_, N1, N2, S1, S2, sm_st t2 hQ1⟩
    rw [if_neg (fun x => by
      rw [show (4 : Int32) = nI 4 from rfl, n_ltF (by omega) (by omega) (by omega)] at x
      exact x), t1, z_b2s, if_neg z11]
theorem z_at0 {k : Nat} (h : z_ik k = 0) (j : Nat) : z_M0 k j = nI 0 := by
  rw [z_M0c h]
  rfl
theorem lr_0 {N : Nat → Int32} {r : Nat} (hr : r < 4) : y_lr N S_0 r := by
  have e : S_0 (3390 + r) = 0 := S0_z (by omega) (by omega)
  refine ⟨fun _ => (0, 0, 0), fun _ => Nat.zero_le _, fun j hj => ?_, fun p hp => ?_⟩
  · rw [e] at hj
    exact absurd hj (Nat.not_lt_zero j)
  · rw [e, S0_z (by omega) (by omega)]
    rfl
set_option maxHeartbeats 2000000 in
theorem q_P0 : ∃ M9, fL_keep 169 170 171 172 173 174 (z_st (z_st z_M0 171 0 1) 171 4 1) = some M9 ∧ q_P 0 M9 := by
  obtain ⟨M1, hM1⟩ : ∃ M1, z_st (z_st z_M0 171 0 1) 171 4 1 = M1 := ⟨_, rfl⟩
  have f1 : ∀ a, a ≠ 171 → M1 a = z_M0 a := fun a ha => by rw [← hM1, s_n ha, s_n ha]
  have r1 : ∀ i, M1 171 i = if i = 4 then nI 1 else if i = 0 then nI 1 else nI 0 := fun i => by
    rw [← hM1, s_s, s_s]
    by_cases y : i = 4
    · rw [y, u_s]
      rfl
    · rw [u_n y, if_neg y]
      by_cases y2 : i = 0
      · rw [y2, u_s]
        rfl
      · rw [u_n y2, if_neg y2]
        exact z_at0 (by decide) i
  obtain ⟨M9, k1, k2, k3, k4, k5⟩ := f_keep (M := M1) (a0 := 169) (a1 := 170) (a2 := 171) (a3 := 172) (a4 := 173) (a5 := 174) (by decide)
  have hQL : Q_L 169 170 171 M1 (fun _ => 0) S_0 := by
    refine ⟨fun k hk => ?_, fun i hi => ⟨?_, ?_⟩, ⟨?_, ?_, ?_⟩, fun d hd => ⟨?_, ?_⟩, fun s hs => ⟨?_, fun x => absurd (S0_z (by omega) (by omega)) x⟩⟩
    · have := ps_2304 hk
      rw [f1 169 (by decide), S0_z (by omega) (by omega)]
      exact z_at0 (by decide) k
    · have hb := bl_128 hi
      rw [f1 170 (by decide), S0_z (by omega) (by omega), S0_z (by omega) (by omega), S0_z (by omega) (by omega), S0_z (by omega) (by omega)]
      show z_JJ (z_M0 170 (2 * i)) (z_M0 170 (2 * i + 1)) = y_E 0 0 0 0 0
      rw [z_at0 (by decide), z_at0 (by decide)]
      decide
    · have hb := bl_128 hi
      rw [S0_z (by omega) (by omega)]
      decide
    · rw [r1, if_neg (by decide), if_pos rfl, S0_b]
    · rw [r1, if_neg (by decide), if_neg (by decide), S0_z (by decide) (by decide)]
    · rw [r1, if_neg (by decide), if_neg (by decide), S0_z (by decide) (by decide)]
    · rw [r1]
      by_cases y : d = 0
      · subst y
        rw [if_pos rfl]
        exact congrArg nI S0_a.symm
      · rw [if_neg (by omega), if_neg (by omega), S0_z (by omega) (by omega)]
    · have e : z_onum S_0 d = 0 := if_pos (S0_z (by omega) (by omega))
      rw [r1, if_neg (by omega), if_neg (by omega), e]
    · rw [r1, if_neg (by omega), if_neg (by omega), S0_z (by omega) (by omega)]
  have hsm : q_sm S_0 := ⟨fun k hk _ => S0_z (by omega) (by omega), fun d _ _ => S0_z (by omega) (by omega), fun s _ _ => S0_z (by omega) (by omega), fun b hb _ => ⟨S0_z (by omega) (by omega), S0_z (by omega) (by omega), S0_z (by omega) (by omega)⟩⟩
  have hpd : q_pd S_0 := fun b hb => ⟨fun x => absurd (S0_z (by omega) (by omega)) x, fun x => absurd (S0_z (by omega) (by omega)) x⟩
  have hR1 : z_R1 1 z_M0 (fun _ => 0) S_0 := R1_0 (by decide) (by decide) (by decide) (by decide) (by decide) (by decide) (by decide)
  have hR84 : z_R1 84 z_M0 (fun _ => 0) S_0 := R1_0 (by decide) (by decide) (by decide) (by decide) (by decide) (by decide) (by decide)
  have hfr : ∀ a, a < 171 → M9 a = z_M0 a := fun a ha => by rw [k5 a (by omega) (by omega) (by omega)]; exact f1 a (by omega)
  have hQ9 : Q_L 169 170 171 M9 (fun _ => 0) S_0 := Q_L_cg hQL (k5 169 (by decide) (by decide) (by decide)) (k5 170 (by decide) (by decide) (by decide)) (k5 171 (by decide) (by decide) (by decide))
  rw [hM1]
  exact ⟨M9, k1, fun _ => 0, fun _ => 0, S_0, S_0, ⟨R1_fr hR1 (fun a ha => hfr a (by omega)), I_0, hsm, hpd, fun r hr => lr_0 hr⟩, hQ9, ⟨z_R1_cg hR84 (fun k q1 q2 _ => hfr k (by omega)), I_0, hsm, hpd, fun r hr => lr_0 hr⟩, L_keep hQL k2 k3 k4, Bf_0, Bf_0⟩
theorem z_pure : ∃ P : Nat → zM → Prop, z_Inv P := ⟨q_P, q_P0, fun n j1 j2 j3 M hn h1 h2 h3 hP => f_step hn h1 h2 h3 hP⟩
