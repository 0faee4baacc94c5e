/-! ===== the law's datasets: destroy ===== -/
def fL_dd (d : Nat) (M : zM) : Option (Int32 × zM) :=
  (fL_numberAt 171 (nI d) 0 M).bind fun x2 => ((if 0 ≤ x2 then (some 0) else ((z_ld M 171 32 4).bind fun x22 => (z_ld M 171 32 5).bind fun x23 => (z_ld M 171 32 6).bind fun x24 => if ((x22 + x23) + x24) ≤ 1 then (some 0) else (some 1)) : Option Int32)).bind fun j4 => ((if j4 = 0 then (some M) else ((z_sa M 171 32 (4 + nI d) 0).bind fun M14 => (z_sa M14 171 32 (8 + nI d) 0).bind fun M15 => (z_loop (fun (s : (Int32 × zM)) => fL_datasets_L1 169 (nI d) s.1 s.2) z_FU (0, M15)).bind fun M18 => some M18) : Option zM)).bind fun M6 => z_b2 (fL_removed 0 (nI d) M6) fun x7 M8 => if j4 = 0 then (if x7 = (-2) then (some (1, M8)) else (some (0, M8))) else (z_b2 (fL_settle 169 170 171 M8) fun x11 M12 => if x7 = x11 then (some (1, M12)) else (some (0, M12)))
set_option maxHeartbeats 2000000 in
theorem f_ddes {n : Nat} {M : zM} {N N0 : Nat → Int32} {S S0 : Nat → Nat} (hn : n < 512) (hQ : Q_st n M N N0 S S0) {d : Nat} (hd : d < 3) (h1 : S (2304 + d) = 1) : ∃ M3 S1, fL_dd d M = some (nI 1, M3) ∧ Q_st n M3 N N0 S1 S0 := by
  have hR := hQ.1.1
  have hI := hQ.1.2.1
  have hs := hQ.1.2.2.1
  obtain ⟨hX, hB, hM⟩ := hQ.2.1
  have x0 : S 2304 ≤ 1 := I_ex hI 0 (by decide)
  have x1 : S 2305 ≤ 1 := I_ex hI 1 (by decide)
  have x2 : S 2306 ≤ 1 := I_ex hI 2 (by decide)
  have m4 : M 171 4 = nI (S 2304) := (hM.2.1 0 (by decide)).1
  have m5 : M 171 5 = nI (S 2305) := (hM.2.1 1 (by decide)).1
  have m6 : M 171 6 = nI (S 2306) := (hM.2.1 2 (by decide)).1
  have hds : sumN (fun d => S (2304 + d)) 6 = S 2304 + S 2305 + S 2306 := by
    have h3 := hs.2.1 3 (by decide) (by decide)
    have h4 := hs.2.1 4 (by decide) (by decide)
    have h5 := hs.2.1 5 (by decide) (by decide)
    show 0 + S 2304 + S 2305 + S 2306 + S (2304 + 3) + S (2304 + 4) + S (2304 + 5) = _
    rw [h3, h4, h5]
    omega
  have hge1 : 1 ≤ S 2304 + S 2305 + S 2306 := by
    have hd3 : d = 0 ∨ d = 1 ∨ d = 2 := by omega
    rcases hd3 with e | e | e
    · subst e
      have h1 : S 2304 = 1 := h1
      omega
    · subst e
      have h1 : S 2305 = 1 := h1
      omega
    · subst e
      have h1 : S 2306 = 1 := h1
      omega
  have a0 : fL_numberAt 171 (nI d) 0 M = some (q_at S d 0) := f_numAt hM hI hn hs (d := d) (p := 0) (by omega) (by decide)
  have hnn : ¬ ((0 : Int32) ≤ -nI 1) := by decide
  have qs : ((z_ld M 171 32 4).bind fun x22 => (z_ld M 171 32 5).bind fun x23 => (z_ld M 171 32 6).bind fun x24 => if ((x22 + x23) + x24) ≤ 1 then (some (0 : Int32)) else (some 1)) = if S 2304 + S 2305 + S 2306 ≤ 1 then some (nI 0) else some (nI 1) := by
    by_cases c : S 2304 + S 2305 + S 2306 ≤ 1
    · rw [if_pos c]
      simp (disch := first | omega | assumption) only [l_0, l_1, l_2, l_3, l_4, l_5, l_6, l_7, l_8, l_11, l_12, l_15, l_16, l_31, l_32, l_66, l_80, l_100, l_127, l_128, l_768, l_2304, l_2310, l_2316, l_2388, l_2394, l_2406, l_2418, l_2430, l_2558, l_2686, l_2814, l_2942, l_3070, l_3390, l_3394, l_3395, l_3396, l_3397, n_leT, n_leF, n_ltT, n_ltF, n_eqT, n_eqF, nI_add, pk_mul, n_sub, z_ldn, z_san, z_bs, z_b2s, z_b3s, z_ocN, z_ocS, z_oxL, z_oxR, z_scL, z_scR, ↓reduceIte, Nat.zero_add, Nat.add_zero, Nat.zero_lt_succ, true_and, and_true, eq_self, n_div, n_mod, z_ldJn, z_saJn, f_blk, f_plc, l_9, l_10, l_13, l_14, l_17, l_18, l_19, l_20, l_21, l_22, l_24, l_28, l_60, l_61, l_62, l_64, l_98, l_99, z_ntR, z_ntwR, z_bz0, z_bz1, m4, m5, m6]
    · rw [if_neg c]
      simp (disch := first | omega | assumption) only [l_0, l_1, l_2, l_3, l_4, l_5, l_6, l_7, l_8, l_11, l_12, l_15, l_16, l_31, l_32, l_66, l_80, l_100, l_127, l_128, l_768, l_2304, l_2310, l_2316, l_2388, l_2394, l_2406, l_2418, l_2430, l_2558, l_2686, l_2814, l_2942, l_3070, l_3390, l_3394, l_3395, l_3396, l_3397, n_leT, n_leF, n_ltT, n_ltF, n_eqT, n_eqF, nI_add, pk_mul, n_sub, z_ldn, z_san, z_bs, z_b2s, z_b3s, z_ocN, z_ocS, z_oxL, z_oxR, z_scL, z_scR, ↓reduceIte, Nat.zero_add, Nat.add_zero, Nat.zero_lt_succ, true_and, and_true, eq_self, n_div, n_mod, z_ldJn, z_saJn, f_blk, f_plc, l_9, l_10, l_13, l_14, l_17, l_18, l_19, l_20, l_21, l_22, l_24, l_28, l_60, l_61, l_62, l_64, l_98, l_99, z_ntR, z_ntwR, z_bz0, z_bz1, m4, m5, m6]
  by_cases can : S (2388 + d) = 0 ∧ ¬ S 2304 + S 2305 + S 2306 ≤ 1
  · obtain ⟨ca, cb⟩ := can
    rw [at_n (by omega)] at a0
    rw [if_neg cb] at qs
    obtain ⟨M15, hM15⟩ : ∃ M15, z_st (z_st M 171 (4 + d) (nI 0)) 171 (8 + d) (nI 0) = M15 := ⟨_, rfl⟩
    have k15 : ∀ a, a ≠ 171 → M15 a = M a := fun a ha => by rw [← hM15, s_n ha, s_n ha]
    have r15 : ∀ k, M15 171 k = if k = 8 + d then nI 0 else if k = 4 + d then nI 0 else M 171 k := fun k => by
      rw [← hM15, s_s, s_s]
      rfl
    obtain ⟨M18, l1, l2, l3⟩ := z_loopR (f := fun q : Int32 × zM => fL_datasets_L1 169 (nI d) q.1 q.2) 169 (4 * d) 0 4 (fun j => nI 0) (by omega) (s := nI 0) (M := M15) rfl (fun i M' hi hf hv => by
      rw [Nat.zero_add]
      simp (disch := first | omega | assumption) only [l_0, l_1, l_2, l_3, l_4, l_5, l_6, l_7, l_8, l_11, l_12, l_15, l_16, l_31, l_32, l_66, l_80, l_100, l_127, l_128, l_768, l_2304, l_2310, l_2316, l_2388, l_2394, l_2406, l_2418, l_2430, l_2558, l_2686, l_2814, l_2942, l_3070, l_3390, l_3394, l_3395, l_3396, l_3397, n_leT, n_leF, n_ltT, n_ltF, n_eqT, n_eqF, nI_add, pk_mul, n_sub, z_ldn, z_san, z_bs, z_b2s, z_b3s, z_ocN, z_ocS, z_oxL, z_oxR, z_scL, z_scR, ↓reduceIte, Nat.zero_add, Nat.add_zero, Nat.zero_lt_succ, true_and, and_true, eq_self, n_div, n_mod, z_ldJn, z_saJn, f_blk, f_plc, l_9, l_10, l_13, l_14, l_17, l_18, l_19, l_20, l_21, l_22, l_24, l_28, l_60, l_61, l_62, l_64, l_98, l_99, z_ntR, z_ntwR, z_bz0, z_bz1, fL_datasets_L1]) (fun M' => by simp (disch := first | omega | assumption) only [l_0, l_1, l_2, l_3, l_4, l_5, l_6, l_7, l_8, l_11, l_12, l_15, l_16, l_31, l_32, l_66, l_80, l_100, l_127, l_128, l_768, l_2304, l_2310, l_2316, l_2388, l_2394, l_2406, l_2418, l_2430, l_2558, l_2686, l_2814, l_2942, l_3070, l_3390, l_3394, l_3395, l_3396, l_3397, n_leT, n_leF, n_ltT, n_ltF, n_eqT, n_eqF, nI_add, pk_mul, n_sub, z_ldn, z_san, z_bs, z_b2s, z_b3s, z_ocN, z_ocS, z_oxL, z_oxR, z_scL, z_scR, ↓reduceIte, Nat.zero_add, Nat.add_zero, Nat.zero_lt_succ, true_and, and_true, eq_self, n_div, n_mod, z_ldJn, z_saJn, f_blk, f_plc, l_9, l_10, l_13, l_14, l_17, l_18, l_19, l_20, l_21, l_22, l_24, l_28, l_60, l_61, l_62, l_64, l_98, l_99, z_ntR, z_ntwR, z_bz0, z_bz1, fL_datasets_L1])
    have hR18 : z_R1 1 M18 N S := R1_fr hR (fun a ha => by rw [l2 a (by omega)]; exact k15 a (by omega))
    obtain ⟨S1, M8, v1, v2, v3, v4, k6, k7, k8, k9⟩ := k_destroy hn hR18 hI (d := d) (by omega) h1 ca (by rw [hds]; omega)
    have hX1 : L_x 169 M8 S1 := L_x_cg (L_x_tb (u := d) (h := fun p => 0) (g := fun j => nI 0) hX (by omega) (fun p => by rw [l3, k15 169 (by decide)]) (by rw [kp_d hd]; exact v1) (fun j hj => rfl)) (k9 169 (by decide) (by decide) (by decide))
    have r16 : ∀ k, M8 171 k = if k = 8 + d then nI 0 else if k = 4 + d then nI 0 else M 171 k := fun k => by
      rw [k9 171 (by decide) (by decide) (by decide), l2 171 (by decide)]
      exact r15 k
    have hM1 : L_m 171 M8 S1 := by
      obtain ⟨⟨m1, m2, m3⟩, m4, m5⟩ := hM
      refine ⟨⟨?_, ?_, ?_⟩, fun e he => ?_, fun t ht => ?_⟩
      · rw [r16, if_neg (by omega), if_neg (by omega), v4 _ (by omega) (by omega) (by omega)]; exact m1
      · rw [r16, if_neg (by omega), if_neg (by omega), v4 _ (by omega) (by omega) (by omega)]; exact m2
      · rw [r16, if_neg (by omega), if_neg (by omega), v4 _ (by omega) (by omega) (by omega)]; exact m3
      · by_cases z : e = d
        · subst z
          have ez : z_onum S1 e = 0 := by
            unfold z_onum
            rw [v3, if_pos rfl]
          rw [r16, if_neg (by omega), if_pos rfl, r16, if_pos rfl, v2, ez]
          exact ⟨rfl, rfl⟩
        · have h7 := (I_ori hI e (by omega)).1
          have ez : z_onum S1 e = z_onum S e := by
            unfold z_onum
            rw [v4 (2310 + e) (by omega) (by omega) (by omega), v4 (2394 + (S (2310 + e) - 1)) (by omega) (by omega) (by omega)]
          rw [r16, if_neg (by omega), if_neg (by omega), r16, if_neg (by omega), if_neg (by omega), v4 _ (by omega) (by omega) (by omega), ez]
          exact m4 e he
      · rw [r16, if_neg (by omega), if_neg (by omega), r16, if_neg (by omega), if_neg (by omega), r16, if_neg (by omega), if_neg (by omega), v4 _ (by omega) (by omega) (by omega), v4 _ (by omega) (by omega) (by omega), v4 _ (by omega) (by omega) (by omega)]
        exact m5 t ht
    have hoff : q_off S1 := off_tb (u := d) (h := fun p => 0) hs.1 (by omega) (by rw [kp_d hd]; exact v1) (fun _ _ _ => rfl)
    have hle : ∀ k, k < 2304 → S1 k = 0 ∨ S1 k = S k := fun k hk => by
      rw [v1 k hk]
      split
      · exact Or.inl rfl
      · exact Or.inr rfl
    have ho := (I_bnd hI).2.1
    have hB1 : L_b 170 M8 N S1 := fun i hi => by
      have := bl_128 hi
      rw [v4 _ (by omega) (by omega) (by omega), v4 _ (by omega) (by omega) (by omega), v4 _ (by omega) (by omega) (by omega), v4 _ (by omega) (by omega) (by omega)]
      exact L_b_cg hB (by rw [k9 170 (by decide) (by decide) (by decide), l2 170 (by decide), k15 170 (by decide)]) i hi
    obtain ⟨M12, w1, w2, w3⟩ := f_settle (C := 171) hX1 hoff (fun k hk => by
      have := I_tab hI k hk
      rcases hle k hk with q | q <;> omega) hB1 hM1.1.1 (by rw [v4 _ (by omega) (by omega) (by omega)]; omega) (fun b hb q => by rw [v4 _ (by omega) (by omega) (by omega)]; exact (hs.2.2.2 b hb q).1) (by decide) (by decide)
    have hst : Q_st n M12 N N0 (y_mk S1) S0 := st_mk hQ (R1_fr k7 (fun a ha => w3 a (by omega))) k8 (fun a q1 q2 => by rw [w3 a (by omega), k9 a q1 (by omega) (by omega), l2 a (by omega)]; exact k15 a (by omega)) (fun a q1 q2 => by rw [w3 a (by omega), k9 a (by omega) (by omega) (by omega), l2 a (by omega)]; exact k15 a (by omega)) (L_x_cg hX1 (w3 169 (by decide))) w2 (L_m_cg hM1 (w3 171 (by decide))) hoff (fun e q1 q2 => by rw [v4 _ (by omega) (by omega) (by omega)]; exact hs.2.1 e q1 q2) (fun t q1 q2 => by rw [v4 _ (by omega) (by omega) (by omega)]; exact hs.2.2.1 t q1 q2) (fun b hb => Or.inl (v4 _ (by omega) (by omega) (by omega))) (fun k q1 q2 => v4 k (by omega) (by omega) (by omega)) (fun k q1 q2 => v4 k (by omega) (by omega) (by omega)) (v4 _ (by omega) (by omega) (by omega)) (fun k _ => rfl) (fun k hk => by
      rcases hle k hk with q | q
      · exact Or.inl q
      · exact Or.inr (Or.inl ⟨k, hk, q.symm⟩))
    refine ⟨M12, y_mk S1, ?_, hst⟩
    have q2 : ((z_sa M 171 32 (4 + nI d) 0).bind fun M14 => (z_sa M14 171 32 (8 + nI d) 0).bind fun M15 => (z_loop (fun (s : (Int32 × zM)) => fL_datasets_L1 169 (nI d) s.1 s.2) z_FU (0, M15)).bind fun M18 => some M18) = some M18 := by
      have e1 : z_sa M 171 32 (4 + nI d) 0 = some (z_st M 171 (4 + d) (nI 0)) := by simp (disch := first | omega | assumption) only [l_0, l_1, l_2, l_3, l_4, l_5, l_6, l_7, l_8, l_11, l_12, l_15, l_16, l_31, l_32, l_66, l_80, l_100, l_127, l_128, l_768, l_2304, l_2310, l_2316, l_2388, l_2394, l_2406, l_2418, l_2430, l_2558, l_2686, l_2814, l_2942, l_3070, l_3390, l_3394, l_3395, l_3396, l_3397, n_leT, n_leF, n_ltT, n_ltF, n_eqT, n_eqF, nI_add, pk_mul, n_sub, z_ldn, z_san, z_bs, z_b2s, z_b3s, z_ocN, z_ocS, z_oxL, z_oxR, z_scL, z_scR, ↓reduceIte, Nat.zero_add, Nat.add_zero, Nat.zero_lt_succ, true_and, and_true, eq_self, n_div, n_mod, z_ldJn, z_saJn, f_blk, f_plc, l_9, l_10, l_13, l_14, l_17, l_18, l_19, l_20, l_21, l_22, l_24, l_28, l_60, l_61, l_62, l_64, l_98, l_99, z_ntR, z_ntwR, z_bz0, z_bz1]
      have e2 : z_sa (z_st M 171 (4 + d) (nI 0)) 171 32 (8 + nI d) 0 = some M15 := by
        rw [← hM15]
        simp (disch := first | omega | assumption) only [l_0, l_1, l_2, l_3, l_4, l_5, l_6, l_7, l_8, l_11, l_12, l_15, l_16, l_31, l_32, l_66, l_80, l_100, l_127, l_128, l_768, l_2304, l_2310, l_2316, l_2388, l_2394, l_2406, l_2418, l_2430, l_2558, l_2686, l_2814, l_2942, l_3070, l_3390, l_3394, l_3395, l_3396, l_3397, n_leT, n_leF, n_ltT, n_ltF, n_eqT, n_eqF, nI_add, pk_mul, n_sub, z_ldn, z_san, z_bs, z_b2s, z_b3s, z_ocN, z_ocS, z_oxL, z_oxR, z_scL, z_scR, ↓reduceIte, Nat.zero_add, Nat.add_zero, Nat.zero_lt_succ, true_and, and_true, eq_self, n_div, n_mod, z_ldJn, z_saJn, f_blk, f_plc, l_9, l_10, l_13, l_14, l_17, l_18, l_19, l_20, l_21, l_22, l_24, l_28, l_60, l_61, l_62, l_64, l_98, l_99, z_ntR, z_ntwR, z_bz0, z_bz1]
      have l1 : z_loop (fun q : Int32 × zM => fL_datasets_L1 169 (nI d) q.1 q.2) z_FU (0, M15) = some M18 := l1
      rw [e1, z_bs, e2, z_bs, l1, z_bs]
    have q3 : fL_removed 0 (nI d) M18 = some (nI (sumN (lostN S1) 128), M8) := by
      unfold fL_removed
      simp (disch := first | omega | assumption) only [l_0, l_1, l_2, l_3, l_4, l_5, l_6, l_7, l_8, l_11, l_12, l_15, l_16, l_31, l_32, l_66, l_80, l_100, l_127, l_128, l_768, l_2304, l_2310, l_2316, l_2388, l_2394, l_2406, l_2418, l_2430, l_2558, l_2686, l_2814, l_2942, l_3070, l_3390, l_3394, l_3395, l_3396, l_3397, n_leT, n_leF, n_ltT, n_ltF, n_eqT, n_eqF, nI_add, pk_mul, n_sub, z_ldn, z_san, z_bs, z_b2s, z_b3s, z_ocN, z_ocS, z_oxL, z_oxR, z_scL, z_scR, ↓reduceIte, Nat.zero_add, Nat.add_zero, Nat.zero_lt_succ, true_and, and_true, eq_self, n_div, n_mod, z_ldJn, z_saJn, f_blk, f_plc, l_9, l_10, l_13, l_14, l_17, l_18, l_19, l_20, l_21, l_22, l_24, l_28, l_60, l_61, l_62, l_64, l_98, l_99, z_ntR, z_ntwR, z_bz0, z_bz1, k6]
    unfold fL_dd
    rw [a0, z_bs, if_neg hnn, qs, z_bs, if_neg (by decide), q2, z_bs, q3, z_b2s, if_neg (by decide), w1, z_b2s, if_pos rfl]
    rfl
  · have k1 := k_destroy_no hR hI (d := d) (by omega) h1 (by rw [hds]; omega)
    refine ⟨M, S, ?_, hQ⟩
    have q3 : fL_removed 0 (nI d) M = some (-2, M) := by
      unfold fL_removed
      simp (disch := first | omega | assumption) only [l_0, l_1, l_2, l_3, l_4, l_5, l_6, l_7, l_8, l_11, l_12, l_15, l_16, l_31, l_32, l_66, l_80, l_100, l_127, l_128, l_768, l_2304, l_2310, l_2316, l_2388, l_2394, l_2406, l_2418, l_2430, l_2558, l_2686, l_2814, l_2942, l_3070, l_3390, l_3394, l_3395, l_3396, l_3397, n_leT, n_leF, n_ltT, n_ltF, n_eqT, n_eqF, nI_add, pk_mul, n_sub, z_ldn, z_san, z_bs, z_b2s, z_b3s, z_ocN, z_ocS, z_oxL, z_oxR, z_scL, z_scR, ↓reduceIte, Nat.zero_add, Nat.add_zero, Nat.zero_lt_succ, true_and, and_true, eq_self, n_div, n_mod, z_ldJn, z_saJn, f_blk, f_plc, l_9, l_10, l_13, l_14, l_17, l_18, l_19, l_20, l_21, l_22, l_24, l_28, l_60, l_61, l_62, l_64, l_98, l_99, z_ntR, z_ntwR, z_bz0, z_bz1, k1]
    have q1 : ((if 0 ≤ q_at S d 0 then (some 0) else ((z_ld M 171 32 4).bind fun x22 => (z_ld M 171 32 5).bind fun x23 => (z_ld M 171 32 6).bind fun x24 => if ((x22 + x23) + x24) ≤ 1 then (some 0) else (some 1)) : Option Int32)) = some (nI 0) := by
      by_cases ca : S (2388 + d) = 0
      · rw [at_n (by omega), if_neg hnn, qs, if_pos (by omega)]
      · have hb := I_nb hI (z_ord S d 0) ((I_ord hI d (by omega)).2 0 (by omega)).1
        rw [at_y (by omega), if_pos (by
          rw [show (0 : Int32) = nI 0 from rfl, n_leT (by omega) (by omega) (by omega)]
          trivial)]
        rfl
    unfold fL_dd
    rw [a0, z_bs, q1, z_bs, if_pos (show nI 0 = 0 from rfl), z_bs, q3, z_b2s, if_pos (show nI 0 = 0 from rfl), if_pos rfl]
    rfl
