/-! ===== the law's places: write ===== -/
theorem L_m_S2 {C : Nat} {M : zM} {S S1 : Nat → Nat} (hC : L_m C M S) (h : ∀ k, (2304 ≤ k ∧ k < 2558) ∨ 3390 ≤ k → S1 k = S k) (ho : ∀ d, d < 3 → S (2310 + d) ≤ 12) : L_m C M S1 := by
  obtain ⟨⟨h1, h2, h3⟩, h4, h5⟩ := hC
  refine ⟨⟨by rw [h _ (by decide)]; exact h1, by rw [h _ (by decide)]; exact h2, by rw [h _ (by decide)]; exact h3⟩, fun d hd => ?_, fun s hs => ?_⟩
  · have e : z_onum S1 d = z_onum S d := by
      have := ho d hd
      unfold z_onum
      rw [h (2310 + d) (by omega), h (2394 + (S (2310 + d) - 1)) (by omega)]
    rw [h _ (by omega), e]
    exact h4 d hd
  · rw [h _ (by omega), h _ (by omega), h _ (by omega)]
    exact h5 s hs
set_option maxHeartbeats 2000000 in
theorem f_wr1 {n : Nat} {M : zM} {N N0 : Nat → Int32} {S S0 : Nat → Nat} (hn : n < 512) (hQ : Q_st n M N N0 S S0) {d z wy : Nat} (hd : d < 3) (h1 : S (2304 + d) = 1) (hz : z < 10000) (hw : wy < 7) {j f i : Nat} (hz4 : z % 4 = j) (hf : j / 2 = f) (hi : j % 2 = i) (hC : S (128 * d + (16 * f + i)) ≠ 0 ∧ S (2558 + (S (128 * d + (16 * f + i)) - 1)) = S 3395 ∧ S (2814 + (S (128 * d + (16 * f + i)) - 1)) = 1) : ∃ M3 N', fL_places 0 169 170 171 (nI wy) (nI d) (nI z) M = some (nI 1, M3) ∧ Q_st n M3 N' N0 S S0 := by
  have hR := hQ.1.1
  have hI := hQ.1.2.1
  have hs := hQ.1.2.2.1
  obtain ⟨hX, hB, hM⟩ := hQ.2.1
  have hjm : j - f * 2 = i := by omega
  have hj : j = 2 * f + i := by omega
  have g1 := hX (4 * d + j) (by omega)
  rw [ps_d hd (by omega), show q_pl j = 16 * f + i by unfold q_pl; omega] at g1
  obtain ⟨i0, hi0, hy⟩ := blk_of hI hs (k := 128 * d + (16 * f + i)) (by omega) hC.1
  rw [hy, Nat.add_sub_cancel] at hC
  obtain ⟨_, c1, c2⟩ := hC
  rw [hy] at g1
  have hq := bl_128 hi0
  have ho := (I_bnd hI).2.1
  have hE := (hB i0 hi0).1
  have gb := f_birth hi0 (hB i0 hi0)
  have hbi := I_bir hI _ hq
  have gc := (f_c28 hX hs.1 (I_tab hI) hq).1
  rw [← I_ref hI _ hq, c2] at gc
  have m0 := hM.1.1
  obtain ⟨w, hwv⟩ : ∃ w : Int32, nI z * 40503 - 77 = w := ⟨_, rfl⟩
  obtain ⟨M51, hM51⟩ : ∃ M51, z_stJ M 170 i0 (y_E w (S 3395) (S (2686 + q_bl i0)) (S (2942 + q_bl i0)) (S (2814 + q_bl i0))) = M51 := ⟨_, rfl⟩
  have k51 : ∀ a, a ≠ 170 → M51 a = M a := fun a ha => by rw [← hM51]; exact sJ_n ha
  have hB1 : L_b 170 M51 (upd N (2430 + q_bl i0) w) S := fun q hq2 => by
    unfold y_B1
    rw [← hM51, jj_s]
    by_cases c : q = i0
    · rw [if_pos c, c, u_s, c1]
      exact ⟨rfl, by omega⟩
    · rw [if_neg c, u_n (fun x => c (bl_inj (by omega)))]
      exact hB q hq2
  obtain ⟨M53, hM53⟩ : ∃ M53, z_st M51 169 (4 * d + j) (nI (q_bl i0 + 1)) = M53 := ⟨_, rfl⟩
  have k53 : ∀ a, a ≠ 169 → M53 a = M51 a := fun a ha => by rw [← hM53]; exact s_n ha
  have hX1 : L_x 169 M53 S := fun p hp => by
    rw [← hM53, s_s]
    by_cases c : p = 4 * d + j
    · rw [c, u_s, ps_d hd (by omega), show q_pl j = 16 * f + i by unfold q_pl; omega, hy]
    · rw [u_n c, k51 169 (by decide)]
      exact hX p hp
  obtain ⟨M55, w1, w2, w3⟩ := f_settle (C := 171) hX1 hs.1 (I_tab hI) (L_b_cg hB1 (k53 170 (by decide))) (by rw [k53 171 (by decide), k51 171 (by decide)]; exact m0) (by omega) (fun b hb q => (hs.2.2.2 b hb q).1) (by decide) (by decide)
  have hlb := lost_b (S := S)
  have hfr : ∀ a, a ≠ 169 → a ≠ 170 → M55 a = M a := fun a q1 q2 => by rw [w3 a q2, k53 a q1, k51 a q2]
  obtain ⟨M58, t1, t2, t3⟩ := k_write1 (P := 16 * f + i) (f := f) (i := i) (d := d) (y := q_bl i0 + 1) hn (R1_fr hR (fun a ha => hfr a (by omega) (by omega))) hI w (by omega) h1 (by omega) (by omega) rfl hy.symm (by rw [Nat.add_sub_cancel]; exact ⟨by omega, c1, c2⟩)
  rw [Nat.add_sub_cancel] at t1 t2
  have hst : Q_st n M58 (upd N (2430 + q_bl i0) w) N0 (y_mk S) S0 := st_mk hQ (by rw [y_mk_id hI]; exact t2) (by rw [y_mk_id hI]; exact hI) (fun a q1 q2 => by rw [t3 a q1 (by omega) (by omega)]; exact hfr a (by omega) (by omega)) (fun a q1 q2 => by rw [t3 a (by omega) (by omega) (by omega)]; exact hfr a (by omega) (by omega)) (L_x_cg hX1 (by rw [t3 169 (by decide) (by decide) (by decide), w3 169 (by decide)])) (L_b_cg w2 (t3 170 (by decide) (by decide) (by decide))) (L_m_cg hM (by rw [t3 171 (by decide) (by decide) (by decide)]; exact hfr 171 (by decide) (by decide))) hs.1 hs.2.1 hs.2.2.1 (fun b hb => Or.inl rfl) (fun k _ _ => rfl) (fun k _ _ => rfl) rfl (fun k hk => u_n (by omega)) (fun k hk => Or.inr (Or.inl ⟨k, hk, rfl⟩))
  rw [y_mk_id hI] at hst
  refine ⟨M58, _, ?_, hst⟩
  unfold fL_places
  simp (disch := first | omega | assumption) only [l_0, l_1, l_2, l_3, l_4, l_5, l_6, l_7, l_8, l_11, l_12, l_15, l_16, l_31, l_32, l_66, l_80, l_100, l_127, l_128, l_768, l_2304, l_2310, l_2316, l_2388, l_2394, l_2406, l_2418, l_2430, l_2558, l_2686, l_2814, l_2942, l_3070, l_3390, l_3394, l_3395, l_3396, l_3397, n_leT, n_leF, n_ltT, n_ltF, n_eqT, n_eqF, nI_add, pk_mul, n_sub, z_ldn, z_san, z_bs, z_b2s, z_b3s, z_ocN, z_ocS, z_oxL, z_oxR, z_scL, z_scR, ↓reduceIte, Nat.zero_add, Nat.add_zero, Nat.zero_lt_succ, true_and, and_true, eq_self, n_div, n_mod, z_ldJn, z_saJn, f_blk, f_plc, l_9, l_10, l_13, l_14, l_17, l_18, l_19, l_20, l_21, l_22, l_24, l_28, l_60, l_61, l_62, l_64, l_98, l_99, z_ntR, z_ntwR, z_bz0, z_bz1, hz4, hf, hi, hjm, g1, Nat.add_sub_cancel, gb, c1, m0, gc, hE, hwv, e_nw, hM51, hM53, w1, t1]
