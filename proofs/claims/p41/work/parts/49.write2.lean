/-! ===== the law's places: write to a new block ===== -/
set_option maxHeartbeats 2000000 in
theorem f_wr2 {n : Nat} {M : zM} {N N0 : Nat → Int32} {S S0 : Nat → Nat} (hn : n < 512) (hQ : Q_st n M N N0 S S0) {d z wy : Nat} (hd : d < 3) (h1 : S (2304 + d) = 1) (hz : z < 10000) (hw : wy < 7) {j f i : Nat} (hz4 : z % 4 = j) (hf : j / 2 = f) (hi : j % 2 = i) (hC : ¬ (S (128 * d + (16 * f + i)) ≠ 0 ∧ S (2558 + (S (128 * d + (16 * f + i)) - 1)) = S 3395 ∧ S (2814 + (S (128 * d + (16 * f + i)) - 1)) = 1)) : ∃ M3 N' S1, fL_places 0 169 170 171 (nI wy) (nI d) (nI z) M = some (nI 1, M3) ∧ Q_st n M3 N' N0 S1 S0 := by
  have hR := hQ.1.1
  have hI := hQ.1.2.1
  have hs := hQ.1.2.2.1
  obtain ⟨hX, hB, hM⟩ := hQ.2.1
  have hjm : j - f * 2 = i := by omega
  have hj : j = 2 * f + i := by omega
  have hP : q_pl j = 16 * f + i := by unfold q_pl; omega
  have g1 := hX (4 * d + j) (by omega)
  rw [ps_d hd (by omega), hP] at g1
  obtain ⟨w, i0, f1, f2, f3, f4, f5, f6, f7⟩ := free_w hI hs hQ.2.2.1.2.1 hQ.2.2.1.2.2.1 hQ.2.2.2.2.1 hQ.1.2.2.2.1 hB
  have hq := bl_128 f2
  have ho := (I_bnd hI).2.1
  have hE := (hB i0 f2).1
  have hbi := I_bir hI _ hq
  have m0 := hM.1.1
  obtain ⟨v, hwv⟩ : ∃ w : Int32, nI z * 40503 - 77 = w := ⟨_, rfl⟩
  obtain ⟨x, hx⟩ : ∃ x, q_bl i0 = x := ⟨_, rfl⟩
  obtain ⟨S1, hS1⟩ : ∃ S1 : Nat → Nat, S1 = updN (updN S (2558 + x) (S 3395)) (128 * d + (16 * f + i)) (x + 1) := ⟨_, rfl⟩
  have e1 : S1 (128 * d + (16 * f + i)) = x + 1 := by rw [hS1]; exact if_pos rfl
  have e2 : S1 (2558 + x) = S 3395 := by
    rw [hS1]
    exact (if_neg (by omega)).trans (if_pos rfl)
  have e3 : ∀ k, k ≠ 128 * d + (16 * f + i) → k ≠ 2558 + x → S1 k = S k := fun k q1 q2 => by
    rw [hS1]
    exact (if_neg q1).trans (if_neg q2)
  obtain ⟨M51, hM51⟩ : ∃ M51, z_stJ M 170 i0 (y_E v (S 3395) (S (2686 + q_bl i0)) (S (2942 + q_bl i0)) (S (2814 + q_bl i0))) = M51 := ⟨_, rfl⟩
  have k51 : ∀ a, a ≠ 170 → M51 a = M a := fun a ha => by rw [← hM51]; exact sJ_n ha
  have hB1 : L_b 170 M51 (upd N (2430 + x) v) S1 := fun q hq2 => by
    have hq3 := bl_128 hq2
    unfold y_B1
    rw [← hM51, jj_s, e3 (2686 + q_bl q) (by omega) (by omega), e3 (2814 + q_bl q) (by omega) (by omega), e3 (2942 + q_bl q) (by omega) (by omega)]
    by_cases c : q = i0
    · rw [if_pos c, c, hx, u_s, e2]
      exact ⟨rfl, by omega⟩
    · have hne : q_bl q ≠ x := fun y => c (bl_inj (y.trans hx.symm))
      rw [if_neg c, u_n (by omega), e3 (2558 + q_bl q) (by omega) (by omega)]
      exact hB q hq2
  obtain ⟨M53, hM53⟩ : ∃ M53, z_st M51 169 (4 * d + j) (nI (x + 1)) = M53 := ⟨_, rfl⟩
  have k53 : ∀ a, a ≠ 169 → M53 a = M51 a := fun a ha => by rw [← hM53]; exact s_n ha
  have hX1 : L_x 169 M53 S1 := fun p hp => by
    rw [← hM53, s_s]
    by_cases c : p = 4 * d + j
    · rw [c, u_s, ps_d hd (by omega), hP, e1]
    · have h4 := ps_2304 hp
      have h5 : q_ps p ≠ 128 * d + (16 * f + i) := fun y => c (ps_inj hp (by omega) (by rw [ps_d hd (by omega), hP]; exact y))
      rw [u_n c, k51 169 (by decide), e3 _ h5 (by omega)]
      exact hX p hp
  have hoff : q_off S1 := fun k hk hno => by
    have h5 : k ≠ 128 * d + (16 * f + i) := fun y => hno (4 * d + j) (by omega) (by rw [ps_d hd (by omega), hP]; exact y.symm)
    rw [e3 k h5 (by omega)]
    exact hs.1 k hk hno
  have e5 : S1 3395 = S 3395 := e3 _ (by omega) (by omega)
  obtain ⟨M55, w1, w2, w3⟩ := f_settle (C := 171) hX1 hoff (fun k hk => by
    by_cases c : k = 128 * d + (16 * f + i)
    · rw [c, e1]
      omega
    · rw [e3 k c (by omega)]
      exact I_tab hI k hk) (L_b_cg hB1 (k53 170 (by decide))) (by rw [k53 171 (by decide), k51 171 (by decide), e5]; exact m0) (by omega) (fun b hb q => by rw [e3 _ (by omega) (by omega)]; exact (hs.2.2.2 b hb q).1) (by decide) (by decide)
  have hlb := lost_b (S := S1)
  have hfr : ∀ a, a ≠ 169 → a ≠ 170 → M55 a = M a := fun a q1 q2 => by rw [w3 a q2, k53 a q1, k51 a q2]
  obtain ⟨S2, M58, t0, t1, t2, t3, t4⟩ := k_write2 (P := 16 * f + i) (f := f) (i := i) (d := d) (y := S (128 * d + (16 * f + i))) (x := x) (w := w) hn (R1_fr hR (fun a ha => hfr a (by omega) (by omega))) hI v (by omega) h1 (by omega) (by omega) rfl rfl hC (by omega) (by rw [← hx]; exact f4) (by omega) (by rw [← hx]; exact f5) f6
  have e12 : S2 = S1 := by rw [t0, hS1]
  subst e12
  have hst : Q_st n M58 (upd N (2430 + x) v) N0 (y_mk S2) S0 := st_mk hQ t2 t3 (fun a q1 q2 => by rw [t4 a q1 (by omega) (by omega)]; exact hfr a (by omega) (by omega)) (fun a q1 q2 => by rw [t4 a (by omega) (by omega) (by omega)]; exact hfr a (by omega) (by omega)) (L_x_cg hX1 (by rw [t4 169 (by decide) (by decide) (by decide), w3 169 (by decide)])) (L_b_cg w2 (t4 170 (by decide) (by decide) (by decide))) (L_m_S2 (L_m_cg hM (by rw [t4 171 (by decide) (by decide) (by decide)]; exact hfr 171 (by decide) (by decide))) (fun k hk => e3 k (by omega) (by omega)) (fun d hd => (I_ori hI d (by omega)).1)) hoff (fun d q1 q2 => by rw [e3 _ (by omega) (by omega)]; exact hs.2.1 d q1 q2) (fun s q1 q2 => by rw [e3 _ (by omega) (by omega)]; exact hs.2.2.1 s q1 q2) (fun b hb => by
      by_cases c : b = x
      · rw [c, e5]
        exact Or.inr e2
      · exact Or.inl (e3 _ (by omega) (by omega))) (fun k q1 q2 => e3 k (by omega) (by omega)) (fun k q1 q2 => e3 k (by omega) (by omega)) e5 (fun k hk => u_n (by omega)) (fun k hk => by
      by_cases c : k = 128 * d + (16 * f + i)
      · rw [c, e1]
        exact Or.inr (Or.inr ⟨i0, f2, by rw [hx], by rw [hx, e2, e5]⟩)
      · rw [e3 k c (by omega)]
        exact Or.inr (Or.inl ⟨k, hk, rfl⟩))
  refine ⟨M58, _, _, ?_, hst⟩
  have hnl : (-nI 1 < nI 0) = True := n_mlt (by decide)
  obtain ⟨y, hy⟩ : ∃ y, S (128 * d + (16 * f + i)) = y := ⟨_, rfl⟩
  rw [hy] at g1 hC
  rw [hx] at hbi hM51 hE hq
  unfold fL_places
  by_cases cy : y = 0
  · rw [cy] at g1
    simp (disch := first | omega | assumption) only [l_0, l_1, l_2, l_3, l_4, l_5, l_6, l_7, l_8, l_11, l_12, l_15, l_16, l_31, l_32, l_66, l_80, l_100, l_127, l_128, l_768, l_2304, l_2310, l_2316, l_2388, l_2394, l_2406, l_2418, l_2430, l_2558, l_2686, l_2814, l_2942, l_3070, l_3390, l_3394, l_3395, l_3396, l_3397, n_leT, n_leF, n_ltT, n_ltF, n_eqT, n_eqF, nI_add, pk_mul, n_sub, z_ldn, z_san, z_bs, z_b2s, z_b3s, z_ocN, z_ocS, z_oxL, z_oxR, z_scL, z_scR, ↓reduceIte, Nat.zero_add, Nat.add_zero, Nat.zero_lt_succ, true_and, and_true, eq_self, n_div, n_mod, z_ldJn, z_saJn, f_blk, f_plc, l_9, l_10, l_13, l_14, l_17, l_18, l_19, l_20, l_21, l_22, l_24, l_28, l_60, l_61, l_62, l_64, l_98, l_99, z_ntR, z_ntwR, z_bz0, z_bz1, hz4, hf, hi, hjm, g1, hnl, f7, m0, hE, hwv, e_nw, hM51, hx, hM53, w1, t1]
  · obtain ⟨i1, hi1, hy1⟩ := blk_of hI hs (k := 128 * d + (16 * f + i)) (by omega) (by rw [hy]; exact cy)
    rw [hy] at hy1
    subst hy1
    have gb := f_birth hi1 (hB i1 hi1)
    have hq1 := bl_128 hi1
    have hbi1 := I_bir hI _ hq1
    have gc := f_c28 hX hs.1 (I_tab hI) hq1
    rw [← I_ref hI _ hq1] at gc
    obtain ⟨gc, gc2⟩ := gc
    rw [Nat.add_sub_cancel] at hC
    by_cases cb : S (2558 + q_bl i1) = S 3395
    · have cc : S (2814 + q_bl i1) ≠ 1 := fun q => hC ⟨cy, cb, q⟩
      simp (disch := first | omega | assumption) only [l_0, l_1, l_2, l_3, l_4, l_5, l_6, l_7, l_8, l_11, l_12, l_15, l_16, l_31, l_32, l_66, l_80, l_100, l_127, l_128, l_768, l_2304, l_2310, l_2316, l_2388, l_2394, l_2406, l_2418, l_2430, l_2558, l_2686, l_2814, l_2942, l_3070, l_3390, l_3394, l_3395, l_3396, l_3397, n_leT, n_leF, n_ltT, n_ltF, n_eqT, n_eqF, nI_add, pk_mul, n_sub, z_ldn, z_san, z_bs, z_b2s, z_b3s, z_ocN, z_ocS, z_oxL, z_oxR, z_scL, z_scR, ↓reduceIte, Nat.zero_add, Nat.add_zero, Nat.zero_lt_succ, true_and, and_true, eq_self, n_div, n_mod, z_ldJn, z_saJn, f_blk, f_plc, l_9, l_10, l_13, l_14, l_17, l_18, l_19, l_20, l_21, l_22, l_24, l_28, l_60, l_61, l_62, l_64, l_98, l_99, z_ntR, z_ntwR, z_bz0, z_bz1, hz4, hf, hi, hjm, g1, Nat.add_sub_cancel, gb, cb, gc, f7, m0, hE, hwv, e_nw, hM51, hx, hM53, w1, t1]
    · simp (disch := first | omega | assumption) only [l_0, l_1, l_2, l_3, l_4, l_5, l_6, l_7, l_8, l_11, l_12, l_15, l_16, l_31, l_32, l_66, l_80, l_100, l_127, l_128, l_768, l_2304, l_2310, l_2316, l_2388, l_2394, l_2406, l_2418, l_2430, l_2558, l_2686, l_2814, l_2942, l_3070, l_3390, l_3394, l_3395, l_3396, l_3397, n_leT, n_leF, n_ltT, n_ltF, n_eqT, n_eqF, nI_add, pk_mul, n_sub, z_ldn, z_san, z_bs, z_b2s, z_b3s, z_ocN, z_ocS, z_oxL, z_oxR, z_scL, z_scR, ↓reduceIte, Nat.zero_add, Nat.add_zero, Nat.zero_lt_succ, true_and, and_true, eq_self, n_div, n_mod, z_ldJn, z_saJn, f_blk, f_plc, l_9, l_10, l_13, l_14, l_17, l_18, l_19, l_20, l_21, l_22, l_24, l_28, l_60, l_61, l_62, l_64, l_98, l_99, z_ntR, z_ntwR, z_bz0, z_bz1, hz4, hf, hi, hjm, g1, Nat.add_sub_cancel, gb, f7, m0, hE, hwv, e_nw, hM51, hx, hM53, w1, t1]
theorem f_wr {n : Nat} {M : zM} {N N0 : Nat → Int32} {S S0 : Nat → Nat} (hn : n < 512) (hQ : Q_st n M N N0 S S0) {d z wy : Nat} (hd : d < 3) (h1 : S (2304 + d) = 1) (hz : z < 10000) (hw : wy < 7) : ∃ M3 N' S1, fL_places 0 169 170 171 (nI wy) (nI d) (nI z) M = some (nI 1, M3) ∧ Q_st n M3 N' N0 S1 S0 := by
  by_cases hC : S (128 * d + (16 * (z % 4 / 2) + z % 4 % 2)) ≠ 0 ∧ S (2558 + (S (128 * d + (16 * (z % 4 / 2) + z % 4 % 2)) - 1)) = S 3395 ∧ S (2814 + (S (128 * d + (16 * (z % 4 / 2) + z % 4 % 2)) - 1)) = 1
  · obtain ⟨M3, N', h2, h3⟩ := f_wr1 hn hQ hd h1 hz hw rfl rfl rfl hC
    exact ⟨M3, N', S, h2, h3⟩
  · exact f_wr2 hn hQ hd h1 hz hw rfl rfl rfl hC
theorem f_plcs {n : Nat} {M : zM} {N N0 : Nat → Int32} {S S0 : Nat → Nat} (hn : n < 512) (hQ : Q_st n M N N0 S S0) {d z wy : Nat} (hd : d < 3) (h1 : S (2304 + d) = 1) (hz : z < 10000) (hw : wy < 9) : ∃ M3 N' S1, fL_places 0 169 170 171 (nI wy) (nI d) (nI z) M = some (nI 1, M3) ∧ Q_st n M3 N' N0 S1 S0 := by
  by_cases c : wy < 7
  · exact f_wr hn hQ hd h1 hz c
  · by_cases c2 : wy = 7
    · subst c2
      obtain ⟨M3, S1, h2, h3⟩ := f_punch hn hQ hd h1 hz
      exact ⟨M3, N, S1, h2, h3⟩
    · have c3 : wy = 8 := by omega
      subst c3
      obtain ⟨M3, S1, h2, h3⟩ := f_ref hn hQ hd h1 hz
      exact ⟨M3, N, S1, h2, h3⟩
