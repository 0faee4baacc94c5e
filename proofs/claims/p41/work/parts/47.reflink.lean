/-! ===== the law's places: reflink ===== -/
theorem f_ref_e {n : Nat} {M M31 : zM} {N N0 : Nat → Int32} {S S0 : Nat → Nat} (hn : n < 512) (hQ : Q_st n M N N0 S S0) {d f i f2 i2 l j2 : Nat} (hd : d < 3) (h1 : S (2304 + d) = 1) (hf : f < 2) (hf2 : f2 < 2) (l1 : 1 ≤ l) (hil : i + l ≤ 2) (hil2 : i2 + l ≤ 2) (hj2 : j2 = 2 * f2 + i2) (v3 : ∀ a, a ≠ 169 → M31 a = M a) (v4 : ∀ p, M31 169 p = if 4 * d + j2 ≤ p ∧ p < 4 * d + j2 + l then nI (S (128 * d + (16 * f + i) + (p - (4 * d + j2)))) else M 169 p) : ∃ v M33 M36 S1, v ≤ 128 ∧ fL_settle 169 170 171 M31 = some (nI v, M33) ∧ fX6_reflink 0 (nI d) (nI f) (nI i) (nI f2) (nI i2) (nI l) M33 = some (.inr (nI (sumN (fun q => if S (128 * d + (16 * f2 + i2) + q) = S (128 * d + (16 * f + i) + q) then 0 else 1) l)), M36) ∧ Q_st n M36 N N0 S1 S0 := by
  have hR := hQ.1.1
  have hI := hQ.1.2.1
  have hs := hQ.1.2.2.1
  obtain ⟨hX, hB, hC⟩ := hQ.2.1
  obtain ⟨S1, k1⟩ : ∃ S1 : Nat → Nat, ∀ k, S1 k = if 128 * d + (16 * f2 + i2) ≤ k ∧ k < 128 * d + (16 * f2 + i2) + l then S (128 * d + (16 * f + i) + (k - (128 * d + (16 * f2 + i2)))) else S k := ⟨fun k => if 128 * d + (16 * f2 + i2) ≤ k ∧ k < 128 * d + (16 * f2 + i2) + l then S (128 * d + (16 * f + i) + (k - (128 * d + (16 * f2 + i2)))) else S k, fun k => rfl⟩
  have hX1 : L_x 169 M31 S1 := L_x_rg (g := fun q => S (128 * d + (16 * f + i) + q)) hj2 hX hd hf2 hil2 v4 k1
  have hge : ∀ k, 2304 ≤ k → S1 k = S k := fun k hk => by
    rw [k1, if_neg (by omega)]
  have hle : ∀ k, k < 2304 → ∃ j, j < 2304 ∧ S j = S1 k := fun k hk => by
    rw [k1]
    by_cases c : 128 * d + (16 * f2 + i2) ≤ k ∧ k < 128 * d + (16 * f2 + i2) + l
    · rw [if_pos c]
      exact ⟨_, by omega, rfl⟩
    · rw [if_neg c]
      exact ⟨k, hk, rfl⟩
  have hoff : q_off S1 := off_rg hs.1 k1 (rg_q hd hf2 hil2)
  have ho := (I_bnd hI).2.1
  obtain ⟨M33, w1, w2, w3⟩ := f_settle (C := 171) hX1 hoff (fun k hk => by
    obtain ⟨j, q1, q2⟩ := hle k hk
    rw [← q2]
    exact I_tab hI j q1) (L_b_S (L_b_cg hB (v3 170 (by decide))) hge) (by rw [v3 171 (by decide), hge _ (by decide)]; exact hC.1.1) (by rw [hge _ (by decide)]; omega) (fun b hb q => by rw [hge _ (by omega)]; exact (hs.2.2.2 b hb q).1) (by decide) (by decide)
  have hfr : ∀ a, a ≠ 169 → a ≠ 170 → M33 a = M a := fun a q1 q2 => by rw [w3 a q2, v3 a q1]
  obtain ⟨S2, M36, t1, t2, t3, t4, t5⟩ := k_reflink hn (R1_fr hR (fun a ha => hfr a (by omega) (by omega))) hI (d := d) (f := f) (i := i) (f2 := f2) (i2 := i2) (l := l) (by omega) h1 (by omega) (by omega) (by omega) (by omega) (by omega) (by omega) (by omega)
  have e12 : S2 = S1 := funext (fun k => by rw [t1, k1])
  subst e12
  exact ⟨_, M33, M36, y_mk S2, lost_b, w1, t2, st_mk2 hQ t3 t4 (fun a q1 q2 => by rw [t5 a q1 (by omega) (by omega)]; exact hfr a (by omega) (by omega)) (fun a q1 q2 => by rw [t5 a (by omega) (by omega) (by omega)]; exact hfr a (by omega) (by omega)) (L_x_cg hX1 (by rw [t5 169 (by decide) (by decide) (by decide), w3 169 (by decide)])) (L_b_cg w2 (t5 170 (by decide) (by decide) (by decide))) hoff hge (fun k hk => Or.inr (hle k hk))⟩
set_option maxHeartbeats 2000000 in
theorem f_ref {n : Nat} {M : zM} {N N0 : Nat → Int32} {S S0 : Nat → Nat} (hn : n < 512) (hQ : Q_st n M N N0 S S0) {d z : Nat} (hd : d < 3) (h1 : S (2304 + d) = 1) (hz : z < 10000) : ∃ M3 S1, fL_places 0 169 170 171 (nI 8) (nI d) (nI z) M = some (nI 1, M3) ∧ Q_st n M3 N N0 S1 S0 := by
  have hI := hQ.1.2.1
  have hX := hQ.2.1.1
  obtain ⟨j, hz4⟩ : ∃ j, z % 4 = j := ⟨_, rfl⟩
  obtain ⟨f, hf⟩ : ∃ f, j / 2 = f := ⟨_, rfl⟩
  obtain ⟨i, hi⟩ : ∃ i, j % 2 = i := ⟨_, rfl⟩
  obtain ⟨f2, hf2⟩ : ∃ f2, z / 8 % 2 = f2 := ⟨_, rfl⟩
  obtain ⟨i3, hi3⟩ : ∃ i3, z / 16 % 2 = i3 := ⟨_, rfl⟩
  have hjm : j - f * 2 = i := by omega
  have hdm : z / 4 / (2 - i) * (2 - i) ≤ z / 4 := Nat.div_mul_le_self _ _
  have hm := Nat.mod_lt (z / 4) (y := 2 - i) (by omega)
  obtain ⟨l, hl⟩ : ∃ l, 1 + z / 4 % (2 - i) = l := ⟨_, rfl⟩
  have hj : j = 2 * f + i := by omega
  have hil : i + l ≤ 2 := by omega
  have hfl : f < 2 := by omega
  have hnz : z_nz (nI (2 - i)) = fun (o : Option (Int32 × zM)) => o := by
    funext o
    exact if_neg (by
      have : (nI (2 - i) = nI 0) = False := n_eqF (by omega) (by omega) (by omega)
      rw [show (0 : Int32) = nI 0 from rfl, this]
      exact id)
  have at1 : ∀ f i, f < 2 → i < 2 → M 169 (4 * d + 2 * f + i) = nI (S (128 * d + (16 * f + i))) ∧ S (128 * d + (16 * f + i)) ≤ 128 := fun f i hf hi => by
    have g := hX (4 * d + (2 * f + i)) (by omega)
    rw [ps_d hd (by omega), show q_pl (2 * f + i) = 16 * f + i by unfold q_pl; omega] at g
    exact ⟨by rw [Nat.add_assoc]; exact g, I_tab hI _ (by omega)⟩
  obtain ⟨g1, b1⟩ := at1 f i hfl (by omega)
  have g1j : M 169 (4 * d + j) = nI (S (128 * d + (16 * f + i))) := by rw [hj, ← Nat.add_assoc]; exact g1
  obtain ⟨g2, b2⟩ := at1 f 1 hfl (by omega)
  by_cases cl : l = 2
  · have hi0 : i = 0 := by omega
    subst cl
    subst hi0
    obtain ⟨g3, b3⟩ := at1 f2 0 (by omega) (by omega)
    obtain ⟨g4, b4⟩ := at1 f2 1 (by omega) (by omega)
    obtain ⟨v, M33, M36, S1, u1, u2, u3, u4⟩ := f_ref_e (M31 := z_st (z_st M 169 (4 * d + 2 * f2) (nI (S (128 * d + (16 * f + 0))))) 169 (4 * d + 2 * f2 + 1) (nI (S (128 * d + (16 * f + 1))))) hn hQ (f := f) (i := 0) (f2 := f2) (i2 := 0) (l := 2) (j2 := 2 * f2) hd h1 hfl (by omega) (by omega) (by omega) (by omega) (by omega) (fun a ha => by rw [s_n ha, s_n ha]) (fun p => by
      rw [s_s, s_s]
      by_cases c1 : p = 4 * d + 2 * f2 + 1
      · rw [c1, u_s, if_pos ⟨by omega, by omega⟩, show 128 * d + (16 * f + 0) + (4 * d + 2 * f2 + 1 - (4 * d + 2 * f2)) = 128 * d + (16 * f + 1) by omega]
      · rw [u_n c1]
        by_cases c2 : p = 4 * d + 2 * f2
        · rw [c2, u_s, if_pos ⟨by omega, by omega⟩, show 128 * d + (16 * f + 0) + (4 * d + 2 * f2 - (4 * d + 2 * f2)) = 128 * d + (16 * f + 0) by omega]
        · rw [u_n c2, if_neg (by omega)])
    refine ⟨M36, S1, ?_, u4⟩
    have e2 : sumN (fun q => if S (128 * d + (16 * f2 + 0) + q) = S (128 * d + (16 * f + 0) + q) then 0 else 1) 2 = 0 + (if S (128 * d + (16 * f2 + 0)) = S (128 * d + (16 * f + 0)) then 0 else 1) + (if S (128 * d + (16 * f2 + 1)) = S (128 * d + (16 * f + 1)) then 0 else 1) := rfl
    rw [e2] at u3
    have g3 : M 169 (4 * d + 2 * f2) = nI (S (128 * d + (16 * f2 + 0))) := g3
    have gs : z_st M 169 (4 * d + 2 * f2) (nI (S (128 * d + (16 * f + 0)))) 169 (4 * d + 2 * f2 + 1) = nI (S (128 * d + (16 * f2 + 1))) := by
      rw [s_s, u_n (by omega)]
      exact g4
    generalize S (128 * d + (16 * f + 0)) = A at *
    generalize S (128 * d + (16 * f + 1)) = A' at *
    generalize S (128 * d + (16 * f2 + 0)) = B at *
    generalize S (128 * d + (16 * f2 + 1)) = B' at *
    unfold fL_places
    by_cases c1 : B = A
    · rw [if_pos c1] at u3
      subst c1
      by_cases c2 : B' = A'
      · rw [if_pos c2] at u3
        subst c2
        simp (disch := first | omega | assumption) only [l_0, l_1, l_2, l_3, l_4, l_5, l_6, l_7, l_8, l_11, l_12, l_15, l_16, l_31, l_32, l_66, l_80, l_100, l_127, l_128, l_768, l_2304, l_2310, l_2316, l_2388, l_2394, l_2406, l_2418, l_2430, l_2558, l_2686, l_2814, l_2942, l_3070, l_3390, l_3394, l_3395, l_3396, l_3397, n_leT, n_leF, n_ltT, n_ltF, n_eqT, n_eqF, nI_add, pk_mul, n_sub, z_ldn, z_san, z_bs, z_b2s, z_b3s, z_ocN, z_ocS, z_oxL, z_oxR, z_scL, z_scR, ↓reduceIte, Nat.zero_add, Nat.add_zero, Nat.zero_lt_succ, true_and, and_true, eq_self, n_div, n_mod, z_ldJn, z_saJn, f_blk, f_plc, l_9, l_10, l_13, l_14, l_17, l_18, l_19, l_20, l_21, l_22, l_24, l_28, l_60, l_61, l_62, l_64, l_98, l_99, z_ntR, z_ntwR, z_bz0, z_bz1, hnz, hl, hz4, hf, hi, hjm, hf2, hi3, g1j, g2, g3, gs, u2, u3]
      · rw [if_neg c2] at u3
        simp (disch := first | omega | assumption) only [l_0, l_1, l_2, l_3, l_4, l_5, l_6, l_7, l_8, l_11, l_12, l_15, l_16, l_31, l_32, l_66, l_80, l_100, l_127, l_128, l_768, l_2304, l_2310, l_2316, l_2388, l_2394, l_2406, l_2418, l_2430, l_2558, l_2686, l_2814, l_2942, l_3070, l_3390, l_3394, l_3395, l_3396, l_3397, n_leT, n_leF, n_ltT, n_ltF, n_eqT, n_eqF, nI_add, pk_mul, n_sub, z_ldn, z_san, z_bs, z_b2s, z_b3s, z_ocN, z_ocS, z_oxL, z_oxR, z_scL, z_scR, ↓reduceIte, Nat.zero_add, Nat.add_zero, Nat.zero_lt_succ, true_and, and_true, eq_self, n_div, n_mod, z_ldJn, z_saJn, f_blk, f_plc, l_9, l_10, l_13, l_14, l_17, l_18, l_19, l_20, l_21, l_22, l_24, l_28, l_60, l_61, l_62, l_64, l_98, l_99, z_ntR, z_ntwR, z_bz0, z_bz1, hnz, hl, hz4, hf, hi, hjm, hf2, hi3, g1j, g2, g3, gs, u2, u3]
    · rw [if_neg c1] at u3
      by_cases c2 : B' = A'
      · rw [if_pos c2] at u3
        subst c2
        simp (disch := first | omega | assumption) only [l_0, l_1, l_2, l_3, l_4, l_5, l_6, l_7, l_8, l_11, l_12, l_15, l_16, l_31, l_32, l_66, l_80, l_100, l_127, l_128, l_768, l_2304, l_2310, l_2316, l_2388, l_2394, l_2406, l_2418, l_2430, l_2558, l_2686, l_2814, l_2942, l_3070, l_3390, l_3394, l_3395, l_3396, l_3397, n_leT, n_leF, n_ltT, n_ltF, n_eqT, n_eqF, nI_add, pk_mul, n_sub, z_ldn, z_san, z_bs, z_b2s, z_b3s, z_ocN, z_ocS, z_oxL, z_oxR, z_scL, z_scR, ↓reduceIte, Nat.zero_add, Nat.add_zero, Nat.zero_lt_succ, true_and, and_true, eq_self, n_div, n_mod, z_ldJn, z_saJn, f_blk, f_plc, l_9, l_10, l_13, l_14, l_17, l_18, l_19, l_20, l_21, l_22, l_24, l_28, l_60, l_61, l_62, l_64, l_98, l_99, z_ntR, z_ntwR, z_bz0, z_bz1, hnz, hl, hz4, hf, hi, hjm, hf2, hi3, g1j, g2, g3, gs, u2, u3]
      · rw [if_neg c2] at u3
        simp (disch := first | omega | assumption) only [l_0, l_1, l_2, l_3, l_4, l_5, l_6, l_7, l_8, l_11, l_12, l_15, l_16, l_31, l_32, l_66, l_80, l_100, l_127, l_128, l_768, l_2304, l_2310, l_2316, l_2388, l_2394, l_2406, l_2418, l_2430, l_2558, l_2686, l_2814, l_2942, l_3070, l_3390, l_3394, l_3395, l_3396, l_3397, n_leT, n_leF, n_ltT, n_ltF, n_eqT, n_eqF, nI_add, pk_mul, n_sub, z_ldn, z_san, z_bs, z_b2s, z_b3s, z_ocN, z_ocS, z_oxL, z_oxR, z_scL, z_scR, ↓reduceIte, Nat.zero_add, Nat.add_zero, Nat.zero_lt_succ, true_and, and_true, eq_self, n_div, n_mod, z_ldJn, z_saJn, f_blk, f_plc, l_9, l_10, l_13, l_14, l_17, l_18, l_19, l_20, l_21, l_22, l_24, l_28, l_60, l_61, l_62, l_64, l_98, l_99, z_ntR, z_ntwR, z_bz0, z_bz1, hnz, hl, hz4, hf, hi, hjm, hf2, hi3, g1j, g2, g3, gs, u2, u3]
  · have cl1 : l = 1 := by omega
    subst cl1
    obtain ⟨g3, b3⟩ := at1 f2 i3 (by omega) (by omega)
    obtain ⟨v, M33, M36, S1, u1, u2, u3, u4⟩ := f_ref_e (M31 := z_st M 169 (4 * d + 2 * f2 + i3) (nI (S (128 * d + (16 * f + i))))) hn hQ (f := f) (i := i) (f2 := f2) (i2 := i3) (l := 1) (j2 := 2 * f2 + i3) hd h1 hfl (by omega) (by omega) (by omega) (by omega) (by omega) (fun a ha => by rw [s_n ha]) (fun p => by
      rw [s_s]
      by_cases c2 : p = 4 * d + 2 * f2 + i3
      · rw [c2, u_s, if_pos ⟨by omega, by omega⟩, show 128 * d + (16 * f + i) + (4 * d + 2 * f2 + i3 - (4 * d + (2 * f2 + i3))) = 128 * d + (16 * f + i) by omega]
      · rw [u_n c2, if_neg (by omega)])
    refine ⟨M36, S1, ?_, u4⟩
    have e2 : sumN (fun q => if S (128 * d + (16 * f2 + i3) + q) = S (128 * d + (16 * f + i) + q) then 0 else 1) 1 = 0 + (if S (128 * d + (16 * f2 + i3)) = S (128 * d + (16 * f + i)) then 0 else 1) := rfl
    rw [e2] at u3
    generalize S (128 * d + (16 * f + i)) = A at *
    generalize S (128 * d + (16 * f + 1)) = A' at *
    generalize S (128 * d + (16 * f2 + i3)) = B at *
    unfold fL_places
    by_cases c1 : B = A
    · rw [if_pos c1] at u3
      subst c1
      simp (disch := first | omega | assumption) only [l_0, l_1, l_2, l_3, l_4, l_5, l_6, l_7, l_8, l_11, l_12, l_15, l_16, l_31, l_32, l_66, l_80, l_100, l_127, l_128, l_768, l_2304, l_2310, l_2316, l_2388, l_2394, l_2406, l_2418, l_2430, l_2558, l_2686, l_2814, l_2942, l_3070, l_3390, l_3394, l_3395, l_3396, l_3397, n_leT, n_leF, n_ltT, n_ltF, n_eqT, n_eqF, nI_add, pk_mul, n_sub, z_ldn, z_san, z_bs, z_b2s, z_b3s, z_ocN, z_ocS, z_oxL, z_oxR, z_scL, z_scR, ↓reduceIte, Nat.zero_add, Nat.add_zero, Nat.zero_lt_succ, true_and, and_true, eq_self, n_div, n_mod, z_ldJn, z_saJn, f_blk, f_plc, l_9, l_10, l_13, l_14, l_17, l_18, l_19, l_20, l_21, l_22, l_24, l_28, l_60, l_61, l_62, l_64, l_98, l_99, z_ntR, z_ntwR, z_bz0, z_bz1, hnz, hl, hz4, hf, hi, hjm, hf2, hi3, g1j, g2, g3, u2, u3]
    · rw [if_neg c1] at u3
      simp (disch := first | omega | assumption) only [l_0, l_1, l_2, l_3, l_4, l_5, l_6, l_7, l_8, l_11, l_12, l_15, l_16, l_31, l_32, l_66, l_80, l_100, l_127, l_128, l_768, l_2304, l_2310, l_2316, l_2388, l_2394, l_2406, l_2418, l_2430, l_2558, l_2686, l_2814, l_2942, l_3070, l_3390, l_3394, l_3395, l_3396, l_3397, n_leT, n_leF, n_ltT, n_ltF, n_eqT, n_eqF, nI_add, pk_mul, n_sub, z_ldn, z_san, z_bs, z_b2s, z_b3s, z_ocN, z_ocS, z_oxL, z_oxR, z_scL, z_scR, ↓reduceIte, Nat.zero_add, Nat.add_zero, Nat.zero_lt_succ, true_and, and_true, eq_self, n_div, n_mod, z_ldJn, z_saJn, f_blk, f_plc, l_9, l_10, l_13, l_14, l_17, l_18, l_19, l_20, l_21, l_22, l_24, l_28, l_60, l_61, l_62, l_64, l_98, l_99, z_ntR, z_ntwR, z_bz0, z_bz1, hnz, hl, hz4, hf, hi, hjm, hf2, hi3, g1j, g2, g3, u2, u3]
