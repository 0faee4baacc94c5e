/-! ===== one volume copied to the other; crash ===== -/
theorem cp_s {M : zM} {k0 k j : Nat} (h : j < 128) : z_cpy M k0 k (nI 128) k j = M k0 j := by
  unfold z_cpy va_cpy
  have e : (nI 128).toNatClampNeg = 128 := by decide
  rw [if_pos rfl, if_pos ⟨Nat.zero_le _, by rw [e]; omega⟩, Nat.zero_add, Nat.sub_zero]
theorem cp_n {M : zM} {k0 k a : Nat} {n : Int32} (h : a ≠ k) : z_cpy M k0 k n a = M a := if_neg h
theorem cCp0 {X Y v : Nat} {M : zM} (h1 : M Y 1 = nI v) (hv : v ≤ 1) (hd : X ≠ Y ∧ X ≠ Y + 1 + 1 ∧ X + 1 + 1 ≠ Y) : ∃ M', fX0_copyFrom X Y M = some M' ∧ M' X 1 = M Y 1 ∧ M' X 2 = M Y 2 ∧ (∀ p, p < 128 → M' (X + 1 + 1) p = M (Y + 1 + 1) p) ∧ ∀ a, a ≠ X → a ≠ X + 1 + 1 → M' a = M a := by
  unfold fX0_copyFrom fX4_copyFrom
  obtain ⟨d1, d2, d3⟩ := hd
  have e1 : z_cpy M (Y + 1 + 1) (X + 1 + 1) (nI 128) Y = M Y := cp_n (by omega)
  have hp : z_pz (z_cpy M (Y + 1 + 1) (X + 1 + 1) (nI 128)) X 1 (nI v) = some (z_st (z_cpy M (Y + 1 + 1) (X + 1 + 1) (nI 128)) X 1 (nI v)) := by
    by_cases q : v = 0
    · rw [q]
      exact z_pz0
    · rw [show v = 1 by omega]
      exact z_pz1
  have e2 : z_st (z_cpy M (Y + 1 + 1) (X + 1 + 1) (nI 128)) X 1 (nI v) Y = M Y := by rw [s_n (by omega), e1]
  refine ⟨z_st (z_st (z_cpy M (Y + 1 + 1) (X + 1 + 1) (nI 128)) X 1 (nI v)) X 2 (M Y 2), ?_, ?_, ?_, fun p hp => ?_, fun a a1 a2 => by rw [s_n a1, s_n a1, cp_n a2]⟩
  · simp (disch := first | omega | assumption) only [l_0, l_1, l_2, l_3, l_4, l_5, l_6, l_7, l_8, l_11, l_12, l_15, l_16, l_31, l_32, l_66, l_80, l_100, l_127, l_128, l_768, l_2304, l_2310, l_2316, l_2388, l_2394, l_2406, l_2418, l_2430, l_2558, l_2686, l_2814, l_2942, l_3070, l_3390, l_3394, l_3395, l_3396, l_3397, n_leT, n_leF, n_ltT, n_ltF, n_eqT, n_eqF, nI_add, pk_mul, n_sub, z_ldn, z_san, z_bs, z_b2s, z_b3s, z_ocN, z_ocS, z_oxL, z_oxR, z_scL, z_scR, ↓reduceIte, st_170, st_171, st_172, st_173, Nat.zero_add, Nat.add_zero, Nat.zero_lt_succ, true_and, and_true, eq_self, e1, h1, hp, e2]
  · rw [s_s, u_n (by decide), s_s, u_s, h1]
  · rw [s_s, u_s]
  · rw [s_n (by omega), s_n (by omega), cp_s hp]
theorem cCp2 {X Y v : Nat} {M : zM} (h1 : M Y 1 = nI v) (hv : v ≤ 1) (hd : X ≠ Y ∧ X ≠ Y + 1 + 1 ∧ X + 1 + 1 ≠ Y) : ∃ M', fX2_copyFrom X Y M = some M' ∧ (∀ j, 1 ≤ j → j ≤ 5 → M' X j = M Y j) ∧ (∀ p, p < 128 → M' (X + 1 + 1) p = M (Y + 1 + 1) p) ∧ ∀ a, a ≠ X → a ≠ X + 1 + 1 → M' a = M a := by
  unfold fX2_copyFrom fX4_copyFrom
  obtain ⟨d1, d2, d3⟩ := hd
  obtain ⟨Mc, hMc⟩ : ∃ Mc, Mc = z_cpy M (Y + 1 + 1) (X + 1 + 1) (nI 128) := ⟨_, rfl⟩
  have e1 : Mc Y = M Y := by rw [hMc]; exact cp_n (by omega)
  have hp : z_pz Mc X 1 (nI v) = some (z_st Mc X 1 (nI v)) := by
    by_cases q : v = 0
    · rw [q]
      exact z_pz0
    · rw [show v = 1 by omega]
      exact z_pz1
  obtain ⟨M1, hM1⟩ : ∃ M1, M1 = z_st Mc X 1 (nI v) := ⟨_, rfl⟩
  have f1 : M1 Y = M Y := by rw [hM1, s_n (by omega), e1]
  obtain ⟨M2, hM2⟩ : ∃ M2, M2 = z_st M1 X 2 (M Y 2) := ⟨_, rfl⟩
  have f2 : M2 Y = M Y := by rw [hM2, s_n (by omega), f1]
  obtain ⟨M3, hM3⟩ : ∃ M3, M3 = z_st M2 X 3 (M Y 3) := ⟨_, rfl⟩
  have f3 : M3 Y = M Y := by rw [hM3, s_n (by omega), f2]
  obtain ⟨M4, hM4⟩ : ∃ M4, M4 = z_st M3 X 4 (M Y 4) := ⟨_, rfl⟩
  have f4 : M4 Y = M Y := by rw [hM4, s_n (by omega), f3]
  obtain ⟨M5, hM5⟩ : ∃ M5, M5 = z_st M4 X 5 (M Y 5) := ⟨_, rfl⟩
  have hrow : M5 X = upd (upd (upd (upd (upd (Mc X) 1 (nI v)) 2 (M Y 2)) 3 (M Y 3)) 4 (M Y 4)) 5 (M Y 5) := by rw [hM5, s_s, hM4, s_s, hM3, s_s, hM2, s_s, hM1, s_s]
  have hoth : ∀ a, a ≠ X → M5 a = Mc a := fun a ha => by rw [hM5, s_n ha, hM4, s_n ha, hM3, s_n ha, hM2, s_n ha, hM1, s_n ha]
  refine ⟨M5, ?_, fun j j1 j5 => ?_, fun p hp => ?_, fun a a1 a2 => by rw [hoth a a1, hMc, cp_n a2]⟩
  · simp (disch := first | omega | assumption) only [l_0, l_1, l_2, l_3, l_4, l_5, l_6, l_7, l_8, l_11, l_12, l_15, l_16, l_31, l_32, l_66, l_80, l_100, l_127, l_128, l_768, l_2304, l_2310, l_2316, l_2388, l_2394, l_2406, l_2418, l_2430, l_2558, l_2686, l_2814, l_2942, l_3070, l_3390, l_3394, l_3395, l_3396, l_3397, n_leT, n_leF, n_ltT, n_ltF, n_eqT, n_eqF, nI_add, pk_mul, n_sub, z_ldn, z_san, z_bs, z_b2s, z_b3s, z_ocN, z_ocS, z_oxL, z_oxR, z_scL, z_scR, ↓reduceIte, st_170, st_171, st_172, st_173, Nat.zero_add, Nat.add_zero, Nat.zero_lt_succ, true_and, and_true, eq_self, ← hMc, e1, h1, hp, ← hM1, f1, ← hM2, f2, ← hM3, f3, ← hM4, f4, ← hM5]
  · rw [hrow]
    have : j = 1 ∨ j = 2 ∨ j = 3 ∨ j = 4 ∨ j = 5 := by omega
    rcases this with q | q | q | q | q <;> subst q
    · rw [u_n (by decide), u_n (by decide), u_n (by decide), u_n (by decide), u_s, h1]
    · rw [u_n (by decide), u_n (by decide), u_n (by decide), u_s]
    · rw [u_n (by decide), u_n (by decide), u_s]
    · rw [u_n (by decide), u_s]
    · rw [u_s]
  · rw [hoth _ (by omega), hMc, cp_s hp]
theorem cCp3 {X Y : Nat} {M : zM} (hd : X + 5 ≤ Y ∨ Y + 5 ≤ X) : ∃ M', fX3_copyFrom X Y M = some M' ∧ (∀ q p, 1 ≤ q → q ≤ 4 → p < 128 → M' (X + q) p = M (Y + q) p) ∧ ∀ a, (a ≤ X ∨ X + 5 ≤ a) → M' a = M a := by
  unfold fX3_copyFrom
  refine ⟨_, rfl, fun q p q1 q4 hp => ?_, fun a ha => ?_⟩
  · have : q = 1 ∨ q = 2 ∨ q = 3 ∨ q = 4 := by omega
    show z_cpy (z_cpy (z_cpy (z_cpy M (Y + 1) (X + 1) (nI 128)) (Y + 2) (X + 2) (nI 128)) (Y + 3) (X + 3) (nI 128)) (Y + 4) (X + 4) (nI 128) (X + q) p = _
    rcases this with q | q | q | q <;> subst q
    · rw [cp_n (by omega), cp_n (by omega), cp_n (by omega), cp_s hp]
    · rw [cp_n (by omega), cp_n (by omega), cp_s hp, cp_n (by omega)]
    · rw [cp_n (by omega), cp_s hp, cp_n (by omega), cp_n (by omega)]
    · rw [cp_s hp, cp_n (by omega), cp_n (by omega), cp_n (by omega)]
  · show z_cpy (z_cpy (z_cpy (z_cpy M (Y + 1) (X + 1) (nI 128)) (Y + 2) (X + 2) (nI 128)) (Y + 3) (X + 3) (nI 128)) (Y + 4) (X + 4) (nI 128) a = _
    rw [cp_n (by omega), cp_n (by omega), cp_n (by omega), cp_n (by omega)]
theorem cCp1 {X Y k : Nat} {M : zM} (h1 : M Y 4 = nI k) (hk : k ≤ 66) (hm : ∀ j, j < k → M (Y + 3) j = nI 0 ∨ M (Y + 3) j = nI 1) (hd : X + 5 ≤ Y ∨ Y + 5 ≤ X) : ∃ M', fX1_copyFrom X Y M = some M' ∧ M' X 4 = nI k ∧ (∀ j, j ≠ 4 → M' X j = M X j) ∧ (∀ q j, 1 ≤ q → q ≤ 3 → j < k → M' (X + q) j = M (Y + q) j) ∧ ∀ a, (a < X ∨ X + 4 ≤ a) → M' a = M a := by
  unfold fX1_copyFrom
  obtain ⟨M0, hM0⟩ : ∃ M0, M0 = z_st M X 4 (nI k) := ⟨_, rfl⟩
  obtain ⟨M', e1, e2⟩ := z_loopM (f := fun x : Int32 × zM => fX1_copyFrom_L1 X Y x.1 x.2) (fun i M' => M' X = M0 X ∧ (∀ q j, 1 ≤ q → q ≤ 3 → j < i → M' (X + q) j = M (Y + q) j) ∧ ∀ a, (a < X ∨ X + 4 ≤ a) → M' a = M a) (fun M' => M' X = M0 X ∧ (∀ q j, 1 ≤ q → q ≤ 3 → j < k → M' (X + q) j = M (Y + q) j) ∧ ∀ a, (a < X ∨ X + 4 ≤ a) → M' a = M a) 0 k (by omega) (s := nI 0) (M := M0) rfl ⟨rfl, fun q j _ _ h => absurd h (Nat.not_lt_zero j), fun a ha => by rw [hM0, s_n (by omega)]⟩ (fun i M' hi hI => by
      obtain ⟨b1, b2, b3⟩ := hI
      have c4 : M' X 4 = nI k := by rw [b1, hM0, s_s, u_s]
      obtain ⟨Ma, hMa⟩ : ∃ Ma, Ma = z_st M' (X + 1) i (M (Y + 1) i) := ⟨_, rfl⟩
      obtain ⟨Mb, hMb⟩ : ∃ Mb, Mb = z_st Ma (X + 2) i (M (Y + 2) i) := ⟨_, rfl⟩
      obtain ⟨Mc, hMc⟩ : ∃ Mc, Mc = z_st Mb (X + 3) i (M (Y + 3) i) := ⟨_, rfl⟩
      have g1 : M' (Y + 1) = M (Y + 1) := b3 _ (by omega)
      have g2 : Ma (Y + 2) = M (Y + 2) := by rw [hMa, s_n (by omega)]; exact b3 _ (by omega)
      have g3 : Mb (Y + 3) = M (Y + 3) := by rw [hMb, s_n (by omega), hMa, s_n (by omega)]; exact b3 _ (by omega)
      have hsb : z_sb Mb (X + 3) 66 (nI i) (M (Y + 3) i) = some Mc := by
        rw [hMc]
        rcases hm i hi with q | q <;> rw [q]
        · exact z_sb0 (by omega) (by decide)
        · exact z_sb1 (by omega) (by decide)
      have l66 : z_sb Mb (X + 3) 66 (nI i) (M (Y + 3) i) = some Mc := hsb
      refine ⟨Mc, ?_, ?_, fun q j q1 q3 hj => ?_, fun a ha => by rw [hMc, s_n (by omega), hMb, s_n (by omega), hMa, s_n (by omega)]; exact b3 a ha⟩
      · simp (disch := first | omega | assumption) only [l_0, l_1, l_2, l_3, l_4, l_5, l_6, l_7, l_8, l_11, l_12, l_15, l_16, l_31, l_32, l_66, l_80, l_100, l_127, l_128, l_768, l_2304, l_2310, l_2316, l_2388, l_2394, l_2406, l_2418, l_2430, l_2558, l_2686, l_2814, l_2942, l_3070, l_3390, l_3394, l_3395, l_3396, l_3397, n_leT, n_leF, n_ltT, n_ltF, n_eqT, n_eqF, nI_add, pk_mul, n_sub, z_ldn, z_san, z_bs, z_b2s, z_b3s, z_ocN, z_ocS, z_oxL, z_oxR, z_scL, z_scR, ↓reduceIte, st_170, st_171, st_172, st_173, Nat.zero_add, Nat.add_zero, Nat.zero_lt_succ, true_and, and_true, eq_self, fX1_copyFrom_L1, c4, g1, ← hMa, g2, ← hMb, g3, hsb]
      · rw [hMc, s_n (by omega), hMb, s_n (by omega), hMa, s_n (by omega), b1]
      · have : q = 1 ∨ q = 2 ∨ q = 3 := by omega
        rcases this with q | q | q <;> subst q
        · rw [hMc, s_n (by omega), hMb, s_n (by omega), hMa, s_s]
          by_cases y : j = i
          · rw [y, u_s]
          · rw [u_n y]
            exact b2 1 j (by omega) (by omega) (by omega)
        · rw [hMc, s_n (by omega), hMb, s_s, hMa, s_n (by omega)]
          by_cases y : j = i
          · rw [y, u_s]
          · rw [u_n y]
            exact b2 2 j (by omega) (by omega) (by omega)
        · rw [hMc, s_s, hMb, s_n (by omega), hMa, s_n (by omega)]
          by_cases y : j = i
          · rw [y, u_s]
          · rw [u_n y]
            exact b2 3 j (by omega) (by omega) (by omega)) (fun M' hI => by
      have c4 : M' X 4 = nI k := by rw [hI.1, hM0, s_s, u_s]
      exact ⟨M', by simp (disch := first | omega | assumption) only [l_0, l_1, l_2, l_3, l_4, l_5, l_6, l_7, l_8, l_11, l_12, l_15, l_16, l_31, l_32, l_66, l_80, l_100, l_127, l_128, l_768, l_2304, l_2310, l_2316, l_2388, l_2394, l_2406, l_2418, l_2430, l_2558, l_2686, l_2814, l_2942, l_3070, l_3390, l_3394, l_3395, l_3396, l_3397, n_leT, n_leF, n_ltT, n_ltF, n_eqT, n_eqF, nI_add, pk_mul, n_sub, z_ldn, z_san, z_bs, z_b2s, z_b3s, z_ocN, z_ocS, z_oxL, z_oxR, z_scL, z_scR, ↓reduceIte, st_170, st_171, st_172, st_173, Nat.zero_add, Nat.add_zero, Nat.zero_lt_succ, true_and, and_true, eq_self, fX1_copyFrom_L1, c4], hI⟩)
  obtain ⟨e2, e3, e4⟩ := e2
  refine ⟨M', ?_, by rw [e2, hM0, s_s, u_s], fun j hj => by rw [e2, hM0, s_s, u_n hj], e3, e4⟩
  simp (disch := first | omega | assumption) only [l_0, l_1, l_2, l_3, l_4, l_5, l_6, l_7, l_8, l_11, l_12, l_15, l_16, l_31, l_32, l_66, l_80, l_100, l_127, l_128, l_768, l_2304, l_2310, l_2316, l_2388, l_2394, l_2406, l_2418, l_2430, l_2558, l_2686, l_2814, l_2942, l_3070, l_3390, l_3394, l_3395, l_3396, l_3397, n_leT, n_leF, n_ltT, n_ltF, n_eqT, n_eqF, nI_add, pk_mul, n_sub, z_ldn, z_san, z_bs, z_b2s, z_b3s, z_ocN, z_ocS, z_oxL, z_oxR, z_scL, z_scR, ↓reduceIte, st_170, st_171, st_172, st_173, Nat.zero_add, Nat.add_zero, Nat.zero_lt_succ, true_and, and_true, eq_self, h1, ← hM0, e1]
theorem cCa {V W n : Nat} {M : zM} {S : Nat → Nat} (hVW : V + 83 ≤ W ∨ W + 83 ≤ V) (r2 : R_ds W M S) (hI : z_I n S) : ∃ M', z_loop (fun x : Int32 × zM => fX5_copyFrom_L1 V W x.1 x.2) z_FU (nI 0, M) = some M' ∧ (∀ d, d < 6 → M' (V + 9 + 3 * d) 1 = M (W + 9 + 3 * d) 1 ∧ M' (V + 9 + 3 * d) 2 = M (W + 9 + 3 * d) 2) ∧ (∀ d p, d < 6 → p < 128 → M' (V + 9 + 3 * d + 1 + 1) p = M (W + 9 + 3 * d + 1 + 1) p) ∧ ∀ a, a < V + 9 ∨ V + 27 ≤ a → M' a = M a :=
  z_loopM (f := fun x : Int32 × zM => fX5_copyFrom_L1 V W x.1 x.2) (fun i M' => (∀ d, d < i → M' (V + 9 + 3 * d) 1 = M (W + 9 + 3 * d) 1 ∧ M' (V + 9 + 3 * d) 2 = M (W + 9 + 3 * d) 2) ∧ (∀ d p, d < i → p < 128 → M' (V + 9 + 3 * d + 1 + 1) p = M (W + 9 + 3 * d + 1 + 1) p) ∧ ∀ a, a < V + 9 ∨ V + 27 ≤ a → M' a = M a) (fun M' => (∀ d, d < 6 → M' (V + 9 + 3 * d) 1 = M (W + 9 + 3 * d) 1 ∧ M' (V + 9 + 3 * d) 2 = M (W + 9 + 3 * d) 2) ∧ (∀ d p, d < 6 → p < 128 → M' (V + 9 + 3 * d + 1 + 1) p = M (W + 9 + 3 * d + 1 + 1) p) ∧ ∀ a, a < V + 9 ∨ V + 27 ≤ a → M' a = M a) 0 6 (by decide) (s := nI 0) (M := M) rfl ⟨fun d hd => absurd hd (Nat.not_lt_zero d), fun d p hd => absurd hd (Nat.not_lt_zero d), fun _ _ => rfl⟩ (fun i M' hi hI9 => by
      obtain ⟨b1, b2, b3⟩ := hI9
      have c1 : M' (W + 9 + 3 * i) = M (W + 9 + 3 * i) := b3 _ (by omega)
      have c2 : M' (W + 9 + 3 * i + 1 + 1) = M (W + 9 + 3 * i + 1 + 1) := b3 _ (by omega)
      obtain ⟨Ma, f1, f2, f3, f4, f5⟩ := cCp0 (X := V + 9 + 3 * i) (Y := W + 9 + 3 * i) (M := M') (v := S (2304 + i)) (by rw [c1]; exact (r2 i hi).1) (I_ex hI i hi) (by omega)
      have g1 := z_lq11 (V := V) hi
      have g2 := z_lq11 (V := W) hi
      refine ⟨Ma, by simp (disch := first | omega | assumption) only [l_0, l_1, l_2, l_3, l_4, l_5, l_6, l_7, l_8, l_11, l_12, l_15, l_16, l_31, l_32, l_66, l_80, l_100, l_127, l_128, l_768, l_2304, l_2310, l_2316, l_2388, l_2394, l_2406, l_2418, l_2430, l_2558, l_2686, l_2814, l_2942, l_3070, l_3390, l_3394, l_3395, l_3396, l_3397, n_leT, n_leF, n_ltT, n_ltF, n_eqT, n_eqF, nI_add, pk_mul, n_sub, z_ldn, z_san, z_bs, z_b2s, z_b3s, z_ocN, z_ocS, z_oxL, z_oxR, z_scL, z_scR, ↓reduceIte, st_170, st_171, st_172, st_173, Nat.zero_add, Nat.add_zero, Nat.zero_lt_succ, true_and, and_true, eq_self, fX5_copyFrom_L1, g1, g2, f1], fun d hd => ?_, fun d p hd hp => ?_, fun a ha => by rw [f5 a (by omega) (by omega)]; exact b3 a ha⟩
      · by_cases q : d = i
        · rw [q, f2, f3, c1]
          exact ⟨rfl, rfl⟩
        · rw [f5 _ (by omega) (by omega)]
          exact b1 d (by omega)
      · by_cases q : d = i
        · rw [q, f4 p hp, c2]
        · rw [f5 _ (by omega) (by omega)]
          exact b2 d p (by omega) hp) (fun M' hI9 => ⟨M', by simp (disch := first | omega | assumption) only [l_0, l_1, l_2, l_3, l_4, l_5, l_6, l_7, l_8, l_11, l_12, l_15, l_16, l_31, l_32, l_66, l_80, l_100, l_127, l_128, l_768, l_2304, l_2310, l_2316, l_2388, l_2394, l_2406, l_2418, l_2430, l_2558, l_2686, l_2814, l_2942, l_3070, l_3390, l_3394, l_3395, l_3396, l_3397, n_leT, n_leF, n_ltT, n_ltF, n_eqT, n_eqF, nI_add, pk_mul, n_sub, z_ldn, z_san, z_bs, z_b2s, z_b3s, z_ocN, z_ocS, z_oxL, z_oxR, z_scL, z_scR, ↓reduceIte, st_170, st_171, st_172, st_173, Nat.zero_add, Nat.add_zero, Nat.zero_lt_succ, true_and, and_true, eq_self, fX5_copyFrom_L1], hI9⟩)
theorem cCb {V W : Nat} {M M1 : zM} {S : Nat → Nat} (hVW : V + 83 ≤ W ∨ W + 83 ≤ V) (r3 : R_sn W M S) (a4 : ∀ a, a < V + 9 ∨ V + 27 ≤ a → M1 a = M a) : ∃ M', z_loop (fun x : Int32 × zM => fX5_copyFrom_L2 V W x.1 x.2) z_FU (nI 0, M1) = some M' ∧ (∀ t j, t < 12 → 1 ≤ j → j ≤ 5 → M' (V + 27 + 3 * t) j = M (W + 27 + 3 * t) j) ∧ (∀ t p, t < 12 → p < 128 → M' (V + 27 + 3 * t + 1 + 1) p = M (W + 27 + 3 * t + 1 + 1) p) ∧ ∀ a, a < V + 27 ∨ V + 63 ≤ a → M' a = M1 a :=
  z_loopM (f := fun x : Int32 × zM => fX5_copyFrom_L2 V W x.1 x.2) (fun i M' => (∀ t j, t < i → 1 ≤ j → j ≤ 5 → M' (V + 27 + 3 * t) j = M (W + 27 + 3 * t) j) ∧ (∀ t p, t < i → p < 128 → M' (V + 27 + 3 * t + 1 + 1) p = M (W + 27 + 3 * t + 1 + 1) p) ∧ ∀ a, a < V + 27 ∨ V + 63 ≤ a → M' a = M1 a) (fun M' => (∀ t j, t < 12 → 1 ≤ j → j ≤ 5 → M' (V + 27 + 3 * t) j = M (W + 27 + 3 * t) j) ∧ (∀ t p, t < 12 → p < 128 → M' (V + 27 + 3 * t + 1 + 1) p = M (W + 27 + 3 * t + 1 + 1) p) ∧ ∀ a, a < V + 27 ∨ V + 63 ≤ a → M' a = M1 a) 0 12 (by decide) (s := nI 0) (M := M1) rfl ⟨fun d j hd => absurd hd (Nat.not_lt_zero d), fun d p hd => absurd hd (Nat.not_lt_zero d), fun _ _ => rfl⟩ (fun i M' hi hI9 => by
      obtain ⟨b1, b2, b3⟩ := hI9
      have c1 : M' (W + 27 + 3 * i) = M (W + 27 + 3 * i) := by rw [b3 _ (by omega), a4 _ (by omega)]
      have c2 : M' (W + 27 + 3 * i + 1 + 1) = M (W + 27 + 3 * i + 1 + 1) := by rw [b3 _ (by omega), a4 _ (by omega)]
      obtain ⟨Ma, f1, f2, f4, f5⟩ := cCp2 (X := V + 27 + 3 * i) (Y := W + 27 + 3 * i) (M := M') (v := if S (2394 + i) = 0 then 0 else 1) (by rw [c1]; exact (r3 i hi).1) (by split <;> omega) (by omega)
      have g1 := z_lq12 (V := V) hi
      have g2 := z_lq12 (V := W) hi
      refine ⟨Ma, by simp (disch := first | omega | assumption) only [l_0, l_1, l_2, l_3, l_4, l_5, l_6, l_7, l_8, l_11, l_12, l_15, l_16, l_31, l_32, l_66, l_80, l_100, l_127, l_128, l_768, l_2304, l_2310, l_2316, l_2388, l_2394, l_2406, l_2418, l_2430, l_2558, l_2686, l_2814, l_2942, l_3070, l_3390, l_3394, l_3395, l_3396, l_3397, n_leT, n_leF, n_ltT, n_ltF, n_eqT, n_eqF, nI_add, pk_mul, n_sub, z_ldn, z_san, z_bs, z_b2s, z_b3s, z_ocN, z_ocS, z_oxL, z_oxR, z_scL, z_scR, ↓reduceIte, st_170, st_171, st_172, st_173, Nat.zero_add, Nat.add_zero, Nat.zero_lt_succ, true_and, and_true, eq_self, fX5_copyFrom_L2, g1, g2, f1], fun t j ht j1 j5 => ?_, fun t p ht hp => ?_, fun a ha => by rw [f5 a (by omega) (by omega)]; exact b3 a ha⟩
      · by_cases q : t = i
        · rw [q, f2 j j1 j5, c1]
        · rw [f5 _ (by omega) (by omega)]
          exact b1 t j (by omega) j1 j5
      · by_cases q : t = i
        · rw [q, f4 p hp, c2]
        · rw [f5 _ (by omega) (by omega)]
          exact b2 t p (by omega) hp) (fun M' hI9 => ⟨M', by simp (disch := first | omega | assumption) only [l_0, l_1, l_2, l_3, l_4, l_5, l_6, l_7, l_8, l_11, l_12, l_15, l_16, l_31, l_32, l_66, l_80, l_100, l_127, l_128, l_768, l_2304, l_2310, l_2316, l_2388, l_2394, l_2406, l_2418, l_2430, l_2558, l_2686, l_2814, l_2942, l_3070, l_3390, l_3394, l_3395, l_3396, l_3397, n_leT, n_leF, n_ltT, n_ltF, n_eqT, n_eqF, nI_add, pk_mul, n_sub, z_ldn, z_san, z_bs, z_b2s, z_b3s, z_ocN, z_ocS, z_oxL, z_oxR, z_scL, z_scR, ↓reduceIte, st_170, st_171, st_172, st_173, Nat.zero_add, Nat.add_zero, Nat.zero_lt_succ, true_and, and_true, eq_self, fX5_copyFrom_L2], hI9⟩)
theorem cCc {V W n : Nat} {M M3 : zM} {N : Nat → Int32} {S : Nat → Nat} (hVW : V + 83 ≤ W ∨ W + 83 ≤ V) (r5 : R_lg W M N S) (hI : z_I n S) (h0 : ∀ r, r < 4 → M (V + 63 + 5 * r) 0 = nI (32 * r)) (m3 : ∀ a, (a ≤ V + 3 ∨ V + 8 ≤ a) → (a < V + 9 ∨ V + 63 ≤ a) → M3 a = M a) (hmk : ∀ r, r < 4 → ∀ j, j < S (3390 + r) → M (W + 63 + 5 * r + 3) j = nI 0 ∨ M (W + 63 + 5 * r + 3) j = nI 1) : ∃ M', z_loop (fun x : Int32 × zM => fX5_copyFrom_L3 V W x.1 x.2) z_FU (nI 0, M3) = some M' ∧ (∀ r, r < 4 → M' (V + 63 + 5 * r) 4 = nI (S (3390 + r)) ∧ ∀ q j, 1 ≤ q → q ≤ 3 → j < S (3390 + r) → M' (V + 63 + 5 * r + q) j = M (W + 63 + 5 * r + q) j) ∧ (∀ r, r < 4 → M' (V + 63 + 5 * r) 0 = nI (32 * r)) ∧ ∀ a, a < V + 63 ∨ V + 83 ≤ a → M' a = M3 a :=
  z_loopM (f := fun x : Int32 × zM => fX5_copyFrom_L3 V W x.1 x.2) (fun i M' => (∀ r, r < i → M' (V + 63 + 5 * r) 4 = nI (S (3390 + r)) ∧ ∀ q j, 1 ≤ q → q ≤ 3 → j < S (3390 + r) → M' (V + 63 + 5 * r + q) j = M (W + 63 + 5 * r + q) j) ∧ (∀ r, r < 4 → M' (V + 63 + 5 * r) 0 = nI (32 * r)) ∧ ∀ a, a < V + 63 ∨ V + 83 ≤ a → M' a = M3 a) (fun M' => (∀ r, r < 4 → M' (V + 63 + 5 * r) 4 = nI (S (3390 + r)) ∧ ∀ q j, 1 ≤ q → q ≤ 3 → j < S (3390 + r) → M' (V + 63 + 5 * r + q) j = M (W + 63 + 5 * r + q) j) ∧ (∀ r, r < 4 → M' (V + 63 + 5 * r) 0 = nI (32 * r)) ∧ ∀ a, a < V + 63 ∨ V + 83 ≤ a → M' a = M3 a) 0 4 (by decide) (s := nI 0) (M := M3) rfl ⟨fun d hd => absurd hd (Nat.not_lt_zero d), fun r hr => by rw [m3 _ (by omega) (by omega)]; exact h0 r hr, fun _ _ => rfl⟩ (fun i M' hi hI9 => by
      obtain ⟨b1, b2, b3⟩ := hI9
      have c0 : ∀ q, q < 5 → M' (W + 63 + 5 * i + q) = M (W + 63 + 5 * i + q) := fun q hq => by rw [b3 _ (by omega), m3 _ (by omega) (by omega)]
      obtain ⟨Ma, f1, f2, f3, f4, f5⟩ := cCp1 (X := V + 63 + 5 * i) (Y := W + 63 + 5 * i) (M := M') (k := S (3390 + i)) (by rw [show M' (W + 63 + 5 * i) = _ from c0 0 (by omega)]; exact (r5 i hi).2.1) (by have := I_log hI i hi; omega) (fun j hj => by rw [c0 3 (by omega)]; exact hmk i hi j hj) (by omega)
      have g1 := z_lq13 (V := V) hi
      have g2 := z_lq13 (V := W) hi
      refine ⟨Ma, by simp (disch := first | omega | assumption) only [l_0, l_1, l_2, l_3, l_4, l_5, l_6, l_7, l_8, l_11, l_12, l_15, l_16, l_31, l_32, l_66, l_80, l_100, l_127, l_128, l_768, l_2304, l_2310, l_2316, l_2388, l_2394, l_2406, l_2418, l_2430, l_2558, l_2686, l_2814, l_2942, l_3070, l_3390, l_3394, l_3395, l_3396, l_3397, n_leT, n_leF, n_ltT, n_ltF, n_eqT, n_eqF, nI_add, pk_mul, n_sub, z_ldn, z_san, z_bs, z_b2s, z_b3s, z_ocN, z_ocS, z_oxL, z_oxR, z_scL, z_scR, ↓reduceIte, st_170, st_171, st_172, st_173, Nat.zero_add, Nat.add_zero, Nat.zero_lt_succ, true_and, and_true, eq_self, fX5_copyFrom_L3, g1, g2, f1], fun r hr => ?_, fun r hr => ?_, fun a ha => by rw [f5 a (by omega)]; exact b3 a ha⟩
      · by_cases q : r = i
        · rw [q]
          exact ⟨f2, fun q j q1 q3 hj => by rw [f4 q j q1 q3 hj, c0 q (by omega)]⟩
        · rw [f5 _ (by omega)]
          refine ⟨(b1 r (by omega)).1, fun q j q1 q3 hj => ?_⟩
          rw [f5 _ (by omega)]
          exact (b1 r (by omega)).2 q j q1 q3 hj
      · by_cases q : r = i
        · rw [q, f3 0 (by decide)]
          exact b2 i hi
        · rw [f5 _ (by omega)]
          exact b2 r hr) (fun M' hI9 => ⟨M', by simp (disch := first | omega | assumption) only [l_0, l_1, l_2, l_3, l_4, l_5, l_6, l_7, l_8, l_11, l_12, l_15, l_16, l_31, l_32, l_66, l_80, l_100, l_127, l_128, l_768, l_2304, l_2310, l_2316, l_2388, l_2394, l_2406, l_2418, l_2430, l_2558, l_2686, l_2814, l_2942, l_3070, l_3390, l_3394, l_3395, l_3396, l_3397, n_leT, n_leF, n_ltT, n_ltF, n_eqT, n_eqF, nI_add, pk_mul, n_sub, z_ldn, z_san, z_bs, z_b2s, z_b3s, z_ocN, z_ocS, z_oxL, z_oxR, z_scL, z_scR, ↓reduceIte, st_170, st_171, st_172, st_173, Nat.zero_add, Nat.add_zero, Nat.zero_lt_succ, true_and, and_true, eq_self, fX5_copyFrom_L3], hI9⟩)
theorem cCopy_R {V W : Nat} {M M1 M2 M3 M4 M5 M6 M7 : zM} {N : Nat → Int32} {S : Nat → Nat} (hVW : V + 83 ≤ W ∨ W + 83 ≤ V) (r1 : R_tab W M S) (r2 : R_ds W M S) (r3 : R_sn W M S) (r4 : R_sp W M N S) (r5 : R_lg W M N S) (r6 : R_sc W M S) (a2 : ∀ d, d < 6 → M1 (V + 9 + 3 * d) 1 = M (W + 9 + 3 * d) 1 ∧ M1 (V + 9 + 3 * d) 2 = M (W + 9 + 3 * d) 2) (a3 : ∀ d p, d < 6 → p < 128 → M1 (V + 9 + 3 * d + 1 + 1) p = M (W + 9 + 3 * d + 1 + 1) p) (a4 : ∀ a, a < V + 9 ∨ V + 27 ≤ a → M1 a = M a) (s2 : ∀ t j, t < 12 → 1 ≤ j → j ≤ 5 → M2 (V + 27 + 3 * t) j = M (W + 27 + 3 * t) j) (s3 : ∀ t p, t < 12 → p < 128 → M2 (V + 27 + 3 * t + 1 + 1) p = M (W + 27 + 3 * t + 1 + 1) p) (s4 : ∀ a, a < V + 27 ∨ V + 63 ≤ a → M2 a = M1 a) (p2 : ∀ q p, 1 ≤ q → q ≤ 4 → p < 128 → M3 (V + 3 + q) p = M2 (W + 3 + q) p) (p3 : ∀ a, (a ≤ V + 3 ∨ V + 3 + 5 ≤ a) → M3 a = M2 a) (l2 : ∀ r, r < 4 → M4 (V + 63 + 5 * r) 4 = nI (S (3390 + r)) ∧ ∀ q j, 1 ≤ q → q ≤ 3 → j < S (3390 + r) → M4 (V + 63 + 5 * r + q) j = M (W + 63 + 5 * r + q) j) (l3 : ∀ r, r < 4 → M4 (V + 63 + 5 * r) 0 = nI (32 * r)) (l4 : ∀ a, a < V + 63 ∨ V + 83 ≤ a → M4 a = M3 a) (hM5 : M5 = z_st M4 V 4 (M W 4)) (hM6 : M6 = z_st M5 V 5 (M W 5)) (hM7 : M7 = z_st M6 V 6 (M W 6)) : z_R1 V M7 N S := by
  have f7 : ∀ a, a ≠ V → M7 a = M4 a := fun a ha => by rw [hM7, s_n ha, hM6, s_n ha, hM5, s_n ha]
  refine ⟨fun t ht p hp => ?_, fun d hd => ?_, fun t ht => ?_, fun b hb => ?_, fun r hr => ?_, ?_⟩
  · by_cases q : t < 6
    · rw [f7 _ (by omega), l4 _ (by omega), p3 _ (by omega), s4 _ (by omega), a3 t p q hp]
      exact r1 t ht p hp
    · obtain ⟨u, hu, rfl⟩ : ∃ u, u < 12 ∧ t = 6 + u := ⟨t - 6, by omega, by omega⟩
      have e := r1 (6 + u) ht p hp
      rw [show W + 9 + 3 * (6 + u) + 1 + 1 = W + 27 + 3 * u + 1 + 1 by omega] at e
      rw [show V + 9 + 3 * (6 + u) + 1 + 1 = V + 27 + 3 * u + 1 + 1 by omega, f7 _ (by omega), l4 _ (by omega), p3 _ (by omega), s3 u p hu hp]
      exact e
  · rw [f7 _ (by omega), l4 _ (by omega), p3 _ (by omega), s4 _ (by omega), (a2 d hd).1, (a2 d hd).2]
    exact r2 d hd
  · have e : ∀ j, 1 ≤ j → j ≤ 5 → M7 (V + 27 + 3 * t) j = M (W + 27 + 3 * t) j := fun j j1 j5 => by rw [f7 _ (by omega), l4 _ (by omega), p3 _ (by omega), s2 t j ht j1 j5]
    unfold R_sn1
    rw [e 1 (by omega) (by omega), e 2 (by omega) (by omega), e 3 (by omega) (by omega), e 4 (by omega) (by omega), e 5 (by omega) (by omega)]
    exact r3 t ht
  · have e : ∀ q, 1 ≤ q → q ≤ 4 → M7 (V + 3 + q) b = M (W + 3 + q) b := fun q q1 q4 => by
      rw [f7 _ (by omega), l4 _ (by omega), p2 q b q1 q4 hb, s4 _ (by omega), a4 _ (by omega)]
    rw [e 1 (by omega) (by omega), e 2 (by omega) (by omega), e 3 (by omega) (by omega), e 4 (by omega) (by omega)]
    exact r4 b hb
  · have hk : ∀ q, q < 5 → M7 (V + 63 + 5 * r + q) = M4 (V + 63 + 5 * r + q) := fun q hq => f7 _ (by omega)
    have hk0 : M7 (V + 63 + 5 * r) = M4 (V + 63 + 5 * r) := f7 _ (by omega)
    obtain ⟨b1, b2⟩ := l2 r hr
    refine ⟨by rw [hk0]; exact l3 r hr, by rw [hk0]; exact b1, fun j hj => ?_⟩
    unfold R_lg1
    rw [hk 1 (by omega), hk 2 (by omega), hk 3 (by omega), b2 1 j (by omega) (by omega) hj, b2 2 j (by omega) (by omega) hj, b2 3 j (by omega) (by omega) hj]
    exact (r5 r hr).2.2 j hj
  · have e : M7 V = upd (upd (upd (M4 V) 4 (M W 4)) 5 (M W 5)) 6 (M W 6) := by rw [hM7, s_s, hM6, s_s, hM5, s_s]
    unfold R_sc
    rw [e, u_s, u_n (by decide), u_n (by decide), u_s, u_n (by decide), u_s]
    exact r6
theorem cCopy {V W n : Nat} {M : zM} {N : Nat → Int32} {S : Nat → Nat} (hVW : V + 83 ≤ W ∨ W + 83 ≤ V) (hR : z_R1 W M N S) (hI : z_I n S) (h0 : ∀ r, r < 4 → M (V + 63 + 5 * r) 0 = nI (32 * r)) : ∃ M', fX5_copyFrom V W M = some M' ∧ (∀ N' : Nat → Int32, z_R1 W M N' S → z_R1 V M' N' S) ∧ ∀ a, a < V ∨ V + 83 ≤ a → M' a = M a := by
  obtain ⟨r1, r2, r3, r4, r5, r6⟩ := hR
  unfold fX5_copyFrom
  obtain ⟨M1, a1, a2, a3, a4⟩ := cCa hVW r2 hI
  obtain ⟨M2, s1, s2, s3, s4⟩ := cCb hVW r3 a4
  -- the space
  obtain ⟨M3, p1, p2, p3⟩ := cCp3 (X := V + 3) (Y := W + 3) (M := M2) (by omega)
  have m3 : ∀ a, (a ≤ V + 3 ∨ V + 8 ≤ a) → (a < V + 9 ∨ V + 63 ≤ a) → M3 a = M a := fun a q1 q2 => by rw [p3 a (by omega), s4 a (by omega), a4 a (by omega)]
  have hmk : ∀ r, r < 4 → ∀ j, j < S (3390 + r) → M (W + 63 + 5 * r + 3) j = nI 0 ∨ M (W + 63 + 5 * r + 3) j = nI 1 := fun r hr j hj => by
    obtain ⟨f, l, _, _, _, _, _, h⟩ := (r5 r hr).2.2 j hj
    rcases h with h | h
    · exact Or.inr h.1
    · exact Or.inl h.1
  obtain ⟨M4, l1, l2, l3, l4⟩ := cCc hVW r5 hI h0 m3 hmk
  -- its own fields
  have mW : M4 W = M W := by rw [l4 W (by omega), m3 W (by omega) (by omega)]
  obtain ⟨M5, hM5⟩ : ∃ M5, M5 = z_st M4 V 4 (M W 4) := ⟨_, rfl⟩
  have w5 : M5 W = M W := by rw [hM5, s_n (by omega), mW]
  obtain ⟨M6, hM6⟩ : ∃ M6, M6 = z_st M5 V 5 (M W 5) := ⟨_, rfl⟩
  have w6 : M6 W = M W := by rw [hM6, s_n (by omega), w5]
  obtain ⟨M7, hM7⟩ : ∃ M7, M7 = z_st M6 V 6 (M W 6) := ⟨_, rfl⟩
  have f7 : ∀ a, a ≠ V → M7 a = M4 a := fun a ha => by rw [hM7, s_n ha, hM6, s_n ha, hM5, s_n ha]
  refine ⟨M7, ?_, fun N' hR' => ?_, fun a ha => ?_⟩
  rotate_left
  · obtain ⟨r1, r2, r3, r4, r5, r6⟩ := hR'
    exact cCopy_R hVW r1 r2 r3 r4 r5 r6 a2 a3 a4 s2 s3 s4 p2 p3 l2 l3 l4 hM5 hM6 hM7
  · rw [f7 a (by omega), l4 a (by omega), m3 a (by omega) (by omega)]
  · rw [show z_loop _ z_FU ((0 : Int32), M) = _ from a1, z_bs, show z_loop _ z_FU ((0 : Int32), M1) = _ from s1, z_bs, p1, z_bs, show z_loop _ z_FU ((0 : Int32), M3) = _ from l1, z_bs, mW, ← hM5, z_bs, w5, ← hM6, z_bs, w6, ← hM7, z_bs]
