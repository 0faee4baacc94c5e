theorem mSn {n : Nat} {Ms : zM} {S : Nat → Nat} {d s c : Nat} (hI : z_I n S) (hn : n < 512) (hN : z_N (Ms 170) S) (hd : d < 6) (hdx : S (2304 + d) = 1) (hs : s < 12) (h0 : S (2394 + s) = 0) (h1 : ∀ j, j < s → S (2394 + j) ≠ 0) (hcc : c = S (2388 + d)) (hI2 : z_I (n + 1) (y_mk (snS S d s c))) (hbf : ∀ b, b < 128 → y_mk (snS S d s c) (2942 + b) ≤ 1) : ∃ M', fX7_snapshot 169 (nI d) Ms = some (nI (S 3394), M') ∧ z_N (M' 170) (cmS (y_mk (snS S d s c))) ∧ Fcm (y_mk (snS S d s c)) (Ms 170) (M' 170) ∧ (∀ k, k < 3397 → M' 171 k = M' 170 k) ∧ ∀ a, a ≠ 170 → a ≠ 171 → a ≠ 172 → M' a = z_st Ms 169 4 (nI 0) a := by
  have hc : c ≤ 11 := by rw [hcc]; exact own11 hI hd hs h0
  have hb := hb30 hI hn
  have hN2 := N1 hN
  have hbd := I_bnd hI
  have eE := fun {k : Nat} (h : (2304 ≤ k ∧ k < 2316) ∨ (2430 ≤ k ∧ k ≠ 3394)) => sn_E (S := S) hd hs hc h
  have eT := fun {k : Nat} (hk : k < 2304) => sn_T (S := S) hd hs hc hk
  obtain ⟨Mm, hMm⟩ : ∃ Mm, Mm = z_st Ms 169 4 (nI 0) := ⟨_, rfl⟩
  have hMm170 : Mm 170 = Ms 170 := by rw [hMm]; rfl
  have kN : Mm (169 + 1) 3394 = nI (S 3394) := by rw [show Mm (169 + 1) = Mm 170 from rfl, hMm170]; exact hN.2.2 _ (by omega) (by omega)
  obtain ⟨M13, h13⟩ : ∃ M13, M13 = z_st Mm (169 + 1) 3394 (nI (S 3394 + 1)) := ⟨_, rfl⟩
  have r13 : M13 170 = upd (Ms 170) 3394 (nI (S 3394 + 1)) := by rw [h13, show (170 : Nat) = 169 + 1 from rfl, s_s, show Mm (169 + 1) = Mm 170 from rfl, hMm170]
  obtain ⟨M14, h14⟩ : ∃ M14, M14 = z_st M13 (169 + 1) (2394 + s) (nI (S 3394 + 1)) := ⟨_, rfl⟩
  have r14 : M14 170 = upd (M13 170) (2394 + s) (nI (S 3394 + 1)) := by rw [h14, show (170 : Nat) = 169 + 1 from rfl, s_s]
  have k14 : M14 (169 + 1) 3395 = nI (S 3395) := by
    rw [show M14 (169 + 1) = M14 170 from rfl, r14, u_n (by omega), r13, u_n (by omega)]
    exact hN.2.2 _ (by omega) (by omega)
  obtain ⟨M16, h16⟩ : ∃ M16, M16 = z_st M14 (169 + 1) (2406 + s) (nI (S 3395)) := ⟨_, rfl⟩
  have r16 : M16 170 = upd (M14 170) (2406 + s) (nI (S 3395)) := by rw [h16, show (170 : Nat) = 169 + 1 from rfl, s_s]
  obtain ⟨M17, h17⟩ : ∃ M17, M17 = z_st M16 (169 + 1) (2418 + s) (nI d) := ⟨_, rfl⟩
  have r17 : M17 170 = upd (M16 170) (2418 + s) (nI d) := by rw [h17, show (170 : Nat) = 169 + 1 from rfl, s_s]
  have k17 : M17 (169 + 1) (2388 + d) = nI c := by
    rw [show M17 (169 + 1) = M17 170 from rfl, r17, u_n (by omega), r16, u_n (by omega), r14, u_n (by omega), r13, u_n (by omega), hcc]
    exact hN2 _ (by omega)
  obtain ⟨M19, h19⟩ : ∃ M19, M19 = z_st M17 (169 + 1) (2316 + 12 * d + c) (nI s) := ⟨_, rfl⟩
  have r19 : M19 170 = upd (M17 170) (2316 + 12 * d + c) (nI s) := by rw [h19, show (170 : Nat) = 169 + 1 from rfl, s_s]
  have k19 : M19 (169 + 1) (2388 + d) = nI c := by rw [show M19 (169 + 1) = M19 170 from rfl, r19, u_n (by omega)]; exact k17
  obtain ⟨M21, h21⟩ : ∃ M21, M21 = z_st M19 (169 + 1) (2388 + d) (nI (c + 1)) := ⟨_, rfl⟩
  have r21 : M21 170 = upd (M19 170) (2388 + d) (nI (c + 1)) := by rw [h21, show (170 : Nat) = 169 + 1 from rfl, s_s]
  have hrow : ∀ k, k ≠ 3394 → k ≠ 2394 + s → k ≠ 2406 + s → k ≠ 2418 + s → k ≠ 2316 + 12 * d + c → k ≠ 2388 + d → M21 170 k = Ms 170 k := fun k q1 q2 q3 q4 q5 q6 => by rw [r21, u_n q6, r19, u_n q5, r17, u_n q4, r16, u_n q3, r14, u_n q2, r13, u_n q1]
  have f21 : ∀ a, a ≠ 170 → M21 a = z_st Ms 169 4 (nI 0) a := fun a ha => by rw [h21, s_n ha, h19, s_n ha, h17, s_n ha, h16, s_n ha, h14, s_n ha, h13, s_n ha, hMm]
  obtain ⟨M24, u1, u2, u3⟩ := z_loopR (f := fun x : Int32 × zM => fX7_snapshot_L2 169 (nI d) (nI s) x.1 x.2) (169 + 1) (768 + 128 * s) 0 128 (fun p => nI (S (128 * d + p))) (by decide) (s := nI 0) (M := M21) rfl (fun j M' hj _ q2 => by
    have c1 : M' (169 + 1) (128 * d + j) = nI (S (128 * d + j)) := by
      rw [q2, if_neg (by omega), show M21 (169 + 1) = M21 170 from rfl, hrow _ (by omega) (by omega) (by omega) (by omega) (by omega) (by omega)]
      exact hN2 _ (by omega)
    simp (disch := first | omega | assumption) only [l_0, l_1, l_2, l_3, l_4, l_5, l_6, l_7, l_8, l_11, l_12, l_15, l_16, l_31, l_32, l_66, l_80, l_100, l_127, l_128, l_768, l_2304, l_2310, l_2316, l_2388, l_2394, l_2406, l_2418, l_2430, l_2558, l_2686, l_2814, l_2942, l_3070, l_3390, l_3394, l_3395, l_3396, l_3397, n_leT, n_leF, n_ltT, n_ltF, n_eqT, n_eqF, nI_add, pk_mul, n_sub, z_ldn, z_san, z_bs, z_b2s, z_b3s, z_ocN, z_ocS, z_oxL, z_oxR, z_scL, z_scR, ↓reduceIte, st_170, st_171, st_172, st_173, Nat.zero_add, Nat.add_zero, Nat.zero_lt_succ, true_and, and_true, eq_self, fX7_snapshot_L2, c1]) (fun M' => by simp (disch := first | omega | assumption) only [l_0, l_1, l_2, l_3, l_4, l_5, l_6, l_7, l_8, l_11, l_12, l_15, l_16, l_31, l_32, l_66, l_80, l_100, l_127, l_128, l_768, l_2304, l_2310, l_2316, l_2388, l_2394, l_2406, l_2418, l_2430, l_2558, l_2686, l_2814, l_2942, l_3070, l_3390, l_3394, l_3395, l_3396, l_3397, n_leT, n_leF, n_ltT, n_ltF, n_eqT, n_eqF, nI_add, pk_mul, n_sub, z_ldn, z_san, z_bs, z_b2s, z_b3s, z_ocN, z_ocS, z_oxL, z_oxR, z_scL, z_scR, ↓reduceIte, st_170, st_171, st_172, st_173, Nat.zero_add, Nat.add_zero, Nat.zero_lt_succ, true_and, and_true, eq_self, fX7_snapshot_L2])
  have hN24 : z_N (M24 170) (snS S d s c) := by
    have h6 : z_N (M21 170) (updN (updN (updN (updN (updN (updN S 3394 (S 3394 + 1)) (2394 + s) (S 3394 + 1)) (2406 + s) (S 3395)) (2418 + s) d) (2316 + 12 * d + c) s) (2388 + d) (c + 1)) := by
      rw [r21, r19, r17, r16, r14, r13]
      exact z_N_up (z_N_up (z_N_up (z_N_up (z_N_up (z_N_up hN)))))
    exact z_N_rng h6 u3
  obtain ⟨M27, o1, o2, o3, o4⟩ := m_tabs2 hI hn (fun k k1 k2 => eE (by omega)) (by rw [eE (by omega)]; omega) (fun k hk => by
    rw [eT hk]
    split
    · exact I_tab hI _ (by omega)
    · exact I_tab hI k hk) hN24
  have hl128 := lost128 (S := snS S d s c)
  obtain ⟨M29, p1, p2, p3, p4, p5⟩ := mCm o2 hI2 (by omega) hbf
  have hS5 : y_mk (snS S d s c) 3395 ≤ 600 := by
    rw [y_mk_o (by omega), eE (by omega)]
    omega
  have hk27 : ∀ k, (2430 ≤ k ∧ k < 2558) ∨ (3070 ≤ k ∧ k < 3390) → M27 170 k = Ms 170 k := fun k hk => by
    rw [o3 k (by omega), show M24 170 k = _ from u3 k, if_neg (by omega)]
    exact hrow k (by omega) (by omega) (by omega) (by omega) (by omega) (by omega)
  refine ⟨M29, ?_, p2, Fcm_cg p3 (fun k k1 k2 => hk27 k (Or.inl ⟨k1, k2⟩)) (fun k k1 k2 => hk27 k (Or.inr ⟨k1, k2⟩)), p4, fun a a1 a2 a3 => by rw [p5 a a1 a2, o4 a a1 a3, u2 a a1, f21 a a1]⟩
  have hfs := mFs hN2 hb
  have hls : lfv (lfS S 12) = nI s := by
    have := lfS_s hs h0 h1 s (Nat.le_refl _)
    rw [show 12 - s + s = 12 by omega] at this
    rw [this]
    exact if_neg (by omega)
  rw [hls] at hfs
  obtain ⟨v1, hv1⟩ : ∃ v1, v1 = sumN (lostN (snS S d s c)) 128 := ⟨_, rfl⟩
  rw [← hv1] at o1 hl128
  obtain ⟨v2, hv2⟩ : ∃ v2, v2 = y_mk (snS S d s c) 3395 := ⟨_, rfl⟩
  rw [← hv2] at p1 hS5
  unfold fX7_snapshot
  simp (disch := first | omega | assumption) only [l_0, l_1, l_2, l_3, l_4, l_5, l_6, l_7, l_8, l_11, l_12, l_15, l_16, l_31, l_32, l_66, l_80, l_100, l_127, l_128, l_768, l_2304, l_2310, l_2316, l_2388, l_2394, l_2406, l_2418, l_2430, l_2558, l_2686, l_2814, l_2942, l_3070, l_3390, l_3394, l_3395, l_3396, l_3397, n_leT, n_leF, n_ltT, n_ltF, n_eqT, n_eqF, nI_add, pk_mul, n_sub, z_ldn, z_san, z_bs, z_b2s, z_b3s, z_ocN, z_ocS, z_oxL, z_oxR, z_scL, z_scR, ↓reduceIte, st_170, st_171, st_172, st_173, Nat.zero_add, Nat.add_zero, Nat.zero_lt_succ, true_and, and_true, eq_self, hfs, mSet_ok hN2 hd hdx, mFits0, ← hMm, kN, ← h13, ← h14, k14, ← h16, ← h17, k17, ← h19, k19, ← h21, u1, o1, p1]
theorem op_9 {n : Nat} (hn : n < 512) {M : zM} (h : z_P n M) (a1 a2 a3 a4 a5 a6 : Int32) : ∃ M9, fL_c9 a1 a2 a3 a4 a5 a6 M = some (1, M9) ∧ z_P (n + 1) M9 := by
  obtain ⟨S, S0, hN, hN0, hR, hR0, hI, hI0, hB, hB0⟩ := id h
  unfold fL_c9 fL_snapshot
  have hN1 := N1 hN
  have hb := hb30 hI hn
  have hfs := mFs hN1 hb
  rcases ds_cases a1 (I_ex hI) with ⟨d, hd, rfl, h1⟩ | h1
  · rcases cUs hR.2.2.1 with ⟨s, hs, h2, h3, hus⟩ | ⟨h2, hus⟩
    · obtain ⟨c, hcc⟩ : ∃ c, c = S (2388 + d) := ⟨_, rfl⟩
      have hc : c ≤ 11 := by rw [hcc]; exact own11 hI hd hs h2
      obtain ⟨M8, e1, e2, e3⟩ := cTk hR hI hd hs h2 hcc
      have hIs1 := sn_Is hI hd h1 hs h2 hcc
      have hbd := I_bnd hI
      have eE := fun {k : Nat} (h : (2304 ≤ k ∧ k < 2316) ∨ (2430 ≤ k ∧ k ≠ 3394)) => sn_E (S := S) hd hs hc h
      have eN := fun {t : Nat} (ht : t < 12) => sn_N (S := S) hd hs hc ht
      have eX := fun {t : Nat} (ht : t < 12) => sn_X (S := S) hd hs hc ht
      have eT := fun {k : Nat} (hk : k < 2304) => sn_T (S := S) hd hs hc hk
      have e9 := sn_9 (S := S) hd hs hc
      obtain ⟨g2, g4⟩ := z_set3 e2 (z_I_mono hI) hIs1 (fun k hk => by
          rw [eT hk]
          split
          · exact Or.inr ⟨_, by omega, rfl⟩
          · exact Or.inr ⟨k, hk, rfl⟩) (fun d2 hd2 q p hp => by
          rw [eE (by omega)] at q
          rw [eT (by omega), if_neg (by omega)]
          exact I_te hI d2 hd2 q p hp) (fun t ht q p hp => by
          rw [eN ht] at q
          by_cases y : t = s
          · rw [if_pos y] at q
            omega
          · rw [if_neg y] at q
            rw [eT (by omega), if_neg (by omega)]
            exact I_se hI t ht q p hp) (fun k k1 k2 => eE (by omega)) (fun k hk q => by
          rw [eT hk, if_neg]
          intro y
          have := I_se hI s hs h2 (k - (768 + 128 * s)) (by omega)
          rw [show 768 + 128 * s + (k - (768 + 128 * s)) = k by omega] at this
          exact q this)
      obtain ⟨S2, hS2⟩ : ∃ S2, S2 = y_mk (snS S d s c) := ⟨_, rfl⟩
      have yo : ∀ k, (k < 2686 ∨ 2942 ≤ k) → S2 k = snS S d s c k := fun k hk => by rw [hS2]; exact y_mk_o hk
      rw [← hS2] at g2 g4
      have hB2 : z_Bf S2 S0 := fun b hb => by
        rw [yo _ (by omega), eE (by omega)]
        exact hB b hb
      obtain ⟨t1, t2, t3, t4, t5, t6⟩ := g4.2
      have hIt : z_It n S2 := ⟨t1, t2, t3, t4, t5, fun b hb => by
        rw [yo _ (by omega), eE (by omega)]
        exact I_bir hI b hb⟩
      have hI' : z_I (n + 1) (cmS S2) := cm_I g4.1 hIt (by rw [yo _ (by omega), e9]; omega) (by rw [yo _ (by omega), eE (by omega)]; exact hbd.2.1) (by rw [yo _ (by omega), eE (by omega)]; exact hbd.2.2.1) (fun t ht => by
        rw [yo _ (by omega), eX ht]
        have := hbd.2.2.2 t ht
        have := hbd.2.1
        split <;> omega)
      have hbf := Bf_1 hB2
      obtain ⟨N1, hF1⟩ := Fcm_ex (M 170) g4 (by omega) hbf
      obtain ⟨M9, k1, k2, k3⟩ := cClose (N0 := M 171) g2 (z_R1_cg hR0 (fun k q1 q2 _ => e3 k (by omega))) g4 hI' hB2 hF1
      have f9 : ∀ a, 167 ≤ a → M9 a = M a := fun a ha => by rw [k3 a ha, e3 a (by omega)]
      have hnum : M9 (1 + 27 + 3 * s) 2 = nI (S 3394) := by
        have e : cmS S2 (2394 + s) = S 3394 + 1 := by rw [cm_o (by omega), yo _ (by omega), eN hs, if_pos rfl]
        have := (((k2 N1 hF1).1.2.2.1 s hs).2 (by rw [e]; omega)).1
        rw [e, Nat.add_sub_cancel] at this
        exact this
      -- the model
      obtain ⟨Ms, hMs⟩ : ∃ Ms, Ms = z_st M9 174 0 (nI (S 3394)) := ⟨_, rfl⟩
      have hMs170 : Ms 170 = M 170 := by
        rw [hMs]
        exact f9 170 (by decide)
      obtain ⟨M4, m1, m2, m3, m4, m5⟩ := mSn (Ms := Ms) hI hn (by rw [hMs170]; exact hN) hd h1 hs h2 h3 hcc (by rw [← hS2]; exact g4) (by rw [← hS2]; exact hbf)
      rw [← hS2] at m2 m3
      rw [hMs170] at m3
      obtain ⟨r1, r2⟩ := k2 _ m3
      have f4 : ∀ a, a < 169 → M4 a = M9 a := fun a ha => by rw [m5 a (by omega) (by omega) (by omega), s_n (by omega), hMs, s_n (by omega)]
      have hl : ∀ r, r < 4 → cmS S2 (3390 + r) ≤ 80 := fun r hr => by
        rw [cm_l hr]
        have := cmN_le (S := S2) (r := r)
        omega
      refine mutOK (M1 := M9) (v := nI (S 3394)) (M4 := M4) ?_ ?_ ?_ ?_ ⟨cmS S2, cmS S2, m2, ?_, z_R1_cg r1 (fun k q1 q2 _ => f4 k (by omega)), z_R1_N (z_R1_cg r2 (fun k q1 q2 _ => f4 k (by omega))) hl (fun k q1 q2 => m4 k (by omega)) (fun k q1 q2 => m4 k (by omega)), hI', hI', cm_Bf, cm_Bf⟩
      · unfold fX6_snapshot
        simp (disch := first | omega | assumption) only [l_0, l_1, l_2, l_3, l_4, l_5, l_6, l_7, l_8, l_11, l_12, l_15, l_16, l_31, l_32, l_66, l_80, l_100, l_127, l_128, l_768, l_2304, l_2310, l_2316, l_2388, l_2394, l_2406, l_2418, l_2430, l_2558, l_2686, l_2814, l_2942, l_3070, l_3390, l_3394, l_3395, l_3396, l_3397, n_leT, n_leF, n_ltT, n_ltF, n_eqT, n_eqF, nI_add, pk_mul, n_sub, z_ldn, z_san, z_bs, z_b2s, z_b3s, z_ocN, z_ocS, z_oxL, z_oxR, z_scL, z_scR, ↓reduceIte, st_170, st_171, st_172, st_173, Nat.zero_add, Nat.add_zero, Nat.zero_lt_succ, true_and, and_true, eq_self, cDs_ok hR.2.1 hd h1, z_gdp (kd1_ds hd), hus, z_gdp (kd1_sn hs), e1, k1, hnum]
      · rw [← hMs]
        exact m1
      · rw [m5 _ (by decide) (by decide) (by decide), s_s, u_s]
      · rw [m5 _ (by decide) (by decide) (by decide), s_n (by decide), hMs, s_s, u_s]
      · exact ⟨fun k hk => by rw [m4 k (by omega)]; exact m2.1 k hk, fun k q1 q2 => by rw [m4 k (by omega)]; exact m2.2.1 k q1 q2, fun k q1 q2 => by rw [m4 k (by omega)]; exact m2.2.2 k q1 q2⟩
    · rw [lfS_n h2 12 (Nat.le_refl _), show lfv 12 = -nI 1 from if_pos rfl] at hfs
      refine mutNo h (k := nI 2) (b := nI 0) (by decide) ?_ ?_
      · unfold fX6_snapshot
        simp (disch := first | omega | assumption) only [l_0, l_1, l_2, l_3, l_4, l_5, l_6, l_7, l_8, l_11, l_12, l_15, l_16, l_31, l_32, l_66, l_80, l_100, l_127, l_128, l_768, l_2304, l_2310, l_2316, l_2388, l_2394, l_2406, l_2418, l_2430, l_2558, l_2686, l_2814, l_2942, l_3070, l_3390, l_3394, l_3395, l_3396, l_3397, n_leT, n_leF, n_ltT, n_ltF, n_eqT, n_eqF, nI_add, pk_mul, n_sub, z_ldn, z_san, z_bs, z_b2s, z_b3s, z_ocN, z_ocS, z_oxL, z_oxR, z_scL, z_scR, ↓reduceIte, st_170, st_171, st_172, st_173, Nat.zero_add, Nat.add_zero, Nat.zero_lt_succ, true_and, and_true, eq_self, cDs_ok hR.2.1 hd h1, z_gdp (kd1_ds hd), hus]
        rfl
      · unfold fX7_snapshot
        simp (disch := first | omega | assumption) only [l_0, l_1, l_2, l_3, l_4, l_5, l_6, l_7, l_8, l_11, l_12, l_15, l_16, l_31, l_32, l_66, l_80, l_100, l_127, l_128, l_768, l_2304, l_2310, l_2316, l_2388, l_2394, l_2406, l_2418, l_2430, l_2558, l_2686, l_2814, l_2942, l_3070, l_3390, l_3394, l_3395, l_3396, l_3397, n_leT, n_leF, n_ltT, n_ltF, n_eqT, n_eqF, nI_add, pk_mul, n_sub, z_ldn, z_san, z_bs, z_b2s, z_b3s, z_ocN, z_ocS, z_oxL, z_oxR, z_scL, z_scR, ↓reduceIte, st_170, st_171, st_172, st_173, Nat.zero_add, Nat.add_zero, Nat.zero_lt_succ, true_and, and_true, eq_self, hfs, mSet_ok hN1 hd h1, n_m1lt, mFits2]
  · refine mutNo h (k := nI 1) (b := nI 0) (by decide) ?_ ?_
    · unfold fX6_snapshot
      simp (disch := first | omega | assumption) only [l_0, l_1, l_2, l_3, l_4, l_5, l_6, l_7, l_8, l_11, l_12, l_15, l_16, l_31, l_32, l_66, l_80, l_100, l_127, l_128, l_768, l_2304, l_2310, l_2316, l_2388, l_2394, l_2406, l_2418, l_2430, l_2558, l_2686, l_2814, l_2942, l_3070, l_3390, l_3394, l_3395, l_3396, l_3397, n_leT, n_leF, n_ltT, n_ltF, n_eqT, n_eqF, nI_add, pk_mul, n_sub, z_ldn, z_san, z_bs, z_b2s, z_b3s, z_ocN, z_ocS, z_oxL, z_oxR, z_scL, z_scR, ↓reduceIte, st_170, st_171, st_172, st_173, Nat.zero_add, Nat.add_zero, Nat.zero_lt_succ, true_and, and_true, eq_self, cDs_no hR.2.1 h1]
    · unfold fX7_snapshot
      by_cases q : lfv (lfS S 12) < nI 0 <;> simp (disch := first | omega | assumption) only [l_0, l_1, l_2, l_3, l_4, l_5, l_6, l_7, l_8, l_11, l_12, l_15, l_16, l_31, l_32, l_66, l_80, l_100, l_127, l_128, l_768, l_2304, l_2310, l_2316, l_2388, l_2394, l_2406, l_2418, l_2430, l_2558, l_2686, l_2814, l_2942, l_3070, l_3390, l_3394, l_3395, l_3396, l_3397, n_leT, n_leF, n_ltT, n_ltF, n_eqT, n_eqF, nI_add, pk_mul, n_sub, z_ldn, z_san, z_bs, z_b2s, z_b3s, z_ocN, z_ocS, z_oxL, z_oxR, z_scL, z_scR, ↓reduceIte, st_170, st_171, st_172, st_173, Nat.zero_add, Nat.add_zero, Nat.zero_lt_succ, true_and, and_true, eq_self, hfs, mSet_no hN1 h1, q, mFits1]
