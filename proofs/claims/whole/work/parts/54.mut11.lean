theorem mPr {n : Nat} {Ms : zM} {S rk : Nat → Nat} (hI : z_I n S) (hN : z_N (Ms 170) S) {d o p s c c2 : Nat} (hd : d < 6) (ho : o < 6) (hne : d ≠ o) (hdx : S (2304 + d) = 1) (hs : s < 12) (hso : S (2418 + s) = o) (hcc : c = S (2388 + d)) (hcc2 : c2 = S (2388 + o)) (hp : p < c2) (hop : z_ord S o p = s) (hor : S (2310 + d) = s + 1) (hrk : ∀ t, t < 12 → S (2394 + t) ≠ 0 → rk t < S (2388 + S (2418 + t)) ∧ z_ord S (S (2418 + t)) (rk t) = t) : ∃ M9, fX7_promote 169 (nI d) Ms = some (nI (c + (p + 1)), M9) ∧ z_N (M9 170) (prS S rk d o p s c c2) ∧ (∀ k, 2430 ≤ k → M9 170 k = Ms 170 k) ∧ ∀ a, a ≠ 170 → M9 a = z_st Ms 169 4 (nI 0) a := by
  have hN2 := N1 hN
  have hc12 := own2 hI hd ho hne
  rw [← hcc, ← hcc2] at hc12
  have hplo := rk_pl hI ho hrk
  rw [← hcc2] at hplo
  obtain ⟨_, oo⟩ := I_ord hI o ho
  rw [← hcc2] at oo
  obtain ⟨Mm, hMm⟩ : ∃ Mm, Mm = z_st Ms 169 4 (nI 0) := ⟨_, rfl⟩
  have hMm170 : Mm 170 = Ms 170 := by rw [hMm]; rfl
  have hNm : ∀ k, k < 2430 → Mm 170 k = nI (S k) := fun k hk => by rw [hMm170]; exact hN2 k hk
  -- d's order moves up
  obtain ⟨M1, e1, e2, e3⟩ := z_loopF (f := fun x : Int32 × zM => fX7_promote_L1 169 (nI d) (nI p) x.1 x.2) (fun i s => s.1 = nI (c - i) - nI 1 ∧ (∀ a, a ≠ 170 → s.2 a = Mm a) ∧ ∀ k, s.2 170 k = if 2316 + 12 * d + (p + 1) + (c - i) ≤ k ∧ k < 2316 + 12 * d + (p + 1) + c then nI (S (2316 + 12 * d + (k - (2316 + 12 * d + (p + 1))))) else Mm 170 k) (fun r => (∀ a, a ≠ 170 → r a = Mm a) ∧ ∀ k, r 170 k = if 2316 + 12 * d + (p + 1) ≤ k ∧ k < 2316 + 12 * d + (p + 1) + c then nI (S (2316 + 12 * d + (k - (2316 + 12 * d + (p + 1))))) else Mm 170 k) c (s := (nI c - nI 1, Mm)) (by omega) (fun i x hi hI9 => by
      obtain ⟨x1, M'⟩ := x
      have b1 : x1 = nI (c - i) - nI 1 := hI9.1
      have b2 : ∀ a, a ≠ 170 → M' a = Mm a := hI9.2.1
      have b3 : ∀ k, M' 170 k = if 2316 + 12 * d + (p + 1) + (c - i) ≤ k ∧ k < 2316 + 12 * d + (p + 1) + c then nI (S (2316 + 12 * d + (k - (2316 + 12 * d + (p + 1))))) else Mm 170 k := hI9.2.2
      clear hI9
      by_cases q : i = c
      · refine Or.inr ⟨M', ?_, b2, fun k => ?_⟩
        · rw [b1, q, Nat.sub_self]
          simp (disch := first | omega | assumption) only [l_0, l_1, l_2, l_3, l_4, l_5, l_6, l_7, l_8, l_11, l_12, l_15, l_16, l_31, l_32, l_66, l_80, l_100, l_127, l_128, l_768, l_2304, l_2310, l_2316, l_2388, l_2394, l_2406, l_2418, l_2430, l_2558, l_2686, l_2814, l_2942, l_3070, l_3390, l_3394, l_3395, l_3396, l_3397, n_leT, n_leF, n_ltT, n_ltF, n_eqT, n_eqF, nI_add, pk_mul, n_sub, z_ldn, z_san, z_bs, z_b2s, z_b3s, z_ocN, z_ocS, z_oxL, z_oxR, z_scL, z_scR, ↓reduceIte, st_170, st_171, st_172, st_173, Nat.zero_add, Nat.add_zero, Nat.zero_lt_succ, true_and, and_true, eq_self, fX7_promote_L1, n_m0a]
        · rw [b3 k, q, Nat.sub_self, Nat.add_zero]
      · obtain ⟨w, hw⟩ : ∃ w, w = c - (i + 1) := ⟨_, rfl⟩
        have e1 : nI (c - i) - nI 1 = nI w := by rw [n_sub (by omega)]; congr 1; omega
        rw [e1] at b1
        subst b1
        have c1 : M' (169 + 1) (2316 + 12 * d + w) = nI (S (2316 + 12 * d + w)) := by
          rw [show M' (169 + 1) = M' 170 from rfl, b3, if_neg (by omega)]
          exact hNm _ (by omega)
        refine Or.inl ⟨by omega, (nI w + -nI 1, z_st M' (169 + 1) (2316 + 12 * d + w + (p + 1)) (nI (S (2316 + 12 * d + w)))), ?_, ?_, fun a ha => by show z_st M' (169 + 1) _ _ a = _; rw [s_n ha]; exact b2 a ha, fun k => ?_⟩
        · simp (disch := first | omega | assumption) only [l_0, l_1, l_2, l_3, l_4, l_5, l_6, l_7, l_8, l_11, l_12, l_15, l_16, l_31, l_32, l_66, l_80, l_100, l_127, l_128, l_768, l_2304, l_2310, l_2316, l_2388, l_2394, l_2406, l_2418, l_2430, l_2558, l_2686, l_2814, l_2942, l_3070, l_3390, l_3394, l_3395, l_3396, l_3397, n_leT, n_leF, n_ltT, n_ltF, n_eqT, n_eqF, nI_add, pk_mul, n_sub, z_ldn, z_san, z_bs, z_b2s, z_b3s, z_ocN, z_ocS, z_oxL, z_oxR, z_scL, z_scR, ↓reduceIte, st_170, st_171, st_172, st_173, Nat.zero_add, Nat.add_zero, Nat.zero_lt_succ, true_and, and_true, eq_self, fX7_promote_L1, c1]
        · show nI w + -nI 1 = nI (c - (i + 1)) - nI 1
          rw [← hw, Int32.sub_eq_add_neg]
        · show z_st M' (169 + 1) (2316 + 12 * d + w + (p + 1)) (nI (S (2316 + 12 * d + w))) (169 + 1) k = _
          rw [s_s]
          by_cases y : k = 2316 + 12 * d + w + (p + 1)
          · rw [y, u_s, if_pos (by omega)]
            congr 2
            omega
          · rw [u_n y, show M' (169 + 1) = M' 170 from rfl, b3 k]
            by_cases y2 : 2316 + 12 * d + (p + 1) + (c - i) ≤ k ∧ k < 2316 + 12 * d + (p + 1) + c
            · rw [if_pos y2, if_pos (by omega)]
            · rw [if_neg y2, if_neg (by omega)]) ⟨by rw [Nat.sub_zero], fun _ _ => rfl, fun k => by rw [if_neg (by omega)]⟩
  -- the first of o's order
  obtain ⟨M2, g1, g2, g3, g4⟩ := z_loopM (f := fun x : Int32 × zM => fX7_promote_L2 169 (nI d) (nI o) (nI p) x.1 x.2) (fun i M' => (∀ a, a ≠ 170 → M' a = Mm a) ∧ (∀ k, k < 2418 ∨ 2430 ≤ k → M' 170 k = if 2316 + 12 * d ≤ k ∧ k < 2316 + 12 * d + i then nI (S (2316 + 12 * o + (k - (2316 + 12 * d)))) else M1 170 k) ∧ ∀ t, t < 12 → M' 170 (2418 + t) = nI (if prW' S rk o i t then d else S (2418 + t))) (fun M' => (∀ a, a ≠ 170 → M' a = Mm a) ∧ (∀ k, k < 2418 ∨ 2430 ≤ k → M' 170 k = if 2316 + 12 * d ≤ k ∧ k < 2316 + 12 * d + (p + 1) then nI (S (2316 + 12 * o + (k - (2316 + 12 * d)))) else M1 170 k) ∧ ∀ t, t < 12 → M' 170 (2418 + t) = nI (if prW' S rk o (p + 1) t then d else S (2418 + t))) 0 (p + 1) (by omega) (s := nI 0) (M := M1) rfl ⟨e2, fun k _ => by rw [if_neg (by omega)], fun t ht => by
      rw [e3, if_neg (by omega), if_neg (fun x => absurd x.2.2 (Nat.not_lt_zero _))]
      exact hNm _ (by omega)⟩ (fun i M' hi hI9 => by
      obtain ⟨b1, b2, b3⟩ := hI9
      obtain ⟨k1, k2, k3⟩ := oo i (by omega)
      have kr := hplo i (by omega)
      obtain ⟨u, hu⟩ : ∃ u, u = z_ord S o i := ⟨_, rfl⟩
      rw [← hu] at k1 k2 k3 kr
      have c1 : M' (169 + 1) (2316 + 12 * o + i) = nI u := by
        rw [show M' (169 + 1) = M' 170 from rfl, b2 _ (by omega), if_neg (by omega), e3, if_neg (by omega), hu]
        exact hNm _ (by omega)
      refine ⟨z_st (z_st M' (169 + 1) (2316 + 12 * d + i) (nI u)) (169 + 1) (2418 + u) (nI d), ?_, fun a ha => by rw [s_n ha, s_n ha]; exact b1 a ha, fun k hk => ?_, fun t ht => ?_⟩
      · simp (disch := first | omega | assumption) only [l_0, l_1, l_2, l_3, l_4, l_5, l_6, l_7, l_8, l_11, l_12, l_15, l_16, l_31, l_32, l_66, l_80, l_100, l_127, l_128, l_768, l_2304, l_2310, l_2316, l_2388, l_2394, l_2406, l_2418, l_2430, l_2558, l_2686, l_2814, l_2942, l_3070, l_3390, l_3394, l_3395, l_3396, l_3397, n_leT, n_leF, n_ltT, n_ltF, n_eqT, n_eqF, nI_add, pk_mul, n_sub, z_ldn, z_san, z_bs, z_b2s, z_b3s, z_ocN, z_ocS, z_oxL, z_oxR, z_scL, z_scR, ↓reduceIte, st_170, st_171, st_172, st_173, Nat.zero_add, Nat.add_zero, Nat.zero_lt_succ, true_and, and_true, eq_self, fX7_promote_L2, c1]
      · rw [show (170 : Nat) = 169 + 1 from rfl, s_s, s_s, u_n (by omega)]
        by_cases y : k = 2316 + 12 * d + i
        · rw [y, u_s, if_pos (by omega), hu]
          unfold z_ord
          congr 2
          omega
        · rw [u_n y, show M' (169 + 1) = M' 170 from rfl, b2 k hk]
          by_cases y2 : 2316 + 12 * d ≤ k ∧ k < 2316 + 12 * d + i
          · rw [if_pos y2, if_pos (by omega)]
          · rw [if_neg y2, if_neg (by omega)]
      · rw [show (170 : Nat) = 169 + 1 from rfl, s_s, s_s]
        by_cases y : t = u
        · rw [y, u_s, if_pos ⟨k2, k3, by omega⟩]
        · rw [u_n (by omega), u_n (by omega), show M' (169 + 1) = M' 170 from rfl, b3 t ht]
          congr 1
          by_cases z : prW' S rk o i t
          · rw [if_pos z, if_pos ⟨z.1, z.2.1, by have := z.2.2; omega⟩]
          · rw [if_neg z, if_neg]
            intro x
            refine z ⟨x.1, x.2.1, ?_⟩
            have x3 := x.2.2
            have : rk t ≠ i := fun w => by
              have := (hrk t ht x.1).2
              rw [x.2.1, w, ← hu] at this
              exact y this.symm
            omega) (fun M' hI9 => ⟨M', by simp (disch := first | omega | assumption) only [l_0, l_1, l_2, l_3, l_4, l_5, l_6, l_7, l_8, l_11, l_12, l_15, l_16, l_31, l_32, l_66, l_80, l_100, l_127, l_128, l_768, l_2304, l_2310, l_2316, l_2388, l_2394, l_2406, l_2418, l_2430, l_2558, l_2686, l_2814, l_2942, l_3070, l_3390, l_3394, l_3395, l_3396, l_3397, n_leT, n_leF, n_ltT, n_ltF, n_eqT, n_eqF, nI_add, pk_mul, n_sub, z_ldn, z_san, z_bs, z_b2s, z_b3s, z_ocN, z_ocS, z_oxL, z_oxR, z_scL, z_scR, ↓reduceIte, st_170, st_171, st_172, st_173, Nat.zero_add, Nat.add_zero, Nat.zero_lt_succ, true_and, and_true, eq_self, fX7_promote_L2], hI9⟩)
  have hM2k : ∀ k, 2430 ≤ k → M2 170 k = Ms 170 k := fun k hk => by rw [g3 k (by omega), if_neg (by omega), e3, if_neg (by omega), hMm170]
  have hC : z_N (M2 170) (prC S rk d o p c (p + 1)) := by
    have hi : ∀ k, 2430 ≤ k → prC S rk d o p c (p + 1) k = S k := fun k hk => by
      unfold prC prB prA
      rw [if_neg (by omega), rng_out (by omega), rng_out (by omega)]
    refine ⟨fun k hk => ?_, fun k k1 k2 => by rw [hM2k k (by omega), hi k (by omega)]; exact hN.2.1 k k1 k2, fun k k1 k2 => by rw [hM2k k (by omega), hi k (by omega)]; exact hN.2.2 k k1 k2⟩
    by_cases q : 2418 ≤ k
    · obtain ⟨t, ht, rfl⟩ : ∃ t, t < 12 ∧ k = 2418 + t := ⟨k - 2418, by omega, by omega⟩
      rw [g4 t ht]
      unfold prC
      congr 1
      by_cases z : prW' S rk o (p + 1) t
      · rw [if_pos z, if_pos ⟨by omega, by omega, by rw [Nat.add_sub_cancel_left]; exact z⟩]
      · rw [if_neg z, if_neg (fun x => z (by have := x.2.2; rw [Nat.add_sub_cancel_left] at this; exact this))]
        unfold prB prA
        rw [rng_out (by omega), rng_out (by omega)]
    · rw [g3 k (by omega)]
      unfold prC prB prA
      rw [if_neg (show ¬ (2418 ≤ k ∧ k < 2430 ∧ prW' S rk o (p + 1) (k - 2418)) from fun x => q x.1)]
      by_cases z : 2316 + 12 * d ≤ k ∧ k < 2316 + 12 * d + (p + 1)
      · rw [if_pos z, rng_in z.1 z.2]
      · rw [if_neg z, rng_out (by omega), e3 k]
        by_cases z2 : 2316 + 12 * d + (p + 1) ≤ k ∧ k < 2316 + 12 * d + (p + 1) + c
        · rw [if_pos z2, rng_in z2.1 z2.2]
        · rw [if_neg z2, rng_out (by omega)]
          exact hNm k hk
  have cd : M2 (169 + 1) (2388 + d) = nI c := by
    rw [show M2 (169 + 1) = M2 170 from rfl, g3 _ (by omega), if_neg (by omega), e3, if_neg (by omega), hcc]
    exact hNm _ (by omega)
  obtain ⟨M20, hM20⟩ : ∃ M20, M20 = z_st M2 (169 + 1) (2388 + d) (nI (c + (p + 1))) := ⟨_, rfl⟩
  have hM20r : M20 (169 + 1) = upd (M2 170) (2388 + d) (nI (c + (p + 1))) := by rw [hM20, s_s]
  have co : M20 (169 + 1) (2388 + o) = nI c2 := by
    rw [hM20r, u_n (by omega), g3 _ (by omega), if_neg (by omega), e3, if_neg (by omega), hcc2]
    exact hNm _ (by omega)
  obtain ⟨M22, hM22⟩ : ∃ M22, M22 = z_st M20 (169 + 1) (2388 + o) (nI (c2 - (p + 1))) := ⟨_, rfl⟩
  have hM22r : M22 (169 + 1) = upd (upd (M2 170) (2388 + d) (nI (c + (p + 1)))) (2388 + o) (nI (c2 - (p + 1))) := by rw [hM22, s_s, hM20r]
  obtain ⟨M25, u1, u2, u3⟩ := z_loopR2 (f := fun x : Int32 × zM => fX7_promote_L3 169 (nI o) (nI p) x.1 x.2) (169 + 1) (2316 + 12 * o) 0 (c2 - (p + 1)) (fun j => nI (S (2316 + 12 * o + j + (p + 1)))) (by omega) (s := nI 0) (M := M22) rfl (fun j M' hj _ q2 => by
      have c1 : M' (169 + 1) (2388 + o) = nI (c2 - (p + 1)) := by rw [q2, if_neg (by omega), hM22r, u_s]
      have c2 : M' (169 + 1) (2316 + 12 * o + j + (p + 1)) = nI (S (2316 + 12 * o + j + (p + 1))) := by
        rw [q2, if_neg (by omega), hM22r, u_n (by omega), u_n (by omega), g3 _ (by omega), if_neg (by omega), e3, if_neg (by omega)]
        exact hNm _ (by omega)
      simp (disch := first | omega | assumption) only [l_0, l_1, l_2, l_3, l_4, l_5, l_6, l_7, l_8, l_11, l_12, l_15, l_16, l_31, l_32, l_66, l_80, l_100, l_127, l_128, l_768, l_2304, l_2310, l_2316, l_2388, l_2394, l_2406, l_2418, l_2430, l_2558, l_2686, l_2814, l_2942, l_3070, l_3390, l_3394, l_3395, l_3396, l_3397, n_leT, n_leF, n_ltT, n_ltF, n_eqT, n_eqF, nI_add, pk_mul, n_sub, z_ldn, z_san, z_bs, z_b2s, z_b3s, z_ocN, z_ocS, z_oxL, z_oxR, z_scL, z_scR, ↓reduceIte, st_170, st_171, st_172, st_173, Nat.zero_add, Nat.add_zero, Nat.zero_lt_succ, true_and, and_true, eq_self, fX7_promote_L3, c1, c2]) (fun M' q2 => by
      have c1 : M' (169 + 1) (2388 + o) = nI (c2 - (p + 1)) := by rw [q2, if_neg (by omega), hM22r, u_s]
      simp (disch := first | omega | assumption) only [l_0, l_1, l_2, l_3, l_4, l_5, l_6, l_7, l_8, l_11, l_12, l_15, l_16, l_31, l_32, l_66, l_80, l_100, l_127, l_128, l_768, l_2304, l_2310, l_2316, l_2388, l_2394, l_2406, l_2418, l_2430, l_2558, l_2686, l_2814, l_2942, l_3070, l_3390, l_3394, l_3395, l_3396, l_3397, n_leT, n_leF, n_ltT, n_ltF, n_eqT, n_eqF, nI_add, pk_mul, n_sub, z_ldn, z_san, z_bs, z_b2s, z_b3s, z_ocN, z_ocS, z_oxL, z_oxR, z_scL, z_scR, ↓reduceIte, st_170, st_171, st_172, st_173, Nat.zero_add, Nat.add_zero, Nat.zero_lt_succ, true_and, and_true, eq_self, fX7_promote_L3, c1])
  have hE : z_N (M25 170) (prE S rk d o p c c2) := by
    have hD : z_N (M22 (169 + 1)) (prD S rk d o p c c2) := by
      rw [hM22r]
      exact z_N_up (z_N_up hC)
    exact z_N_rng hD u3
  have cor : M25 (169 + 1) (2310 + o) = nI (S (2310 + o)) := by
    rw [u3, if_neg (by omega), hM22r, u_n (by omega), u_n (by omega), g3 _ (by omega), if_neg (by omega), e3, if_neg (by omega)]
    exact hNm _ (by omega)
  obtain ⟨M9, hM9⟩ : ∃ M9, M9 = z_st (z_st M25 (169 + 1) (2310 + d) (nI (S (2310 + o)))) (169 + 1) (2310 + o) (nI (s + 1)) := ⟨_, rfl⟩
  have hM9r : M9 170 = upd (upd (M25 170) (2310 + d) (nI (S (2310 + o)))) (2310 + o) (nI (s + 1)) := by rw [hM9, show (170 : Nat) = 169 + 1 from rfl, s_s, s_s]
  have c9 : M9 (169 + 1) (2388 + d) = nI (c + (p + 1)) := by
    rw [show M9 (169 + 1) = M9 170 from rfl, hM9r, u_n (by omega), u_n (by omega), show M25 170 (2388 + d) = _ from u3 (2388 + d), if_neg (by omega), hM22r, u_n (by omega), u_s]
  refine ⟨M9, ?_, ?_, fun k hk => ?_, fun a ha => ?_⟩
  · unfold fX7_promote
    have k1 := hN2 (2310 + d) (by omega)
    rw [hor] at k1
    have k1' : Mm (169 + 1) (2310 + d) = nI (s + 1) := by rw [show Mm (169 + 1) = Mm 170 from rfl, hMm170]; exact k1
    have k2 : Mm (169 + 1) (2418 + s) = nI o := by rw [← hso]; exact hNm _ (by omega)
    have k3 : Mm (169 + 1) (2388 + d) = nI c := by rw [hcc]; exact hNm _ (by omega)
    have hpl := mPl (M := Mm) (S := S) hNm hs hso ho (by omega) (by omega) hop (fun r hr => ⟨fun x => by
      have := I_inj2 hI ho (r := r) (q := p) (by omega) (by omega) (by rw [x, hop])
      omega, (oo r (by omega)).1⟩)
    simp (disch := first | omega | assumption) only [l_0, l_1, l_2, l_3, l_4, l_5, l_6, l_7, l_8, l_11, l_12, l_15, l_16, l_31, l_32, l_66, l_80, l_100, l_127, l_128, l_768, l_2304, l_2310, l_2316, l_2388, l_2394, l_2406, l_2418, l_2430, l_2558, l_2686, l_2814, l_2942, l_3070, l_3390, l_3394, l_3395, l_3396, l_3397, n_leT, n_leF, n_ltT, n_ltF, n_eqT, n_eqF, nI_add, pk_mul, n_sub, z_ldn, z_san, z_bs, z_b2s, z_b3s, z_ocN, z_ocS, z_oxL, z_oxR, z_scL, z_scR, ↓reduceIte, st_170, st_171, st_172, st_173, Nat.zero_add, Nat.add_zero, Nat.zero_lt_succ, true_and, and_true, eq_self, mSet_ok hN2 hd hdx, k1, mFits0, ← hMm, k1', Nat.add_sub_cancel, k2, hpl, k3, e1, g1, cd, ← hM20, co, ← hM22, u1, cor, ← hM9, c9]
  · rw [hM9r]
    exact z_N_up (z_N_up hE)
  · rw [hM9r, u_n (by omega), u_n (by omega), show M25 170 k = _ from u3 k, if_neg (by omega), hM22r, u_n (by omega), u_n (by omega)]
    exact hM2k k hk
  · rw [hM9, s_n ha, s_n ha, u2 a ha, hM22, s_n ha, hM20, s_n ha, g2 a ha, hMm]
