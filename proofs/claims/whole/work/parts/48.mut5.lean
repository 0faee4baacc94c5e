/-! ===== destroySnapshot ===== -/
theorem z_rk {V n : Nat} {M : zM} {S : Nat → Nat} (hR : R_sn V M S) (hIs : z_Is n S) : ∃ rk : Nat → Nat, y_sl V M (fun t => if S (2394 + t) = 0 then 0 else 1) (fun t => S (2418 + t)) rk ∧ ∀ t, t < 12 → S (2394 + t) ≠ 0 → rk t < S (2388 + S (2418 + t)) ∧ z_ord S (S (2418 + t)) (rk t) = t := by
  have hch : ∀ t, ∃ r, t < 12 → S (2394 + t) ≠ 0 → M (V + 27 + 3 * t) 4 = nI r ∧ r < S (2388 + S (2418 + t)) ∧ z_ord S (S (2418 + t)) r = t := fun t => by
    by_cases q : t < 12 ∧ S (2394 + t) ≠ 0
    · obtain ⟨_, _, _, r, h⟩ := (hR t q.1).2 q.2
      exact ⟨r, fun _ _ => h⟩
    · exact ⟨0, fun h1 h2 => absurd ⟨h1, h2⟩ q⟩
  obtain ⟨rk, hrk⟩ := Classical.axiomOfChoice hch
  refine ⟨rk, fun t ht => ⟨(hR t ht).1, ?_, fun q => ?_⟩, fun t ht q => (hrk t ht q).2⟩
  · show (if S (2394 + t) = 0 then 0 else 1) ≤ 1
    split <;> omega
  · have q1 : S (2394 + t) ≠ 0 := fun c => q (if_pos c)
    have c1 := (hIs.2.2.2.1 t ht q1).2.1
    have c2 := (hIs.2.2.2.2.2.1 _ c1).1
    have c3 := hrk t ht q1
    exact ⟨((hR t ht).2 q1).2.1, c1, c3.1, by omega⟩
theorem R_sn_of {V : Nat} {M : zM} {S ex ow rk : Nat → Nat} (h : y_sl V M ex ow rk) (hN : ∀ t, t < 12 → (S (2394 + t) = 0 ↔ ex t = 0)) (h2 : ∀ t, t < 12 → ex t ≠ 0 → M (V + 27 + 3 * t) 2 = nI (S (2394 + t) - 1) ∧ M (V + 27 + 3 * t) 5 = nI (S (2406 + t)) ∧ S (2418 + t) = ow t ∧ rk t < S (2388 + ow t) ∧ z_ord S (ow t) (rk t) = t) : R_sn V M S := fun t ht => by
  obtain ⟨a1, a2, a3⟩ := h t ht
  refine ⟨?_, fun q => ?_⟩
  · rw [a1]
    by_cases q : S (2394 + t) = 0
    · rw [if_pos q, (hN t ht).mp q]
    · have hx : ex t ≠ 0 := fun c => q ((hN t ht).mpr c)
      rw [if_neg q]
      exact congrArg nI (by omega)
  · have q1 : ex t ≠ 0 := fun c => q ((hN t ht).mpr c)
    obtain ⟨b1, b2, b3, b4, b5⟩ := h2 t ht q1
    obtain ⟨c1, c2, c3, c4⟩ := a3 q1
    exact ⟨b1, by rw [b3]; exact c1, b2, rk t, c3, by rw [b3]; exact b4, by rw [b3]; exact b5⟩
theorem op_16 {n : Nat} (hn : n < 512) {M : zM} (h : z_P n M) (a1 a2 a3 a4 a5 a6 : Int32) : ∃ M9, fL_c16 a1 a2 a3 a4 a5 a6 M = some (1, M9) ∧ z_P (n + 1) M9 := by
  obtain ⟨S, S0, hN, hN0, hR, hR0, hI, hI0, hB, hB0⟩ := id h
  unfold fL_c16 fL_destroySnapshot
  have hN1 := N1 hN
  have hb := hb30 hI hn
  rcases sn_cases (S := S) a1 with ⟨s, hs, h1, rfl⟩ | h1
  · have hor := cOr hR.2.1 hI.1 (by omega) hs h1
    by_cases h2 : orN S s 6 = 0
    · have hno := orN_0.mp h2
      rw [h2] at hor
      obtain ⟨rk, hsl, hrk⟩ := z_rk hR.2.2.1 hI.1
      obtain ⟨o, hoo⟩ : ∃ o, o = S (2418 + s) := ⟨_, rfl⟩
      obtain ⟨p, hpp⟩ : ∃ p, p = rk s := ⟨_, rfl⟩
      obtain ⟨hp, he⟩ := hrk s hs h1
      rw [← hpp, ← hoo] at hp he
      have ho6 : o < 6 := by rw [hoo]; exact (I_liv hI s hs h1).2.1
      obtain ⟨hc, hord⟩ := I_ord hI o ho6
      have hne : ∀ r, r < p → z_ord S o r ≠ s ∧ z_ord S o r < 12 := fun r hr => ⟨fun c => by
        have := I_inj2 hI ho6 (r := r) (q := p) (by omega) hp (by rw [c, he])
        omega, (hord r (by omega)).1⟩
      obtain ⟨S1, hS1⟩ : ∃ S1, S1 = dropS S o p s := ⟨_, rfl⟩
      have hIs1 : z_Is n S1 := by
        rw [hS1]
        exact z_Is_drop hI.1 hs h1 hoo.symm hp he hno
      have sT : ∀ k, k < 2304 → S1 k = if 768 + 128 * s ≤ k ∧ k < 768 + 128 * s + 128 then 0 else S k := fun k hk => by rw [hS1]; exact dr_T hs hk
      have sE : ∀ k, 2304 ≤ k → k < 2316 → S1 k = S k := fun k k1 k2 => by rw [hS1]; exact dr_E hs k1 k2
      have sN : ∀ t, t < 12 → S1 (2394 + t) = if t = s then 0 else S (2394 + t) := fun t ht => by rw [hS1]; exact dr_N ho6 hs hc ht
      have sC : ∀ d, d < 6 → S1 (2388 + d) = if d = o then S (2388 + o) - 1 else S (2388 + d) := fun d hd => by rw [hS1]; exact dr_C ho6 hs hc hd
      have sO : ∀ d r, d < 6 → r < 12 → z_ord S1 d r = if d = o ∧ p ≤ r ∧ r < S (2388 + o) - 1 then z_ord S o (r + 1) else z_ord S d r := fun d r hd hr => by rw [hS1]; exact dr_O ho6 hs hc hd hr
      have sR : ∀ k, 2406 ≤ k → S1 k = S k := fun k hk => by rw [hS1]; exact dr_R ho6 hs hc hk
      have hQ := z_Q_of hR hI
      have hex : (fun t => if S (2394 + t) = 0 then 0 else 1) s ≠ 0 := by
        show (if S (2394 + s) = 0 then 0 else 1) ≠ 0
        rw [if_neg h1]
        decide
      obtain ⟨M1, e1, e2, e3, e4, e5⟩ := cDrop hQ.1 hsl hs hex
      have fM : ∀ a, a ≠ 1 + 3 + 4 → a ≠ 1 + 9 + 3 * (6 + s) + 1 + 1 → (∀ t, t < 12 → a ≠ 1 + 27 + 3 * t) → M1 a = M a := e5
      have hsn : R_sn 1 M1 S1 := R_sn_of e2 (fun t ht => by
          rw [sN t ht]
          unfold updN
          by_cases c : t = s
          · rw [if_pos c, if_pos c]
          · rw [if_neg c, if_neg c]
            show S (2394 + t) = 0 ↔ (if S (2394 + t) = 0 then 0 else 1) = 0
            by_cases c2 : S (2394 + t) = 0
            · rw [if_pos c2, c2]
            · rw [if_neg c2]
              exact ⟨fun x => absurd x c2, fun x => absurd x (by decide)⟩) (fun t ht q => by
          have c : t ≠ s := fun c => q (by rw [c]; exact upN_s)
          rw [upN_n c] at q
          have c2 : S (2394 + t) ≠ 0 := fun x => q (if_pos x)
          obtain ⟨k1, k2⟩ := hrk t ht c2
          obtain ⟨l1, l2, l3, _⟩ := (hR.2.2.1 t ht).2 c2
          have l4 := (I_liv hI t ht c2).2.1
          have l5 := (I_ord hI _ l4).1
          rw [e4 t 2 ht (by decide) (by decide), e4 t 5 ht (by decide) (by decide), sN t ht, if_neg c, sR _ (by omega), sR _ (by omega)]
          refine ⟨l1, l3, rfl, ?_⟩
          show (if (if S (2394 + t) = 0 then 0 else 1) ≠ 0 ∧ S (2418 + t) = S (2418 + s) ∧ rk s < rk t then rk t - 1 else rk t) < S1 (2388 + S (2418 + t)) ∧ z_ord S1 (S (2418 + t)) (if (if S (2394 + t) = 0 then 0 else 1) ≠ 0 ∧ S (2418 + t) = S (2418 + s) ∧ rk s < rk t then rk t - 1 else rk t) = t
          rw [sC _ l4, ← hoo, ← hpp]
          by_cases w : S (2418 + t) = o
          · rw [w] at k1 k2 l5 ⊢
            rw [if_pos rfl]
            have hrp : rk t ≠ p := fun x => c (by rw [← k2, x, he])
            by_cases w2 : p < rk t
            · rw [if_pos ⟨q, rfl, w2⟩, sO o _ ho6 (by omega), if_pos ⟨rfl, by omega, by omega⟩, show rk t - 1 + 1 = rk t by omega]
              exact ⟨by omega, k2⟩
            · rw [if_neg (fun x => w2 x.2.2), sO o _ ho6 (by omega), if_neg (fun x => by omega)]
              exact ⟨by omega, k2⟩
          · rw [if_neg w, if_neg (fun x => w x.2.1), sO _ _ l4 (by omega), if_neg (fun x => w x.1)]
            exact ⟨k1, k2⟩)
      have hQ1 : y_Q 1 M1 (M 170) S1 (z_sta S) := y_Q_gen hQ (z_T_T e3 (fun k hk => by
          rw [sT k hk]
          unfold z_clrT
          rw [show 128 * (6 + s) = 768 + 128 * s by omega])) (fun d hd => by
          have ho : z_onum S1 d = z_onum S d := by
            have q1 := (I_ori hI d hd).1
            have q2 := hno d hd
            unfold z_onum
            rw [sE _ (by omega) (by omega)]
            by_cases q : S (2310 + d) = 0
            · rw [if_pos q, if_pos q]
            · rw [if_neg q, if_neg q, sN _ (by omega), if_neg (by omega)]
          rw [fM _ (by omega) (by omega) (fun t ht => by omega), ho, sE _ (by omega) (by omega)]
          exact hR.2.1 d hd) hsn (R_sc_S (R_sc_cg hR.2.2.2.2.2 (fM _ (by omega) (by omega) (fun t ht => by omega))) (fun k k1 k2 => sR k (by omega))) (fun k k1 k2 => sR k (by omega)) (fun a k1 k2 => fM a (by omega) (by omega) (fun t ht => by omega)) (fun a k1 k2 => fM a (by omega) (by omega) (fun t ht => by omega))
      obtain ⟨⟨M2, g1, g2, g3⟩, g4⟩ := z_set2 hn hQ1 hI hIs1 (fun k hk => by
          rw [sT k hk]
          split
          · exact Or.inl rfl
          · exact Or.inr ⟨k, hk, rfl⟩) (fun d hd q x hx => by
          rw [sT _ (by omega), if_neg (by omega)]
          rw [sE _ (by omega) (by omega)] at q
          exact I_te hI d hd q x hx) (fun t ht q x hx => by
          rw [sT _ (by omega)]
          split
          · rfl
          · rw [sN t ht] at q
            by_cases c : t = s
            · omega
            · rw [if_neg c] at q
              exact I_se hI t ht q x hx) (fun k k1 k2 => sR k (by omega))
      obtain ⟨v, hv⟩ : ∃ v, v = nI (sumN (lostN S1) 128) := ⟨_, rfl⟩
      rw [← hv] at g1
      -- the model
      have hM2 : M2 170 = M 170 := (g3 _ (by decide)).trans (fM _ (by decide) (by omega) (fun t ht => by omega))
      have hN2 := N1' hN (show (z_st M2 174 0 v) 170 = M 170 from hM2)
      obtain ⟨M3, u1, u2, u3, u4⟩ := mDr (M := z_st (z_st M2 174 0 v) 169 4 (nI 0)) (S := S) (by
        show z_N (M2 170) S
        rw [hM2]
        exact hN) hs hoo.symm ho6 hp hc he hne
      rw [← hS1] at u2
      obtain ⟨M4, o1, o2, o3, o4⟩ := m_tabs2 hI hn (fun k k1 k2 => sR k (by omega)) (by rw [sR _ (by omega)]; have := (I_bnd hI).2.1; omega) hQ1.1.2.2 u2
      rw [← hv] at o1
      have hfr : ∀ a, a ≠ 170 → a ≠ 172 → M4 a = z_st (z_st M2 174 0 v) 169 4 (nI 0) a := fun a q1 q2 => by rw [o4 a q1 q2, u4 a q1]
      have hrw : ∀ k, 2430 ≤ k → k < 2686 ∨ 2942 ≤ k → M4 170 k = M 170 k := fun k k1 k2 => by
        rw [o3 k k2, u3 k (by omega)]
        exact congrFun hM2 k
      refine mutOK (M1 := M2) (v := v) (M4 := M4) ?_ ?_ ?_ ?_ (z_fin (N := M 170) hN0 hR0 hI0 hB0 g2 o2 (z_I_mono g4) ?_ ?_ ?_ ?_ ?_ ?_)
      · unfold fX6_destroySnapshot
        simp (disch := first | omega | assumption) only [l_0, l_1, l_2, l_3, l_4, l_5, l_6, l_7, l_8, l_11, l_12, l_15, l_16, l_31, l_32, l_66, l_80, l_100, l_127, l_128, l_768, l_2304, l_2310, l_2316, l_2388, l_2394, l_2406, l_2418, l_2430, l_2558, l_2686, l_2814, l_2942, l_3070, l_3390, l_3394, l_3395, l_3396, l_3397, n_leT, n_leF, n_ltT, n_ltF, n_eqT, n_eqF, nI_add, pk_mul, n_sub, z_ldn, z_san, z_bs, z_b2s, z_b3s, z_ocN, z_ocS, z_oxL, z_oxR, z_scL, z_scR, ↓reduceIte, st_170, st_171, st_172, st_173, Nat.zero_add, Nat.add_zero, Nat.zero_lt_succ, true_and, and_true, eq_self, cSn_ok hR.2.2.1 (I_num hI) hb hs h1, z_gdp (kd1_sn hs), hor, e1, g1]
      · unfold fX7_destroySnapshot
        simp (disch := first | omega | assumption) only [l_0, l_1, l_2, l_3, l_4, l_5, l_6, l_7, l_8, l_11, l_12, l_15, l_16, l_31, l_32, l_66, l_80, l_100, l_127, l_128, l_768, l_2304, l_2310, l_2316, l_2388, l_2394, l_2406, l_2418, l_2430, l_2558, l_2686, l_2814, l_2942, l_3070, l_3390, l_3394, l_3395, l_3396, l_3397, n_leT, n_leF, n_ltT, n_ltF, n_eqT, n_eqF, nI_add, pk_mul, n_sub, z_ldn, z_san, z_bs, z_b2s, z_b3s, z_ocN, z_ocS, z_oxL, z_oxR, z_scL, z_scR, ↓reduceIte, st_170, st_171, st_172, st_173, Nat.zero_add, Nat.add_zero, Nat.zero_lt_succ, true_and, and_true, eq_self, mSlot_ok hN2 (I_num hI) hb hs h1, mOr hN2 hI.1 hs, h2, mFits0, u1, o1]
      · rw [hfr _ (by decide) (by decide), s_s, u_s]
      · rw [hfr _ (by decide) (by decide), s_n (by decide), s_s, u_s]
      · intro b hb
        rw [y_mk_o (by omega), sR _ (by omega)]
        exact hB b hb
      · exact fun k k1 k2 => hrw k k1 (by omega)
      · exact fun k k1 k2 => hrw k (by omega) (by omega)
      · intro a ha
        rw [hfr a (by omega) (by omega), s_n (by omega), s_n (by omega)]
      · exact (g3 _ (by decide)).trans (fM _ (by decide) (by omega) (fun t ht => by omega))
      · intro a a1 a2
        rw [g3 a (by omega), fM a (by omega) (by omega) (fun t ht => by omega)]
    · have h3 : orN S s 6 = 1 := by have := orN_1 (S := S) (s := s) (i := 6); omega
      rw [h3] at hor
      refine mutNo h (k := nI 2) (b := nI 0) (by decide) ?_ ?_
      · unfold fX6_destroySnapshot
        simp (disch := first | omega | assumption) only [l_0, l_1, l_2, l_3, l_4, l_5, l_6, l_7, l_8, l_11, l_12, l_15, l_16, l_31, l_32, l_66, l_80, l_100, l_127, l_128, l_768, l_2304, l_2310, l_2316, l_2388, l_2394, l_2406, l_2418, l_2430, l_2558, l_2686, l_2814, l_2942, l_3070, l_3390, l_3394, l_3395, l_3396, l_3397, n_leT, n_leF, n_ltT, n_ltF, n_eqT, n_eqF, nI_add, pk_mul, n_sub, z_ldn, z_san, z_bs, z_b2s, z_b3s, z_ocN, z_ocS, z_oxL, z_oxR, z_scL, z_scR, ↓reduceIte, st_170, st_171, st_172, st_173, Nat.zero_add, Nat.add_zero, Nat.zero_lt_succ, true_and, and_true, eq_self, cSn_ok hR.2.2.1 (I_num hI) hb hs h1, z_gdp (kd1_sn hs), hor]
        rfl
      · unfold fX7_destroySnapshot
        simp (disch := first | omega | assumption) only [l_0, l_1, l_2, l_3, l_4, l_5, l_6, l_7, l_8, l_11, l_12, l_15, l_16, l_31, l_32, l_66, l_80, l_100, l_127, l_128, l_768, l_2304, l_2310, l_2316, l_2388, l_2394, l_2406, l_2418, l_2430, l_2558, l_2686, l_2814, l_2942, l_3070, l_3390, l_3394, l_3395, l_3396, l_3397, n_leT, n_leF, n_ltT, n_ltF, n_eqT, n_eqF, nI_add, pk_mul, n_sub, z_ldn, z_san, z_bs, z_b2s, z_b3s, z_ocN, z_ocS, z_oxL, z_oxR, z_scL, z_scR, ↓reduceIte, st_170, st_171, st_172, st_173, Nat.zero_add, Nat.add_zero, Nat.zero_lt_succ, true_and, and_true, eq_self, mSlot_ok hN1 (I_num hI) hb hs h1, mOr hN1 hI.1 hs, h3, mFits2]
  · refine mutNo h (k := nI 1) (b := nI 0) (by decide) ?_ ?_
    · unfold fX6_destroySnapshot
      simp (disch := first | omega | assumption) only [l_0, l_1, l_2, l_3, l_4, l_5, l_6, l_7, l_8, l_11, l_12, l_15, l_16, l_31, l_32, l_66, l_80, l_100, l_127, l_128, l_768, l_2304, l_2310, l_2316, l_2388, l_2394, l_2406, l_2418, l_2430, l_2558, l_2686, l_2814, l_2942, l_3070, l_3390, l_3394, l_3395, l_3396, l_3397, n_leT, n_leF, n_ltT, n_ltF, n_eqT, n_eqF, nI_add, pk_mul, n_sub, z_ldn, z_san, z_bs, z_b2s, z_b3s, z_ocN, z_ocS, z_oxL, z_oxR, z_scL, z_scR, ↓reduceIte, st_170, st_171, st_172, st_173, Nat.zero_add, Nat.add_zero, Nat.zero_lt_succ, true_and, and_true, eq_self, cSn_no hR.2.2.1 h1]
    · unfold fX7_destroySnapshot
      simp (disch := first | omega | assumption) only [l_0, l_1, l_2, l_3, l_4, l_5, l_6, l_7, l_8, l_11, l_12, l_15, l_16, l_31, l_32, l_66, l_80, l_100, l_127, l_128, l_768, l_2304, l_2310, l_2316, l_2388, l_2394, l_2406, l_2418, l_2430, l_2558, l_2686, l_2814, l_2942, l_3070, l_3390, l_3394, l_3395, l_3396, l_3397, n_leT, n_leF, n_ltT, n_ltF, n_eqT, n_eqF, nI_add, pk_mul, n_sub, z_ldn, z_san, z_bs, z_b2s, z_b3s, z_ocN, z_ocS, z_oxL, z_oxR, z_scL, z_scR, ↓reduceIte, st_170, st_171, st_172, st_173, Nat.zero_add, Nat.add_zero, Nat.zero_lt_succ, true_and, and_true, eq_self, mSlot_no hN1 hb h1, n_m1lt, mFits1]
