/-! ===== the class: the calls that change something ===== -/
theorem k_punch {n : Nat} (hn : n < 512) {M : zM} {N : Nat → Int32} {S : Nat → Nat} (hR : z_R1 1 M N S) (hI : z_I n S) {d f i l : Nat} (hd : d < 6) (h1 : S (2304 + d) = 1) (hf : f < 8) (hi : i < 16) (l1 : 1 ≤ l) (l2 : i + l ≤ 16) : ∃ (S1 : Nat → Nat) (M2 : zM), (∀ k, S1 k = if 128 * d + (16 * f + i) ≤ k ∧ k < 128 * d + (16 * f + i) + l then 0 else S k) ∧ fX6_punch 0 (nI d) (nI f) (nI i) (nI l) M = some (.inr (nI (sumN (fun j => if S (128 * d + (16 * f + i) + j) = 0 then 0 else 1) l)), M2) ∧ z_R1 1 M2 N (y_mk S1) ∧ z_I n (y_mk S1) ∧ ∀ a, 84 ≤ a → a ≠ 167 → a ≠ 168 → M2 a = M a := by
  obtain ⟨S1, hS1⟩ : ∃ S1 : Nat → Nat, ∀ k, S1 k = if 128 * d + (16 * f + i) ≤ k ∧ k < 128 * d + (16 * f + i) + l then 0 else S k := ⟨_, fun _ => rfl⟩
  obtain ⟨v, hv⟩ : ∃ v, v = nI (sumN (fun j => if S (128 * d + (16 * f + i) + j) = 0 then 0 else 1) l) := ⟨_, rfl⟩
  have hS : ∀ k, 2304 ≤ k → S1 k = S k := fun k hk => by rw [hS1, if_neg (by omega)]
  have hQ := z_Q_of hR hI
  -- the class
  obtain ⟨r, e1, e2, e3, e4⟩ := z_loopA (f := fun s : Int32 × Int32 × zM => fX6_punch_L1 0 (nI l) (1 + 9 + 3 * d) (nI (16 * f + i)) s.1 s.2.1 s.2.2) (fun j x M' => x = nI (sumN (fun j => if S (128 * d + (16 * f + i) + j) = 0 then 0 else 1) j) ∧ (∃ T, z_T 1 M' T ∧ ∀ k, k < 2304 → T k = if 128 * d + (16 * f + i) ≤ k ∧ k < 128 * d + (16 * f + i) + j then 0 else S k) ∧ ∀ a, a ≠ 1 + 3 + 4 → a ≠ 1 + 9 + 3 * d + 1 + 1 → M' a = M a) (fun r => r.1 = v ∧ z_T 1 r.2 S1 ∧ ∀ a, a ≠ 1 + 3 + 4 → a ≠ 1 + 9 + 3 * d + 1 + 1 → r.2 a = M a) 0 l (by omega) (x := nI 0) (s := nI 0) (M := M) rfl ⟨rfl, ⟨S, hQ.1, fun k hk => by rw [if_neg (by omega)]⟩, fun _ _ _ => rfl⟩ (fun j x M' hj hI9 => by
    obtain ⟨b1, ⟨T, b2, b3⟩, b4⟩ := hI9
    subst b1
    have hp : 16 * f + i + j < 128 := by omega
    have c1 := b2.1 d (by omega) (16 * f + i + j) hp
    have c2 : T (128 * d + (16 * f + i + j)) = S (128 * d + (16 * f + i) + j) := by rw [b3 _ (by omega), if_neg (by omega)]; exact congrArg S (by omega)
    rw [c2] at c1
    have hx := I_tab hI (128 * d + (16 * f + i) + j) (by omega)
    by_cases q : S (128 * d + (16 * f + i) + j) = 0
    · refine ⟨nI (sumN (fun j => if S (128 * d + (16 * f + i) + j) = 0 then 0 else 1) j), M', ?_, ?_, ⟨T, b2, fun k hk => ?_⟩, b4⟩
      · simp (disch := first | omega | assumption) only [l_0, l_1, l_2, l_3, l_4, l_5, l_6, l_7, l_8, l_11, l_12, l_15, l_16, l_31, l_32, l_66, l_80, l_100, l_127, l_128, l_768, l_2304, l_2310, l_2316, l_2388, l_2394, l_2406, l_2418, l_2430, l_2558, l_2686, l_2814, l_2942, l_3070, l_3390, l_3394, l_3395, l_3396, l_3397, n_leT, n_leF, n_ltT, n_ltF, n_eqT, n_eqF, nI_add, pk_mul, n_sub, z_ldn, z_san, z_bs, z_b2s, z_b3s, z_ocN, z_ocS, z_oxL, z_oxR, z_scL, z_scR, ↓reduceIte, Nat.zero_add, Nat.add_zero, Nat.zero_lt_succ, true_and, and_true, eq_self, fX6_punch_L1, cBo, c1, q, n_m0b]
      · show nI (sumN _ j) = nI (sumN _ j + if S (128 * d + (16 * f + i) + j) = 0 then 0 else 1)
        rw [if_pos q]
        rfl
      · rw [b3 k hk]
        by_cases q2 : k = 128 * d + (16 * f + i) + j
        · rw [if_neg (by omega), if_pos (by omega), q2, q]
        · by_cases q3 : 128 * d + (16 * f + i) ≤ k ∧ k < 128 * d + (16 * f + i) + j
          · rw [if_pos q3, if_pos (by omega)]
          · rw [if_neg q3, if_neg (by omega)]
    · obtain ⟨M3, p1, p2, p3⟩ := cPut (x := 0) b2 (show d < 18 by omega) hp (by decide)
      refine ⟨nI (sumN (fun j => if S (128 * d + (16 * f + i) + j) = 0 then 0 else 1) j + 1), M3, ?_, ?_, ⟨_, p2, fun k hk => ?_⟩, fun a q1 q2 => by rw [p3 a q1 q2, b4 a q1 q2]⟩
      · simp (disch := first | omega | assumption) only [l_0, l_1, l_2, l_3, l_4, l_5, l_6, l_7, l_8, l_11, l_12, l_15, l_16, l_31, l_32, l_66, l_80, l_100, l_127, l_128, l_768, l_2304, l_2310, l_2316, l_2388, l_2394, l_2406, l_2418, l_2430, l_2558, l_2686, l_2814, l_2942, l_3070, l_3390, l_3394, l_3395, l_3396, l_3397, n_leT, n_leF, n_ltT, n_ltF, n_eqT, n_eqF, nI_add, pk_mul, n_sub, z_ldn, z_san, z_bs, z_b2s, z_b3s, z_ocN, z_ocS, z_oxL, z_oxR, z_scL, z_scR, ↓reduceIte, Nat.zero_add, Nat.add_zero, Nat.zero_lt_succ, true_and, and_true, eq_self, fX6_punch_L1, cBo, c1, show -nI 1 = nI 0 - nI 1 by decide, n_m1e, p1]
      · show nI (sumN _ j + 1) = nI (sumN _ j + if S (128 * d + (16 * f + i) + j) = 0 then 0 else 1)
        rw [if_neg q]
      · unfold updN
        by_cases q2 : k = 128 * d + (16 * f + i + j)
        · rw [if_pos q2, if_pos (by omega)]
        · rw [if_neg q2, b3 k hk]
          by_cases q3 : 128 * d + (16 * f + i) ≤ k ∧ k < 128 * d + (16 * f + i) + j
          · rw [if_pos q3, if_pos (by omega)]
          · rw [if_neg q3, if_neg (by omega)]) (fun x M' hI9 => by
    obtain ⟨b1, ⟨T, b2, b3⟩, b4⟩ := hI9
    exact ⟨(x, M'), by simp (disch := first | omega | assumption) only [l_0, l_1, l_2, l_3, l_4, l_5, l_6, l_7, l_8, l_11, l_12, l_15, l_16, l_31, l_32, l_66, l_80, l_100, l_127, l_128, l_768, l_2304, l_2310, l_2316, l_2388, l_2394, l_2406, l_2418, l_2430, l_2558, l_2686, l_2814, l_2942, l_3070, l_3390, l_3394, l_3395, l_3396, l_3397, n_leT, n_leF, n_ltT, n_ltF, n_eqT, n_eqF, nI_add, pk_mul, n_sub, z_ldn, z_san, z_bs, z_b2s, z_b3s, z_ocN, z_ocS, z_oxL, z_oxR, z_scL, z_scR, ↓reduceIte, Nat.zero_add, Nat.add_zero, Nat.zero_lt_succ, true_and, and_true, eq_self, fX6_punch_L1], by rw [hv]; exact b1, z_T_T b2 (fun k hk => by rw [hS1, b3 k hk]), b4⟩)
  obtain ⟨r1, M1⟩ := r
  have e2 : r1 = v := e2
  subst e2
  obtain ⟨⟨M2, g1, g2, g3⟩, g4⟩ := z_tabs (S1 := S1) hn hR hI e3 hS (fun k hk => by rw [hS1]; split; exact Or.inl rfl; exact Or.inr ⟨k, hk, rfl⟩) (fun d2 hd2 q p hp => by rw [hS1, I_te hI d2 hd2 q p hp]; split <;> rfl) (fun s hs q p hp => by rw [hS1, I_se hI s hs q p hp]; split <;> rfl) (fun a q1 q2 => e4 a q1 (q2 d (by omega)))
  refine ⟨S1, M2, hS1, ?_, g2, g4, fun a q1 q2 q3 => by rw [g3 a (by omega), e4 a (by omega) (by omega)]⟩
  rw [← hv]
  unfold fX6_punch
  simp (disch := first | omega | assumption) only [l_0, l_1, l_2, l_3, l_4, l_5, l_6, l_7, l_8, l_11, l_12, l_15, l_16, l_31, l_32, l_66, l_80, l_100, l_127, l_128, l_768, l_2304, l_2310, l_2316, l_2388, l_2394, l_2406, l_2418, l_2430, l_2558, l_2686, l_2814, l_2942, l_3070, l_3390, l_3394, l_3395, l_3396, l_3397, n_leT, n_leF, n_ltT, n_ltF, n_eqT, n_eqF, nI_add, pk_mul, n_sub, z_ldn, z_san, z_bs, z_b2s, z_b3s, z_ocN, z_ocS, z_oxL, z_oxR, z_scL, z_scR, ↓reduceIte, Nat.zero_add, Nat.add_zero, Nat.zero_lt_succ, true_and, and_true, eq_self, cDs_ok hR.2.1 hd h1, z_gdp (kd1_ds hd), cPl_ok hf hi, cFt_ok hi l1 l2, e1, g1]
theorem k_reflink {n : Nat} (hn : n < 512) {M : zM} {N : Nat → Int32} {S : Nat → Nat} (hR : z_R1 1 M N S) (hI : z_I n S) {d f i f2 i2 l : Nat} (hd : d < 6) (h1 : S (2304 + d) = 1) (hf : f < 8) (hi : i < 16) (hf2 : f2 < 8) (hi2 : i2 < 16) (l1 : 1 ≤ l) (l2 : i + l ≤ 16) (l3 : i2 + l ≤ 16) : ∃ (S1 : Nat → Nat) (M2 : zM), (∀ k, S1 k = if 128 * d + (16 * f2 + i2) ≤ k ∧ k < 128 * d + (16 * f2 + i2) + l then S (128 * d + (16 * f + i) + (k - (128 * d + (16 * f2 + i2)))) else S k) ∧ fX6_reflink 0 (nI d) (nI f) (nI i) (nI f2) (nI i2) (nI l) M = some (.inr (nI (sumN (fun j => if S (128 * d + (16 * f2 + i2) + j) = S (128 * d + (16 * f + i) + j) then 0 else 1) l)), M2) ∧ z_R1 1 M2 N (y_mk S1) ∧ z_I n (y_mk S1) ∧ ∀ a, 84 ≤ a → a ≠ 167 → a ≠ 168 → M2 a = M a := by
  obtain ⟨S1, hS1⟩ : ∃ S1 : Nat → Nat, ∀ k, S1 k = if 128 * d + (16 * f2 + i2) ≤ k ∧ k < 128 * d + (16 * f2 + i2) + l then S (128 * d + (16 * f + i) + (k - (128 * d + (16 * f2 + i2)))) else S k := ⟨_, fun _ => rfl⟩
  obtain ⟨v, hv⟩ : ∃ v, v = nI (sumN (fun j => if S (128 * d + (16 * f2 + i2) + j) = S (128 * d + (16 * f + i) + j) then 0 else 1) l) := ⟨_, rfl⟩
  have hS : ∀ k, 2304 ≤ k → S1 k = S k := fun k hk => by rw [hS1, if_neg (by omega)]
  have hQ := z_Q_of hR hI
  -- the class: what it takes
  obtain ⟨Mt, t1, t2, t3⟩ := z_loopR (f := fun s : Int32 × zM => fX6_take_L1 0 (1 + 9 + 3 * d + 1) (nI (16 * f + i)) (nI l) s.1 s.2) 167 0 0 l (fun j => nI (S (128 * d + (16 * f + i) + j)) - nI 1) (by omega) (s := 0) (M := M) rfl (fun j M' hj q1 _ => by
    have c1 : M' (1 + 9 + 3 * d + 1 + 1) (16 * f + i + j) = nI (S (128 * d + (16 * f + i) + j)) - nI 1 := by
      rw [q1 _ (by omega), hQ.1.1 d (by omega) _ (by omega), show 128 * d + (16 * f + i + j) = 128 * d + (16 * f + i) + j by omega]
    simp (disch := first | omega | assumption) only [l_0, l_1, l_2, l_3, l_4, l_5, l_6, l_7, l_8, l_11, l_12, l_15, l_16, l_31, l_32, l_66, l_80, l_100, l_127, l_128, l_768, l_2304, l_2310, l_2316, l_2388, l_2394, l_2406, l_2418, l_2430, l_2558, l_2686, l_2814, l_2942, l_3070, l_3390, l_3394, l_3395, l_3396, l_3397, n_leT, n_leF, n_ltT, n_ltF, n_eqT, n_eqF, nI_add, pk_mul, n_sub, z_ldn, z_san, z_bs, z_b2s, z_b3s, z_ocN, z_ocS, z_oxL, z_oxR, z_scL, z_scR, ↓reduceIte, Nat.zero_add, Nat.add_zero, Nat.zero_lt_succ, true_and, and_true, eq_self, fX6_take_L1, cBo, c1]) (fun M' => by simp (disch := first | omega | assumption) only [l_0, l_1, l_2, l_3, l_4, l_5, l_6, l_7, l_8, l_11, l_12, l_15, l_16, l_31, l_32, l_66, l_80, l_100, l_127, l_128, l_768, l_2304, l_2310, l_2316, l_2388, l_2394, l_2406, l_2418, l_2430, l_2558, l_2686, l_2814, l_2942, l_3070, l_3390, l_3394, l_3395, l_3396, l_3397, n_leT, n_leF, n_ltT, n_ltF, n_eqT, n_eqF, nI_add, pk_mul, n_sub, z_ldn, z_san, z_bs, z_b2s, z_b3s, z_ocN, z_ocS, z_oxL, z_oxR, z_scL, z_scR, ↓reduceIte, Nat.zero_add, Nat.add_zero, Nat.zero_lt_succ, true_and, and_true, eq_self, fX6_take_L1])
  have ht : fX6_take 0 (1 + 9 + 3 * d + 1) (nI (16 * f + i)) (nI l) M = some Mt := by
    unfold fX6_take
    rw [t1]
    rfl
  have hRt : z_R1 1 Mt N S := by
    exact z_R1_cg hR (fun k k1 k2 _ => t2 k (by omega))
  have hQt := z_Q_of hRt hI
  have t3' : ∀ j, j < l → Mt 167 j = nI (S (128 * d + (16 * f + i) + j)) - nI 1 := fun j hj => by
    rw [t3, if_pos ⟨by omega, by omega⟩]
    rfl
  obtain ⟨r, e1, e2, e3, e4⟩ := z_loopA (f := fun s : Int32 × Int32 × zM => fX6_reflink_L1 0 (nI l) (1 + 9 + 3 * d) (nI (16 * f2 + i2)) s.1 s.2.1 s.2.2) (fun j x M' => x = nI (sumN (fun j => if S (128 * d + (16 * f2 + i2) + j) = S (128 * d + (16 * f + i) + j) then 0 else 1) j) ∧ (∃ T, z_T 1 M' T ∧ ∀ k, k < 2304 → T k = if 128 * d + (16 * f2 + i2) ≤ k ∧ k < 128 * d + (16 * f2 + i2) + j then S (128 * d + (16 * f + i) + (k - (128 * d + (16 * f2 + i2)))) else S k) ∧ ∀ a, a ≠ 1 + 3 + 4 → a ≠ 1 + 9 + 3 * d + 1 + 1 → M' a = Mt a) (fun r => r.1 = v ∧ z_T 1 r.2 S1 ∧ ∀ a, a ≠ 1 + 3 + 4 → a ≠ 1 + 9 + 3 * d + 1 + 1 → r.2 a = Mt a) 0 l (by omega) (x := nI 0) (s := nI 0) (M := Mt) rfl ⟨rfl, ⟨S, hQt.1, fun k hk => by rw [if_neg (by omega)]⟩, fun _ _ _ => rfl⟩ (fun j x M' hj hI9 => by
    obtain ⟨b1, ⟨T, b2, b3⟩, b4⟩ := hI9
    subst b1
    have hp : 16 * f2 + i2 + j < 128 := by omega
    have c1 := b2.1 d (by omega) (16 * f2 + i2 + j) hp
    have c2 : T (128 * d + (16 * f2 + i2 + j)) = S (128 * d + (16 * f2 + i2) + j) := by rw [b3 _ (by omega), if_neg (by omega)]; exact congrArg S (by omega)
    rw [c2] at c1
    have hx := I_tab hI (128 * d + (16 * f2 + i2) + j) (by omega)
    have hy := I_tab hI (128 * d + (16 * f + i) + j) (by omega)
    have c3 : M' 167 j = nI (S (128 * d + (16 * f + i) + j)) - nI 1 := by rw [b4 _ (by decide) (by omega), t3' j hj]
    by_cases q : S (128 * d + (16 * f2 + i2) + j) = S (128 * d + (16 * f + i) + j)
    · refine ⟨nI (sumN (fun j => if S (128 * d + (16 * f2 + i2) + j) = S (128 * d + (16 * f + i) + j) then 0 else 1) j), M', ?_, ?_, ⟨T, b2, fun k hk => ?_⟩, b4⟩
      · simp (disch := first | omega | assumption) only [l_0, l_1, l_2, l_3, l_4, l_5, l_6, l_7, l_8, l_11, l_12, l_15, l_16, l_31, l_32, l_66, l_80, l_100, l_127, l_128, l_768, l_2304, l_2310, l_2316, l_2388, l_2394, l_2406, l_2418, l_2430, l_2558, l_2686, l_2814, l_2942, l_3070, l_3390, l_3394, l_3395, l_3396, l_3397, n_leT, n_leF, n_ltT, n_ltF, n_eqT, n_eqF, nI_add, pk_mul, n_sub, z_ldn, z_san, z_bs, z_b2s, z_b3s, z_ocN, z_ocS, z_oxL, z_oxR, z_scL, z_scR, ↓reduceIte, Nat.zero_add, Nat.add_zero, Nat.zero_lt_succ, true_and, and_true, eq_self, fX6_reflink_L1, cBo, c1, c3, q]
      · show nI (sumN _ j) = nI (sumN _ j + if S (128 * d + (16 * f2 + i2) + j) = S (128 * d + (16 * f + i) + j) then 0 else 1)
        rw [if_pos q]
        rfl
      · rw [b3 k hk]
        by_cases q2 : k = 128 * d + (16 * f2 + i2) + j
        · rw [if_neg (by omega), if_pos (by omega), q2, q, Nat.add_sub_cancel_left]
        · by_cases q3 : 128 * d + (16 * f2 + i2) ≤ k ∧ k < 128 * d + (16 * f2 + i2) + j
          · rw [if_pos q3, if_pos (by omega)]
          · rw [if_neg q3, if_neg (by omega)]
    · obtain ⟨M3, p1, p2, p3⟩ := cPut b2 (show d < 18 by omega) hp hy
      have hne : (nI (S (128 * d + (16 * f2 + i2) + j)) - nI 1 = nI (S (128 * d + (16 * f + i) + j)) - nI 1) = False := eq_false (fun c => q ((n_sub_eq (by omega) (by omega)).mp c))
      refine ⟨nI (sumN (fun j => if S (128 * d + (16 * f2 + i2) + j) = S (128 * d + (16 * f + i) + j) then 0 else 1) j + 1), M3, ?_, ?_, ⟨_, p2, fun k hk => ?_⟩, fun a q1 q2 => by rw [p3 a q1 q2, b4 a q1 q2]⟩
      · simp (disch := first | omega | assumption) only [l_0, l_1, l_2, l_3, l_4, l_5, l_6, l_7, l_8, l_11, l_12, l_15, l_16, l_31, l_32, l_66, l_80, l_100, l_127, l_128, l_768, l_2304, l_2310, l_2316, l_2388, l_2394, l_2406, l_2418, l_2430, l_2558, l_2686, l_2814, l_2942, l_3070, l_3390, l_3394, l_3395, l_3396, l_3397, n_leT, n_leF, n_ltT, n_ltF, n_eqT, n_eqF, nI_add, pk_mul, n_sub, z_ldn, z_san, z_bs, z_b2s, z_b3s, z_ocN, z_ocS, z_oxL, z_oxR, z_scL, z_scR, ↓reduceIte, Nat.zero_add, Nat.add_zero, Nat.zero_lt_succ, true_and, and_true, eq_self, fX6_reflink_L1, cBo, c1, c3, hne, p1]
      · show nI (sumN _ j + 1) = nI (sumN _ j + if S (128 * d + (16 * f2 + i2) + j) = S (128 * d + (16 * f + i) + j) then 0 else 1)
        rw [if_neg q]
      · unfold updN
        by_cases q2 : k = 128 * d + (16 * f2 + i2 + j)
        · rw [if_pos q2, if_pos (by omega), q2, show 128 * d + (16 * f2 + i2 + j) - (128 * d + (16 * f2 + i2)) = j by omega]
        · rw [if_neg q2, b3 k hk]
          by_cases q3 : 128 * d + (16 * f2 + i2) ≤ k ∧ k < 128 * d + (16 * f2 + i2) + j
          · rw [if_pos q3, if_pos (by omega)]
          · rw [if_neg q3, if_neg (by omega)]) (fun x M' hI9 => by
    obtain ⟨b1, ⟨T, b2, b3⟩, b4⟩ := hI9
    exact ⟨(x, M'), by simp (disch := first | omega | assumption) only [l_0, l_1, l_2, l_3, l_4, l_5, l_6, l_7, l_8, l_11, l_12, l_15, l_16, l_31, l_32, l_66, l_80, l_100, l_127, l_128, l_768, l_2304, l_2310, l_2316, l_2388, l_2394, l_2406, l_2418, l_2430, l_2558, l_2686, l_2814, l_2942, l_3070, l_3390, l_3394, l_3395, l_3396, l_3397, n_leT, n_leF, n_ltT, n_ltF, n_eqT, n_eqF, nI_add, pk_mul, n_sub, z_ldn, z_san, z_bs, z_b2s, z_b3s, z_ocN, z_ocS, z_oxL, z_oxR, z_scL, z_scR, ↓reduceIte, Nat.zero_add, Nat.add_zero, Nat.zero_lt_succ, true_and, and_true, eq_self, fX6_reflink_L1], by rw [hv]; exact b1, z_T_T b2 (fun k hk => by rw [hS1, b3 k hk]), b4⟩)
  obtain ⟨r1, M1⟩ := r
  have e2 : r1 = v := e2
  subst e2
  obtain ⟨⟨M2, g1, g2, g3⟩, g4⟩ := z_tabs (S1 := S1) hn hRt hI e3 hS (fun k hk => by
    rw [hS1]
    by_cases q : 128 * d + (16 * f2 + i2) ≤ k ∧ k < 128 * d + (16 * f2 + i2) + l
    · rw [if_pos q]
      exact Or.inr ⟨_, by omega, rfl⟩
    · rw [if_neg q]
      exact Or.inr ⟨k, hk, rfl⟩) (fun d2 hd2 q p hp => by
    rw [hS1, if_neg (fun c => by
      have : d2 = d := by omega
      subst this
      omega)]
    exact I_te hI d2 hd2 q p hp) (fun s hs q p hp => by rw [hS1, if_neg (by omega)]; exact I_se hI s hs q p hp) (fun a q1 q2 => e4 a q1 (q2 d (by omega)))
  have e5 : ∀ a, a ≠ 1 + 3 + 1 → a ≠ 1 + 3 + 4 → a ≠ 1 + 9 + 3 * d + 1 + 1 → a ≠ 167 → M2 a = M a := fun a q1 q2 q3 q4 => by rw [g3 a q1, e4 a q2 q3, t2 a q4]
  refine ⟨S1, M2, hS1, ?_, g2, g4, fun a q1 q2 q3 => e5 a (by omega) (by omega) (by omega) (by omega)⟩
  rw [← hv]
  unfold fX6_reflink
  simp (disch := first | omega | assumption) only [l_0, l_1, l_2, l_3, l_4, l_5, l_6, l_7, l_8, l_11, l_12, l_15, l_16, l_31, l_32, l_66, l_80, l_100, l_127, l_128, l_768, l_2304, l_2310, l_2316, l_2388, l_2394, l_2406, l_2418, l_2430, l_2558, l_2686, l_2814, l_2942, l_3070, l_3390, l_3394, l_3395, l_3396, l_3397, n_leT, n_leF, n_ltT, n_ltF, n_eqT, n_eqF, nI_add, pk_mul, n_sub, z_ldn, z_san, z_bs, z_b2s, z_b3s, z_ocN, z_ocS, z_oxL, z_oxR, z_scL, z_scR, ↓reduceIte, Nat.zero_add, Nat.add_zero, Nat.zero_lt_succ, true_and, and_true, eq_self, cDs_ok hR.2.1 hd h1, z_gdp (kd1_ds hd), cPl_ok hf hi, cPl_ok hf2 hi2, cFt_ok hi l1 l2, cFt_ok hi2 l1 l3, ht, e1, g1]
theorem k_destroy {n : Nat} (hn : n < 512) {M : zM} {N : Nat → Int32} {S : Nat → Nat} (hR : z_R1 1 M N S) (hI : z_I n S) {d : Nat} (hd : d < 6) (h1 : S (2304 + d) = 1) (h2 : S (2388 + d) = 0) (h3 : sumN (fun d => S (2304 + d)) 6 ≠ 1) : ∃ (S1 : Nat → Nat) (M2 : zM), (∀ k, k < 2304 → S1 k = if 128 * d ≤ k ∧ k < 128 * d + 128 then 0 else S k) ∧ S1 (2304 + d) = 0 ∧ S1 (2310 + d) = 0 ∧ (∀ k, 2304 ≤ k → k ≠ 2304 + d → k ≠ 2310 + d → S1 k = S k) ∧ fX6_destroy 0 (nI d) M = some (.inr (nI (sumN (lostN S1) 128)), M2) ∧ z_R1 1 M2 N (y_mk S1) ∧ z_I n (y_mk S1) ∧ ∀ a, 84 ≤ a → a ≠ 167 → a ≠ 168 → M2 a = M a := by
  have hc12 := (I_ord hI d hd).1
  have hs6 := sum6 (I_ex hI)
  have hs1 := sum6_1 (I_ex hI) hd h1
  obtain ⟨S1, hS1⟩ : ∃ S1 : Nat → Nat, S1 = rngN (updN (updN S (2304 + d) 0) (2310 + d) 0) (128 * d) 128 (fun _ => 0) := ⟨_, rfl⟩
  have sT : ∀ k, k < 2304 → S1 k = if 128 * d ≤ k ∧ k < 128 * d + 128 then 0 else S k := fun k hk => by
    rw [hS1]
    by_cases q : 128 * d ≤ k ∧ k < 128 * d + 128
    · rw [rng_in q.1 q.2, if_pos q]
    · rw [rng_out (by omega), if_neg q, upN_n (by omega), upN_n (by omega)]
  have sE : S1 (2304 + d) = 0 := by rw [hS1, rng_out (by omega), upN_n (by omega), upN_s]
  have sO : S1 (2310 + d) = 0 := by rw [hS1, rng_out (by omega), upN_s]
  have sR : ∀ k, 2304 ≤ k → k ≠ 2304 + d → k ≠ 2310 + d → S1 k = S k := fun k k1 k2 k3 => by rw [hS1, rng_out (by omega), upN_n k3, upN_n k2]
  obtain ⟨d2, hd2, hne2, hx2⟩ := sum6_2 (I_ex hI) hd h1 h3
  have hIs1 : z_Is n S1 := z_Is_gen hI.1 (fun k hk => sR k (by omega) (by omega) (by omega)) (fun d' hd' => by
      by_cases q : d' = d
      · rw [q, sE]
        decide
      · rw [sR _ (by omega) (by omega) (by omega)]
        exact I_ex hI d' hd') ⟨d2, hd2, by rw [sR _ (by omega) (by omega) (by omega)]; exact hx2⟩ (fun d' hd' q2 => by
      by_cases q : d' = d
      · rw [q]
        exact ⟨sO, h2⟩
      · rw [sR _ (by omega) (by omega) (by omega)] at q2 ⊢
        exact I_emp hI d' hd' q2) (fun d' hd' => by
      by_cases q : d' = d
      · rw [q, sO]
        exact ⟨by decide, fun c => absurd rfl c⟩
      · rw [sR _ (by omega) (by omega) (by omega)]
        exact I_ori hI d' hd')
  have hQ := z_Q_of hR hI
  obtain ⟨M1, e1, e2, e3⟩ := cClr hQ.1 (show d < 18 by omega)
  obtain ⟨Md, hMd⟩ : ∃ Md, Md = z_st (z_st M1 (1 + 9 + 3 * d) 1 (nI 0)) (1 + 9 + 3 * d) 2 (-nI 1) := ⟨_, rfl⟩
  have fMd : ∀ a, a ≠ 1 + 9 + 3 * d → Md a = M1 a := fun a ha => by rw [hMd, s_n ha, s_n ha]
  have fM : ∀ a, a ≠ 1 + 3 + 4 → a ≠ 1 + 9 + 3 * d + 1 + 1 → a ≠ 1 + 9 + 3 * d → Md a = M a := fun a q1 q2 q3 => by rw [fMd a q3, e3 a q1 q2]
  have hQ1 : y_Q 1 Md N S1 (z_sta S) := y_Q_gen hQ (z_T_T (z_T_cg e2 (fMd _ (by omega)) (fun t ht => fMd _ (by omega))) (fun k hk => by rw [sT k hk]; rfl)) (fun d' hd' => by
      by_cases q : d' = d
      · rw [q, hMd, s_s, u_n (by decide), s_s, u_s, u_s, sE]
        refine ⟨rfl, ?_⟩
        unfold z_onum
        rw [if_pos sO]
        exact n_m0d
      · have ho : z_onum S1 d' = z_onum S d' := by
          have := (I_ori hI d' hd').1
          unfold z_onum
          rw [sR _ (by omega) (by omega) (by omega), sR (2394 + _) (by omega) (by omega) (by omega)]
        rw [fM _ (by omega) (by omega) (by omega), ho, sR _ (by omega) (by omega) (by omega)]
        exact hR.2.1 d' hd') (R_sn_S2 (R_sn_cg hR.2.2.1 (fun k k1 k2 => fM k (by omega) (by omega) (by omega))) hI.1.2.2.2.1 (fun d hd => (I_ord hI d hd).1) (fun k k1 k2 => sR k (by omega) (by omega) (by omega))) (R_sc_S (R_sc_cg hR.2.2.2.2.2 (fM _ (by omega) (by omega) (by omega))) (fun k k1 k2 => sR k (by omega) (by omega) (by omega))) (fun k k1 k2 => sR k (by omega) (by omega) (by omega)) (fun a k1 k2 => fM a (by omega) (by omega) (by omega)) (fun a k1 k2 => fM a (by omega) (by omega) (by omega))
  have sK : ∀ k, 2316 ≤ k → S1 k = S k := fun k hk => sR k (by omega) (by omega) (by omega)
  obtain ⟨⟨M2, g1, g2, g3⟩, g4⟩ := z_set2 hn hQ1 hI hIs1 (fun k hk => by
      rw [sT k hk]
      split
      · exact Or.inl rfl
      · exact Or.inr ⟨k, hk, rfl⟩) (fun d' hd' q p hp => by
      rw [sT _ (by omega)]
      split
      · rfl
      · by_cases c : d' = d
        · omega
        · rw [sR _ (by omega) (by omega) (by omega)] at q
          exact I_te hI d' hd' q p hp) (fun s hs q p hp => by
      rw [sT _ (by omega), if_neg (by omega)]
      rw [sK _ (by omega)] at q
      exact I_se hI s hs q p hp) (fun k k1 k2 => sK k (by omega))
  obtain ⟨v, hv⟩ : ∃ v, v = nI (sumN (lostN S1) 128) := ⟨_, rfl⟩
  rw [← hv] at g1
  refine ⟨S1, M2, sT, sE, sO, sR, ?_, g2, g4, fun a q1 q2 q3 => by rw [g3 a (by omega), fM a (by omega) (by omega) (by omega)]⟩
  rw [← hv]
  unfold fX6_destroy
  simp (disch := first | omega | assumption) only [l_0, l_1, l_2, l_3, l_4, l_5, l_6, l_7, l_8, l_11, l_12, l_15, l_16, l_31, l_32, l_66, l_80, l_100, l_127, l_128, l_768, l_2304, l_2310, l_2316, l_2388, l_2394, l_2406, l_2418, l_2430, l_2558, l_2686, l_2814, l_2942, l_3070, l_3390, l_3394, l_3395, l_3396, l_3397, n_leT, n_leF, n_ltT, n_ltF, n_eqT, n_eqF, nI_add, pk_mul, n_sub, z_ldn, z_san, z_bs, z_b2s, z_b3s, z_ocN, z_ocS, z_oxL, z_oxR, z_scL, z_scR, ↓reduceIte, Nat.zero_add, Nat.add_zero, Nat.zero_lt_succ, true_and, and_true, eq_self, cDs_ok hR.2.1 hd h1, z_gdp (kd1_ds hd), cSo hR.2.2.1 hI hd, h2, cCd hR.2.1 (I_ex hI), e1, z_pz0, ← hMd, g1]
theorem k_destroy_no {n : Nat} {M : zM} {N : Nat → Int32} {S : Nat → Nat} (hR : z_R1 1 M N S) (hI : z_I n S) {d : Nat} (hd : d < 6) (h1 : S (2304 + d) = 1) (h2 : S (2388 + d) ≠ 0 ∨ sumN (fun d => S (2304 + d)) 6 = 1) : fX6_destroy 0 (nI d) M = some (.inl "java/lang/IllegalStateException", M) := by
  have hc12 := (I_ord hI d hd).1
  have hs6 := sum6 (I_ex hI)
  by_cases h3 : S (2388 + d) = 0
  · have h4 := h2.resolve_left (fun q => q h3)
    unfold fX6_destroy
    simp (disch := first | omega | assumption) only [l_0, l_1, l_2, l_3, l_4, l_5, l_6, l_7, l_8, l_11, l_12, l_15, l_16, l_31, l_32, l_66, l_80, l_100, l_127, l_128, l_768, l_2304, l_2310, l_2316, l_2388, l_2394, l_2406, l_2418, l_2430, l_2558, l_2686, l_2814, l_2942, l_3070, l_3390, l_3394, l_3395, l_3396, l_3397, n_leT, n_leF, n_ltT, n_ltF, n_eqT, n_eqF, nI_add, pk_mul, n_sub, z_ldn, z_san, z_bs, z_b2s, z_b3s, z_ocN, z_ocS, z_oxL, z_oxR, z_scL, z_scR, ↓reduceIte, Nat.zero_add, Nat.add_zero, Nat.zero_lt_succ, true_and, and_true, eq_self, cDs_ok hR.2.1 hd h1, z_gdp (kd1_ds hd), cSo hR.2.2.1 hI hd, h3, cCd hR.2.1 (I_ex hI), h4]
  · unfold fX6_destroy
    simp (disch := first | omega | assumption) only [l_0, l_1, l_2, l_3, l_4, l_5, l_6, l_7, l_8, l_11, l_12, l_15, l_16, l_31, l_32, l_66, l_80, l_100, l_127, l_128, l_768, l_2304, l_2310, l_2316, l_2388, l_2394, l_2406, l_2418, l_2430, l_2558, l_2686, l_2814, l_2942, l_3070, l_3390, l_3394, l_3395, l_3396, l_3397, n_leT, n_leF, n_ltT, n_ltF, n_eqT, n_eqF, nI_add, pk_mul, n_sub, z_ldn, z_san, z_bs, z_b2s, z_b3s, z_ocN, z_ocS, z_oxL, z_oxR, z_scL, z_scR, ↓reduceIte, Nat.zero_add, Nat.add_zero, Nat.zero_lt_succ, true_and, and_true, eq_self, cDs_ok hR.2.1 hd h1, z_gdp (kd1_ds hd), cSo hR.2.2.1 hI hd]
theorem k_clone {n : Nat} (hn : n < 512) {M : zM} {N : Nat → Int32} {S : Nat → Nat} (hR : z_R1 1 M N S) (hI : z_I n S) {s d : Nat} (hs : s < 12) (h1 : S (2394 + s) ≠ 0) (hd : d < 6) (h2 : S (2304 + d) = 0) (h3 : ∀ j, j < d → S (2304 + j) ≠ 0) : ∃ (S1 : Nat → Nat) (M2 : zM), (∀ k, k < 2304 → S1 k = if 128 * d ≤ k ∧ k < 128 * d + 128 then S (768 + 128 * s + (k - 128 * d)) else S k) ∧ S1 (2304 + d) = 1 ∧ S1 (2310 + d) = s + 1 ∧ (∀ k, 2304 ≤ k → k ≠ 2304 + d → k ≠ 2310 + d → S1 k = S k) ∧ fX6_makeClone 0 (nI (S (2394 + s) - 1)) M = some (.inr (nI d), M2) ∧ z_R1 1 M2 N (y_mk S1) ∧ z_I n (y_mk S1) ∧ ∀ a, 84 ≤ a → a ≠ 167 → a ≠ 168 → M2 a = M a := by
  have hb := hb30 hI hn
  have hu : fX5_unusedDataset 1 M = some (nI d) := by
    rcases cUd hR.2.1 (I_ex hI) with ⟨d9, hd9, q1, q2, q3⟩ | ⟨q1, q2⟩
    · have : d9 = d := by
        rcases Nat.lt_trichotomy d9 d with q | q | q
        · exact absurd q1 (h3 d9 q)
        · exact q
        · exact absurd h2 (q2 d q)
      rw [← this]
      exact q3
    · exact absurd h2 (q1 d hd)
  have hs5 := sum6_l (I_ex hI) hd h2
  have hem := I_emp hI d hd h2
  obtain ⟨S1, hS1⟩ : ∃ S1 : Nat → Nat, S1 = rngN (updN (updN (updN S (2304 + d) 1) (2310 + d) (s + 1)) (2388 + d) 0) (128 * d) 128 (fun p => S (768 + 128 * s + p)) := ⟨_, rfl⟩
  have sT : ∀ k, k < 2304 → S1 k = if 128 * d ≤ k ∧ k < 128 * d + 128 then S (768 + 128 * s + (k - 128 * d)) else S k := fun k hk => by
    rw [hS1]
    by_cases q : 128 * d ≤ k ∧ k < 128 * d + 128
    · rw [rng_in q.1 q.2, if_pos q]
    · rw [rng_out (by omega), if_neg q, upN_n (by omega), upN_n (by omega), upN_n (by omega)]
  have sE : S1 (2304 + d) = 1 := by rw [hS1, rng_out (by omega), upN_n (by omega), upN_n (by omega), upN_s]
  have sO : S1 (2310 + d) = s + 1 := by rw [hS1, rng_out (by omega), upN_n (by omega), upN_s]
  have sR : ∀ k, 2304 ≤ k → k ≠ 2304 + d → k ≠ 2310 + d → S1 k = S k := fun k k1 k2 k3 => by
    rw [hS1, rng_out (by omega)]
    by_cases q : k = 2388 + d
    · rw [q, upN_s, hem.2]
    · rw [upN_n q, upN_n k3, upN_n k2]
  have sK : ∀ k, 2316 ≤ k → S1 k = S k := fun k hk => sR k (by omega) (by omega) (by omega)
  have hIs1 : z_Is n S1 := z_Is_gen hI.1 sK (fun d' hd' => by
      by_cases q : d' = d
      · rw [q, sE]
        decide
      · rw [sR _ (by omega) (by omega) (by omega)]
        exact I_ex hI d' hd') ⟨d, hd, sE⟩ (fun d' hd' q2 => by
      by_cases q : d' = d
      · rw [q, sE] at q2
        exact absurd q2 (by decide)
      · rw [sR _ (by omega) (by omega) (by omega)] at q2 ⊢
        exact I_emp hI d' hd' q2) (fun d' hd' => by
      by_cases q : d' = d
      · rw [q, sO, hem.2]
        exact ⟨by omega, fun _ => ⟨by rw [Nat.add_sub_cancel]; exact h1, fun r hr => absurd hr (Nat.not_lt_zero r)⟩⟩
      · rw [sR _ (by omega) (by omega) (by omega)]
        exact I_ori hI d' hd')
  have hQ := z_Q_of hR hI
  obtain ⟨Mc, hMc⟩ : ∃ Mc, Mc = z_st (z_st M (1 + 9 + 3 * d) 1 (nI 1)) (1 + 9 + 3 * d) 2 (M (1 + 27 + 3 * s) 2) := ⟨_, rfl⟩
  have fMc : ∀ a, a ≠ 1 + 9 + 3 * d → Mc a = M a := fun a ha => by rw [hMc, s_n ha, s_n ha]
  obtain ⟨M1, e1, e2, e3⟩ := cFill (z_T_cg hQ.1 (fMc _ (by omega)) (fun t ht => fMc _ (by omega))) (show d < 18 by omega) (show 6 + s < 18 by omega) (show d ≠ 6 + s by omega)
  rw [show 1 + 9 + 3 * (6 + s) + 1 = 1 + 27 + 3 * s + 1 by omega] at e1
  have fM : ∀ a, a ≠ 1 + 3 + 4 → a ≠ 1 + 9 + 3 * d + 1 + 1 → a ≠ 1 + 9 + 3 * d → M1 a = M a := fun a q1 q2 q3 => by rw [e3 a q1 q2, fMc a q3]
  have hsn := (hR.2.2.1 s hs).2 h1
  have hbs := hb s hs
  have hQ1 : y_Q 1 M1 N S1 (z_sta S) := y_Q_gen hQ (z_T_T e2 (fun k hk => by
      rw [sT k hk]
      unfold z_fillT
      rw [show 128 * (6 + s) = 768 + 128 * s by omega])) (fun d' hd' => by
      by_cases q : d' = d
      · rw [q, e3 _ (by omega) (by omega), hMc, s_s, u_n (by decide), s_s, u_s, u_s, sE, hsn.1]
        refine ⟨rfl, ?_⟩
        unfold z_onum
        rw [if_neg (by omega), sO, Nat.add_sub_cancel, sK _ (by omega), n_pm1 h1]
      · have ho : z_onum S1 d' = z_onum S d' := by
          have := (I_ori hI d' hd').1
          unfold z_onum
          rw [sR _ (by omega) (by omega) (by omega), sR (2394 + _) (by omega) (by omega) (by omega)]
        rw [fM _ (by omega) (by omega) (by omega), ho, sR _ (by omega) (by omega) (by omega)]
        exact hR.2.1 d' hd') (R_sn_S2 (R_sn_cg hR.2.2.1 (fun k k1 k2 => fM k (by omega) (by omega) (by omega))) hI.1.2.2.2.1 (fun d hd => (I_ord hI d hd).1) (fun k k1 k2 => sK k (by omega))) (R_sc_S (R_sc_cg hR.2.2.2.2.2 (fM _ (by omega) (by omega) (by omega))) (fun k k1 k2 => sK k (by omega))) (fun k k1 k2 => sK k (by omega)) (fun a k1 k2 => fM a (by omega) (by omega) (by omega)) (fun a k1 k2 => fM a (by omega) (by omega) (by omega))
  obtain ⟨g2, g4⟩ := z_set3 hQ1 hI hIs1 (fun k hk => by
      rw [sT k hk]
      split
      · exact Or.inr ⟨_, by omega, rfl⟩
      · exact Or.inr ⟨k, hk, rfl⟩) (fun d' hd' q p hp => by
      by_cases c : d' = d
      · rw [c, sE] at q
        exact absurd q (by decide)
      · rw [sR _ (by omega) (by omega) (by omega)] at q
        rw [sT _ (by omega), if_neg (by omega)]
        exact I_te hI d' hd' q p hp) (fun t ht q p hp => by
      rw [sT _ (by omega), if_neg (by omega)]
      rw [sK _ (by omega)] at q
      exact I_se hI t ht q p hp) (fun k k1 k2 => sK k (by omega)) (fun k hk q => by
      rw [sT k hk, if_neg]
      intro c
      have := I_te hI d hd h2 (k - 128 * d) (by omega)
      rw [show 128 * d + (k - 128 * d) = k by omega] at this
      exact q this)
  refine ⟨S1, M1, sT, sE, sO, sR, ?_, g2, g4, fun a q1 q2 q3 => fM a (by omega) (by omega) (by omega)⟩
  unfold fX6_makeClone fX5_branch
  simp (disch := first | omega | assumption) only [l_0, l_1, l_2, l_3, l_4, l_5, l_6, l_7, l_8, l_11, l_12, l_15, l_16, l_31, l_32, l_66, l_80, l_100, l_127, l_128, l_768, l_2304, l_2310, l_2316, l_2388, l_2394, l_2406, l_2418, l_2430, l_2558, l_2686, l_2814, l_2942, l_3070, l_3390, l_3394, l_3395, l_3396, l_3397, n_leT, n_leF, n_ltT, n_ltF, n_eqT, n_eqF, nI_add, pk_mul, n_sub, z_ldn, z_san, z_bs, z_b2s, z_b3s, z_ocN, z_ocS, z_oxL, z_oxR, z_scL, z_scR, ↓reduceIte, Nat.zero_add, Nat.add_zero, Nat.zero_lt_succ, true_and, and_true, eq_self, cSn_ok hR.2.2.1 (I_num hI) hb hs h1, z_gdp (kd1_sn hs), hu, n_m1c, z_lq11, z_pz1, s_n, ← hMc, e1]
theorem k_dsnap {n : Nat} (hn : n < 512) {M : zM} {N : Nat → Int32} {S : Nat → Nat} (hR : z_R1 1 M N S) (hI : z_I n S) {s : Nat} (hs : s < 12) (h1 : S (2394 + s) ≠ 0) (h2 : orN S s 6 = 0) : ∃ (S1 : Nat → Nat) (M2 : zM) (o p : Nat), o = S (2418 + s) ∧ o < 6 ∧ p < S (2388 + o) ∧ z_ord S o p = s ∧ S1 = dropS S o p s ∧ fX6_destroySnapshot 0 (nI (S (2394 + s) - 1)) M = some (.inr (nI (sumN (lostN S1) 128)), M2) ∧ z_R1 1 M2 N (y_mk S1) ∧ z_I n (y_mk S1) ∧ ∀ a, 84 ≤ a → a ≠ 167 → a ≠ 168 → M2 a = M a := by
  have hb := hb30 hI hn
  have hor := cOr hR.2.1 hI.1 (by omega) hs h1
  have hno := orN_0.mp h2
  rw [h2] at hor
  obtain ⟨rk, hsl, hrk⟩ := z_rk hR.2.2.1 hI.1
  obtain ⟨o, hoo⟩ : ∃ o, o = S (2418 + s) := ⟨_, rfl⟩
  obtain ⟨p, hpp⟩ : ∃ p, p = rk s := ⟨_, rfl⟩
  obtain ⟨hp, he⟩ := hrk s hs h1
  rw [← hpp, ← hoo] at hp he
  have ho6 : o < 6 := by rw [hoo]; exact (I_liv hI s hs h1).2.1
  obtain ⟨hc, hord⟩ := I_ord hI o ho6
  have hne : ∀ r, r < p → z_ord S o r ≠ s ∧ z_ord S o r < 12 := fun r hr => ⟨fun c => by
    have := I_inj2 hI ho6 (r := r) (q := p) (by omega) hp (by rw [c, he])
    omega, (hord r (by omega)).1⟩
  obtain ⟨S1, hS1⟩ : ∃ S1, S1 = dropS S o p s := ⟨_, rfl⟩
  have hIs1 : z_Is n S1 := by
    rw [hS1]
    exact z_Is_drop hI.1 hs h1 hoo.symm hp he hno
  have sT : ∀ k, k < 2304 → S1 k = if 768 + 128 * s ≤ k ∧ k < 768 + 128 * s + 128 then 0 else S k := fun k hk => by rw [hS1]; exact dr_T hs hk
  have sE : ∀ k, 2304 ≤ k → k < 2316 → S1 k = S k := fun k k1 k2 => by rw [hS1]; exact dr_E hs k1 k2
  have sN : ∀ t, t < 12 → S1 (2394 + t) = if t = s then 0 else S (2394 + t) := fun t ht => by rw [hS1]; exact dr_N ho6 hs hc ht
  have sC : ∀ d, d < 6 → S1 (2388 + d) = if d = o then S (2388 + o) - 1 else S (2388 + d) := fun d hd => by rw [hS1]; exact dr_C ho6 hs hc hd
  have sO : ∀ d r, d < 6 → r < 12 → z_ord S1 d r = if d = o ∧ p ≤ r ∧ r < S (2388 + o) - 1 then z_ord S o (r + 1) else z_ord S d r := fun d r hd hr => by rw [hS1]; exact dr_O ho6 hs hc hd hr
  have sR : ∀ k, 2406 ≤ k → S1 k = S k := fun k hk => by rw [hS1]; exact dr_R ho6 hs hc hk
  have hQ := z_Q_of hR hI
  have hex : (fun t => if S (2394 + t) = 0 then 0 else 1) s ≠ 0 := by
    show (if S (2394 + s) = 0 then 0 else 1) ≠ 0
    rw [if_neg h1]
    decide
  obtain ⟨M1, e1, e2, e3, e4, e5⟩ := cDrop hQ.1 hsl hs hex
  have fM : ∀ a, a ≠ 1 + 3 + 4 → a ≠ 1 + 9 + 3 * (6 + s) + 1 + 1 → (∀ t, t < 12 → a ≠ 1 + 27 + 3 * t) → M1 a = M a := e5
  have hsn : R_sn 1 M1 S1 := R_sn_of e2 (fun t ht => by
      rw [sN t ht]
      unfold updN
      by_cases c : t = s
      · rw [if_pos c, if_pos c]
      · rw [if_neg c, if_neg c]
        show S (2394 + t) = 0 ↔ (if S (2394 + t) = 0 then 0 else 1) = 0
        by_cases c2 : S (2394 + t) = 0
        · rw [if_pos c2, c2]
        · rw [if_neg c2]
          exact ⟨fun x => absurd x c2, fun x => absurd x (by decide)⟩) (fun t ht q => by
      have c : t ≠ s := fun c => q (by rw [c]; exact upN_s)
      rw [upN_n c] at q
      have c2 : S (2394 + t) ≠ 0 := fun x => q (if_pos x)
      obtain ⟨k1, k2⟩ := hrk t ht c2
      obtain ⟨l1, l2, l3, _⟩ := (hR.2.2.1 t ht).2 c2
      have l4 := (I_liv hI t ht c2).2.1
      have l5 := (I_ord hI _ l4).1
      rw [e4 t 2 ht (by decide) (by decide), e4 t 5 ht (by decide) (by decide), sN t ht, if_neg c, sR _ (by omega), sR _ (by omega)]
      refine ⟨l1, l3, rfl, ?_⟩
      show (if (if S (2394 + t) = 0 then 0 else 1) ≠ 0 ∧ S (2418 + t) = S (2418 + s) ∧ rk s < rk t then rk t - 1 else rk t) < S1 (2388 + S (2418 + t)) ∧ z_ord S1 (S (2418 + t)) (if (if S (2394 + t) = 0 then 0 else 1) ≠ 0 ∧ S (2418 + t) = S (2418 + s) ∧ rk s < rk t then rk t - 1 else rk t) = t
      rw [sC _ l4, ← hoo, ← hpp]
      by_cases w : S (2418 + t) = o
      · rw [w] at k1 k2 l5 ⊢
        rw [if_pos rfl]
        have hrp : rk t ≠ p := fun x => c (by rw [← k2, x, he])
        by_cases w2 : p < rk t
        · rw [if_pos ⟨q, rfl, w2⟩, sO o _ ho6 (by omega), if_pos ⟨rfl, by omega, by omega⟩, show rk t - 1 + 1 = rk t by omega]
          exact ⟨by omega, k2⟩
        · rw [if_neg (fun x => w2 x.2.2), sO o _ ho6 (by omega), if_neg (fun x => by omega)]
          exact ⟨by omega, k2⟩
      · rw [if_neg w, if_neg (fun x => w x.2.1), sO _ _ l4 (by omega), if_neg (fun x => w x.1)]
        exact ⟨k1, k2⟩)
  have hQ1 : y_Q 1 M1 N S1 (z_sta S) := y_Q_gen hQ (z_T_T e3 (fun k hk => by
      rw [sT k hk]
      unfold z_clrT
      rw [show 128 * (6 + s) = 768 + 128 * s by omega])) (fun d hd => by
      have ho : z_onum S1 d = z_onum S d := by
        have q1 := (I_ori hI d hd).1
        have q2 := hno d hd
        unfold z_onum
        rw [sE _ (by omega) (by omega)]
        by_cases q : S (2310 + d) = 0
        · rw [if_pos q, if_pos q]
        · rw [if_neg q, if_neg q, sN _ (by omega), if_neg (by omega)]
      rw [fM _ (by omega) (by omega) (fun t ht => by omega), ho, sE _ (by omega) (by omega)]
      exact hR.2.1 d hd) hsn (R_sc_S (R_sc_cg hR.2.2.2.2.2 (fM _ (by omega) (by omega) (fun t ht => by omega))) (fun k k1 k2 => sR k (by omega))) (fun k k1 k2 => sR k (by omega)) (fun a k1 k2 => fM a (by omega) (by omega) (fun t ht => by omega)) (fun a k1 k2 => fM a (by omega) (by omega) (fun t ht => by omega))
  obtain ⟨⟨M2, g1, g2, g3⟩, g4⟩ := z_set2 hn hQ1 hI hIs1 (fun k hk => by
      rw [sT k hk]
      split
      · exact Or.inl rfl
      · exact Or.inr ⟨k, hk, rfl⟩) (fun d hd q x hx => by
      rw [sT _ (by omega), if_neg (by omega)]
      rw [sE _ (by omega) (by omega)] at q
      exact I_te hI d hd q x hx) (fun t ht q x hx => by
      rw [sT _ (by omega)]
      split
      · rfl
      · rw [sN t ht] at q
        by_cases c : t = s
        · omega
        · rw [if_neg c] at q
          exact I_se hI t ht q x hx) (fun k k1 k2 => sR k (by omega))
  obtain ⟨v, hv⟩ : ∃ v, v = nI (sumN (lostN S1) 128) := ⟨_, rfl⟩
  rw [← hv] at g1
  refine ⟨S1, M2, o, p, hoo, ho6, hp, he, hS1, ?_, g2, g4, fun a q1 q2 q3 => by rw [g3 a (by omega), fM a (by omega) (by omega) (fun t ht => by omega)]⟩
  rw [← hv]
  unfold fX6_destroySnapshot
  simp (disch := first | omega | assumption) only [l_0, l_1, l_2, l_3, l_4, l_5, l_6, l_7, l_8, l_11, l_12, l_15, l_16, l_31, l_32, l_66, l_80, l_100, l_127, l_128, l_768, l_2304, l_2310, l_2316, l_2388, l_2394, l_2406, l_2418, l_2430, l_2558, l_2686, l_2814, l_2942, l_3070, l_3390, l_3394, l_3395, l_3396, l_3397, n_leT, n_leF, n_ltT, n_ltF, n_eqT, n_eqF, nI_add, pk_mul, n_sub, z_ldn, z_san, z_bs, z_b2s, z_b3s, z_ocN, z_ocS, z_oxL, z_oxR, z_scL, z_scR, ↓reduceIte, Nat.zero_add, Nat.add_zero, Nat.zero_lt_succ, true_and, and_true, eq_self, cSn_ok hR.2.2.1 (I_num hI) hb hs h1, z_gdp (kd1_sn hs), hor, e1, g1]
theorem k_dsnap_no {n : Nat} (hn : n < 512) {M : zM} {N : Nat → Int32} {S : Nat → Nat} (hR : z_R1 1 M N S) (hI : z_I n S) {s : Nat} (hs : s < 12) (h1 : S (2394 + s) ≠ 0) (h2 : orN S s 6 ≠ 0) : fX6_destroySnapshot 0 (nI (S (2394 + s) - 1)) M = some (.inl "java/lang/IllegalStateException", M) := by
  have hb := hb30 hI hn
  have hor := cOr hR.2.1 hI.1 (by omega) hs h1
  have h3 : orN S s 6 = 1 := by
    have := orN_1 (S := S) (s := s) (i := 6)
    omega
  rw [h3] at hor
  unfold fX6_destroySnapshot
  simp (disch := first | omega | assumption) only [l_0, l_1, l_2, l_3, l_4, l_5, l_6, l_7, l_8, l_11, l_12, l_15, l_16, l_31, l_32, l_66, l_80, l_100, l_127, l_128, l_768, l_2304, l_2310, l_2316, l_2388, l_2394, l_2406, l_2418, l_2430, l_2558, l_2686, l_2814, l_2942, l_3070, l_3390, l_3394, l_3395, l_3396, l_3397, n_leT, n_leF, n_ltT, n_ltF, n_eqT, n_eqF, nI_add, pk_mul, n_sub, z_ldn, z_san, z_bs, z_b2s, z_b3s, z_ocN, z_ocS, z_oxL, z_oxR, z_scL, z_scR, ↓reduceIte, Nat.zero_add, Nat.add_zero, Nat.zero_lt_succ, true_and, and_true, eq_self, cSn_ok hR.2.2.1 (I_num hI) hb hs h1, z_gdp (kd1_sn hs), hor]
theorem k_dj {n : Nat} {S rk : Nat → Nat} {d p c : Nat} (hI : z_I n S) (hd : d < 6) (hcc : c = S (2388 + d)) (hp : p < c) (hrk : ∀ t, t < 12 → S (2394 + t) ≠ 0 → rk t < S (2388 + S (2418 + t)) ∧ z_ord S (S (2418 + t)) (rk t) = t) (hno : ∀ j, 1 ≤ j → j ≤ c - 1 - p → orN S (z_ord S d (p + j)) 6 = 0) : ∀ j, j ≤ c - 1 - p → z_dj n S rk d p c j (djS S d p j) := by
  have hc12 : c ≤ 12 := by rw [hcc]; exact (I_ord hI d hd).1
  have hord := (I_ord hI d hd).2
  have hpl : ∀ r, r < c → rk (z_ord S d r) = r := fun r hr => by
    obtain ⟨k1, k2, k3⟩ := hord r (by omega)
    obtain ⟨k4, k5⟩ := hrk _ k1 k2
    rw [k3] at k4 k5
    exact I_inj2 hI hd k4 (by omega) k5
  intro j
  induction j with
  | zero =>
    intro _
    exact ⟨hI.1, hcc.symm, fun _ _ => rfl, fun _ _ _ => rfl, fun t ht => by rw [if_neg (fun x => absurd x.2.2.1 (by have := x.2.2.2; omega))]; rfl, fun _ _ _ _ _ => rfl, fun _ _ _ => rfl, fun _ _ _ => rfl, fun _ _ => rfl, fun _ _ => rfl, fun t x ht hx => by rw [if_neg (fun x => absurd x.2.2.1 (by have := x.2.2.2; omega))]; rfl⟩
  | succ j ih =>
    intro hj1
    have hj : j < c - 1 - p := by omega
    obtain ⟨t1, t2, t3, t4, t5, t6, t7, t8, t9, t10, t11⟩ := ih (by omega)
    obtain ⟨T, hTT⟩ : ∃ T, T = djS S d p j := ⟨_, rfl⟩
    rw [← hTT] at t1 t2 t5
    simp only [← hTT] at t3 t4 t5 t6 t7 t8 t9 t10 t11
    obtain ⟨u, huu⟩ : ∃ u, u = z_ord S d (p + 1 + j) := ⟨_, rfl⟩
    obtain ⟨k1, k2, k3⟩ := hord (p + 1 + j) (by omega)
    have kr := hpl (p + 1 + j) (by omega)
    rw [← huu] at k1 k2 k3 kr
    have hu1 : z_ord T d (p + 1) = u := by rw [t4 (p + 1) (by omega) (by omega), huu]
    have hub : ¬ z_bh S rk d p j u := fun x => by
      have := x.2.2.2
      omega
    have hTu : T (2394 + u) ≠ 0 := by rw [t5 u k1, if_neg hub]; exact k2
    have hTo : T (2418 + u) = d := by rw [t9 _ (by omega)]; exact k3
    have hno1 := orN_0.mp (hno (1 + j) (by omega) (by omega))
    rw [show p + (1 + j) = p + 1 + j by omega, ← huu] at hno1
    have hIs2 := z_Is_drop t1 k1 hTu hTo (by rw [t2]; omega) hu1 (fun d2 hd2 => by rw [t8 _ (by omega) (by omega)]; exact hno1 d2 hd2)
    have hcT : T (2388 + d) ≤ 12 := by rw [t2]; omega
    have hbj : ∀ t, t < 12 → t ≠ u → (z_bh S rk d p (j + 1) t ↔ z_bh S rk d p j t) := fun t ht htu => ⟨fun x => ⟨x.1, x.2.1, x.2.2.1, by
      have x4 := x.2.2.2
      have : rk t ≠ p + 1 + j := fun y => htu (by
        have z := (hrk t ht x.1).2
        rw [x.2.1, y] at z
        rw [huu, z])
      omega⟩, fun x => ⟨x.1, x.2.1, x.2.2.1, by have := x.2.2.2; omega⟩⟩
    have hbu : z_bh S rk d p (j + 1) u := ⟨k2, k3, by omega, by omega⟩
    rw [show djS S d p (j + 1) = dropS T d (p + 1) u by rw [hTT, huu]; rfl]
    refine ⟨hIs2, ?_, fun r hr => ?_, fun r hr hr2 => ?_, fun t ht => ?_, fun d2 r hd2 hne hr => ?_, fun d2 hd2 hne => ?_, fun k k1 k2 => ?_, fun k hk => ?_, fun k hk => ?_, fun t x ht hx => ?_⟩
    · rw [dr_C hd k1 hcT hd, if_pos rfl, t2]
      omega
    · rw [dr_O hd k1 hcT hd (by omega), if_neg (by omega)]
      exact t3 r hr
    · rw [dr_O hd k1 hcT hd (by omega), if_pos ⟨rfl, by omega, by rw [t2]; omega⟩, t4 (r + 1) (by omega) (by omega), show r + 1 + j = r + (j + 1) by omega]
    · rw [dr_N hd k1 hcT ht]
      by_cases x : t = u
      · rw [if_pos x, x, if_pos hbu]
      · rw [if_neg x, t5 t ht]
        by_cases y : z_bh S rk d p j t
        · rw [if_pos y, if_pos ((hbj t ht x).mpr y)]
        · rw [if_neg y, if_neg (fun z => y ((hbj t ht x).mp z))]
    · rw [dr_O hd k1 hcT hd2 hr, if_neg (fun x => hne x.1)]
      exact t6 d2 r hd2 hne hr
    · rw [dr_C hd k1 hcT hd2, if_neg hne]
      exact t7 d2 hd2 hne
    · rw [dr_E (by omega) k1 k2]
      exact t8 k k1 k2
    · rw [dr_R hd k1 hcT hk]
      exact t9 k hk
    · rw [dr_T k1 (by omega), if_neg (by omega)]
      exact t10 k hk
    · rw [dr_T k1 (by omega)]
      by_cases y : t = u
      · rw [y, if_pos (by omega), if_pos hbu]
      · rw [if_neg (by omega), t11 t x ht hx]
        by_cases z : z_bh S rk d p j t
        · rw [if_pos z, if_pos ((hbj t ht y).mpr z)]
        · rw [if_neg z, if_neg (fun w => z ((hbj t ht y).mp w))]
theorem k_roll {n : Nat} (hn : n < 512) {M : zM} {N : Nat → Int32} {S : Nat → Nat} (hR : z_R1 1 M N S) (hI : z_I n S) {d s : Nat} (hd : d < 6) (h1 : S (2304 + d) = 1) (hs : s < 12) (h2 : S (2394 + s) ≠ 0) (h3 : S (2418 + s) = d) : ∃ (rk : Nat → Nat) (p c : Nat), p = rk s ∧ c = S (2388 + d) ∧ p < c ∧ z_ord S d p = s ∧ (∀ t, t < 12 → S (2394 + t) ≠ 0 → rk t < S (2388 + S (2418 + t)) ∧ z_ord S (S (2418 + t)) (rk t) = t) ∧ (oB S d p (c - 1 - p) ≠ 0 → fX6_rollback 0 (nI d) (nI (S (2394 + s) - 1)) M = some (.inl "java/lang/IllegalStateException", M)) ∧ (oB S d p (c - 1 - p) = 0 → z_dj n S rk d p c (c - 1 - p) (djS S d p (c - 1 - p)) ∧ ∃ M2 : zM, fX6_rollback 0 (nI d) (nI (S (2394 + s) - 1)) M = some (.inr (nI (c - 1 - p)), M2) ∧ z_R1 1 M2 N (y_mk (rbS S d p s c)) ∧ z_I n (y_mk (rbS S d p s c)) ∧ ∀ a, 84 ≤ a → M2 a = M a) := by
  have hb := hb30 hI hn
  have hos := (I_liv hI s hs h2).2.1
  have ccell := ((hR.2.2.1 s hs).2 h2).2.1
  obtain ⟨rk, hsl, hrk, hrk12⟩ := z_rk2 hR.2.2.1 hI.1
  obtain ⟨p, hpp⟩ : ∃ p, p = rk s := ⟨_, rfl⟩
  obtain ⟨c, hcc⟩ : ∃ c, c = S (2388 + d) := ⟨_, rfl⟩
  obtain ⟨hp, he⟩ := hrk s hs h2
  rw [← hpp, h3, ← hcc] at hp
  rw [← hpp, h3] at he
  obtain ⟨hc12, hord⟩ := I_ord hI d hd
  rw [← hcc] at hc12
  have hk : ∀ t, t < 12 → rk t ≤ p + 12 := fun t ht => by have := hrk12 t ht; omega
  have hho := cHo hR hI hn hd hcc hp hsl hrk hs h2 h3 hpp.symm hk
  have hne : ∀ r, r < p → z_ord S d r ≠ s ∧ z_ord S d r < 12 := fun r hr => ⟨fun x => by
    have := I_inj2 hI hd (r := r) (q := p) (by omega) (by omega) (by rw [x, he])
    omega, (hord r (by omega)).1⟩
  refine ⟨rk, p, c, hpp, hcc, hp, he, hrk, fun h4 => ?_, fun h4 => ?_⟩
  · rw [if_neg h4] at hho
    unfold fX6_rollback
    simp (disch := first | omega | assumption) only [l_0, l_1, l_2, l_3, l_4, l_5, l_6, l_7, l_8, l_11, l_12, l_15, l_16, l_31, l_32, l_66, l_80, l_100, l_127, l_128, l_768, l_2304, l_2310, l_2316, l_2388, l_2394, l_2406, l_2418, l_2430, l_2558, l_2686, l_2814, l_2942, l_3070, l_3390, l_3394, l_3395, l_3396, l_3397, n_leT, n_leF, n_ltT, n_ltF, n_eqT, n_eqF, nI_add, pk_mul, n_sub, z_ldn, z_san, z_bs, z_b2s, z_b3s, z_ocN, z_ocS, z_oxL, z_oxR, z_scL, z_scR, ↓reduceIte, Nat.zero_add, Nat.add_zero, Nat.zero_lt_succ, true_and, and_true, eq_self, cDs_ok hR.2.1 hd h1, z_gdp (kd1_ds hd), cSn_ok hR.2.2.1 (I_num hI) hb hs h2, z_gdp (kd1_sn hs), ccell, h3, hho]
  · have hno := oB_0.mp h4
    rw [h4] at hho
    have hj := k_dj hI hd hcc hp hrk hno (c - 1 - p) (Nat.le_refl _)
    obtain ⟨Mf, Mb, v2, M2, e1, e2, e3, e4, e5, e6, e7⟩ := rb_c hR hI hn hd h1 hcc hp hsl hrk hs h2 h3 hpp.symm hk hj hno
    refine ⟨hj, M2, ?_, e4, e5, e7⟩
    unfold fX6_rollback
    simp (disch := first | omega | assumption) only [l_0, l_1, l_2, l_3, l_4, l_5, l_6, l_7, l_8, l_11, l_12, l_15, l_16, l_31, l_32, l_66, l_80, l_100, l_127, l_128, l_768, l_2304, l_2310, l_2316, l_2388, l_2394, l_2406, l_2418, l_2430, l_2558, l_2686, l_2814, l_2942, l_3070, l_3390, l_3394, l_3395, l_3396, l_3397, n_leT, n_leF, n_ltT, n_ltF, n_eqT, n_eqF, nI_add, pk_mul, n_sub, z_ldn, z_san, z_bs, z_b2s, z_b3s, z_ocN, z_ocS, z_oxL, z_oxR, z_scL, z_scR, ↓reduceIte, Nat.zero_add, Nat.add_zero, Nat.zero_lt_succ, true_and, and_true, eq_self, cDs_ok hR.2.1 hd h1, z_gdp (kd1_ds hd), cSn_ok hR.2.2.1 (I_num hI) hb hs h2, z_gdp (kd1_sn hs), ccell, h3, hho, e1, e2, e3]
theorem k_promote {n : Nat} (hn : n < 512) {M : zM} {N : Nat → Int32} {S : Nat → Nat} (hR : z_R1 1 M N S) (hI : z_I n S) {d : Nat} (hd : d < 6) (h1 : S (2304 + d) = 1) (h2 : S (2310 + d) ≠ 0) : ∃ (S1 rk : Nat → Nat) (M2 : zM) (s o p c c2 : Nat), s + 1 = S (2310 + d) ∧ s < 12 ∧ S (2394 + s) ≠ 0 ∧ o = S (2418 + s) ∧ o < 6 ∧ d ≠ o ∧ c = S (2388 + d) ∧ c2 = S (2388 + o) ∧ p < c2 ∧ z_ord S o p = s ∧ c + (p + 1) ≤ 12 ∧ c2 ≤ 12 ∧ (∀ t, t < 12 → S (2394 + t) ≠ 0 → rk t < S (2388 + S (2418 + t)) ∧ z_ord S (S (2418 + t)) (rk t) = t) ∧ S1 = prS S rk d o p s c c2 ∧ fX6_promote 0 (nI d) M = some (.inr (nI (c + (p + 1))), M2) ∧ z_R1 1 M2 N S1 ∧ z_I n S1 ∧ ∀ a, 84 ≤ a → a ≠ 167 → a ≠ 168 → M2 a = M a := by
  have hb := hb30 hI hn
  have csrc := (hR.2.1 d hd).2
  have hor12 := (I_ori hI d hd).1
  obtain ⟨s, hss⟩ : ∃ s, s = S (2310 + d) - 1 := ⟨_, rfl⟩
  have hor : S (2310 + d) = s + 1 := by omega
  have hs : s < 12 := by omega
  have h0 := ((I_ori hI d hd).2 h2).1
  have hlt := ((I_ori hI d hd).2 h2).2
  rw [← hss] at h0 hlt
  have co : z_onum S d = S (2394 + s) := by
    unfold z_onum
    rw [if_neg h2, hor, Nat.add_sub_cancel]
  rw [co, n_pm1 h0] at csrc
  obtain ⟨o, hoo⟩ : ∃ o, o = S (2418 + s) := ⟨_, rfl⟩
  have hl := I_liv hI s hs h0
  have ho : o < 6 := by rw [hoo]; exact hl.2.1
  have hox : S (2304 + o) = 1 := by rw [hoo]; exact hl.2.2.1
  obtain ⟨rk, hsl, hrk, hrk12⟩ := z_rk2 hR.2.2.1 hI.1
  obtain ⟨p, hpp⟩ : ∃ p, p = rk s := ⟨_, rfl⟩
  obtain ⟨c, hcc⟩ : ∃ c, c = S (2388 + d) := ⟨_, rfl⟩
  obtain ⟨c2, hcc2⟩ : ∃ c2, c2 = S (2388 + o) := ⟨_, rfl⟩
  obtain ⟨hp, hop⟩ := hrk s hs h0
  rw [← hpp, ← hoo, ← hcc2] at hp
  rw [← hpp, ← hoo] at hop
  have hne : d ≠ o := fun e => by
    have := hlt p (by rw [e, ← hcc2]; exact hp)
    rw [e, hop] at this
    omega
  have hc12 := own2 hI hd ho hne
  rw [← hcc, ← hcc2] at hc12
  have hcA : c + (p + 1) ≤ 12 := by omega
  have hcB : c2 ≤ 12 := by omega
  have eT := fun {k : Nat} (hk : k < 2310 ∨ (2394 ≤ k ∧ k < 2418) ∨ 2430 ≤ k) => pr_T (S := S) (rk := rk) (s := s) hd ho hcA hcB hk
  have eO := fun {e : Nat} (he : e < 6) => pr_O (S := S) (rk := rk) (s := s) hd ho hcA hcB he
  have eR := fun {e r : Nat} (he : e < 6) (hr : r < 12) => pr_R (S := S) (rk := rk) (s := s) hd ho hne hcA hcB he hr
  have eC := fun {e : Nat} (he : e < 6) => pr_C (S := S) (rk := rk) (s := s) hd ho hne hcA hcB he
  have eW := fun {t : Nat} (ht : t < 12) => pr_W (S := S) (rk := rk) (s := s) hd ho hcA hcB ht
  have hIs1 := pr_Is hI hd ho hne h1 hs h0 hoo.symm hcc hcc2 hp hop hor hrk
  obtain ⟨S1, hS1⟩ : ∃ S1, S1 = prS S rk d o p s c c2 := ⟨_, rfl⟩
  rw [← hS1] at hIs1
  simp only [← hS1] at eT eO eR eC eW
  obtain ⟨_, _, _, d4⟩ := (hsl s hs).2.2 (by rw [ex_1 h0]; decide)
  have cs := (hR.2.2.1 s hs).2 h0
  have cs3 : M (1 + 27 + 3 * s) 3 = nI o := by rw [hoo]; exact cs.2.1
  have cs4 : M (1 + 27 + 3 * s) 4 = nI p := by rw [hpp]; exact ((hsl s hs).2.2 (by rw [ex_1 h0]; decide)).2.2.1
  obtain ⟨M8, e1, e2, e3, e4⟩ := cHand hd ho hne hs hsl cs3 cs4 (by omega) (fun t ht q v => by
    have := (hrk t ht q).1
    rw [v] at this
    omega)
  obtain ⟨M9, hM9⟩ : ∃ M9, M9 = z_st M8 (1 + 9 + 3 * d) 2 (M8 (1 + 9 + 3 * o) 2) := ⟨_, rfl⟩
  obtain ⟨M10, hM10⟩ : ∃ M10, M10 = z_st M9 (1 + 9 + 3 * o) 2 (M9 (1 + 27 + 3 * s) 2) := ⟨_, rfl⟩
  have f10 : ∀ a, a ≠ 1 + 9 + 3 * d → a ≠ 1 + 9 + 3 * o → M10 a = M8 a := fun a q1 q2 => by rw [hM10, s_n q2, hM9, s_n q1]
  have fM : ∀ a, a ≠ 1 + 9 + 3 * d → a ≠ 1 + 9 + 3 * o → (∀ t, t < 12 → a ≠ 1 + 27 + 3 * t) → M10 a = M a := fun a q1 q2 q3 => by rw [f10 a q1 q2, e4 a q3]
  have hI1 : z_I n S1 := ⟨hIs1, fun k hk => by rw [eT (by omega)]; exact I_tab hI k hk, fun e he q x hx => by
      rw [eT (by omega)] at q ⊢
      exact I_te hI e he q x hx, fun t ht q x hx => by
      rw [eT (by omega)] at q ⊢
      exact I_se hI t ht q x hx, fun b hb => by
      rw [eT (by omega), I_ref hI b hb]
      exact cntN_cg (fun i hi => (eT (by omega)).symm), fun b hb => by
      rw [eT (by omega), eT (by omega)]
      exact I_pen hI b hb, fun b hb => by
      rw [eT (by omega)]
      exact I_bir hI b hb⟩
  have hds : R_ds 1 M10 S1 := fun e he => by
    have hon : ∀ q, z_onum S1 q = if S1 (2310 + q) = 0 then 0 else S1 (2394 + (S1 (2310 + q) - 1)) := fun _ => rfl
    by_cases w : e = o
    · subst w
      rw [hM10, s_s, u_n (by decide), u_s, hM9, s_n (by omega), s_n (by omega), e4 _ (fun t ht => by omega), e3 s 2 hs (by decide) (by decide), cs.1, hon, eO he, if_pos rfl, if_neg (by omega), Nat.add_sub_cancel, eT (by omega), eT (by omega)]
      exact ⟨(hR.2.1 e he).1, (n_pm1 h0).symm⟩
    · by_cases w2 : e = d
      · subst w2
        rw [hM10, s_n (by omega), hM9, s_s, u_n (by decide), u_s, e4 _ (fun t ht => by omega), e4 _ (fun t ht => by omega), eT (by omega), hon, eO he, if_neg hne, if_pos rfl]
        have hx := (hR.2.1 o ho).2
        unfold z_onum at hx
        have h12 := (I_ori hI o ho).1
        refine ⟨(hR.2.1 e he).1, ?_⟩
        rw [hx]
        by_cases y : S (2310 + o) = 0
        · rw [if_pos y, if_pos y]
        · rw [if_neg y, if_neg y, eT (by omega)]
      · rw [fM _ (by omega) (by omega) (fun t ht => by omega), eT (by omega), hon, eO he, if_neg w, if_neg w2]
        have hx := hR.2.1 e he
        unfold z_onum at hx
        have h12 := (I_ori hI e he).1
        refine ⟨hx.1, ?_⟩
        rw [hx.2]
        by_cases y : S (2310 + e) = 0
        · rw [if_pos y, if_pos y]
        · rw [if_neg y, if_neg y, eT (by omega)]
  have hsn : R_sn 1 M10 S1 := R_sn_of (y_sl_cg e2 (fun t ht => f10 _ (by omega) (by omega))) (fun t ht => by
      rw [eT (by omega)]
      by_cases q : S (2394 + t) = 0
      · rw [ex_0 q, q]
      · rw [ex_1 q]
        exact ⟨fun x => absurd x q, fun x => absurd x (by decide)⟩) (fun t ht q => by
      have q1 : S (2394 + t) ≠ 0 := fun x => q (ex_0 x)
      obtain ⟨l1, l2, l3, _⟩ := (hR.2.2.1 t ht).2 q1
      obtain ⟨k1, k2⟩ := hrk t ht q1
      have l4 := (I_liv hI t ht q1).2.1
      have l5 := (I_ord hI _ l4).1
      rw [f10 _ (by omega) (by omega), e3 t 2 ht (by decide) (by decide), e3 t 5 ht (by decide) (by decide), eT (by omega), show S1 (2406 + t) = S (2406 + t) from eT (by omega)]
      refine ⟨l1, l3, ?_⟩
      rw [eW ht]
      by_cases v : S (2418 + t) = o
      · rw [v, ← hcc2] at k1
        rw [v] at k2
        by_cases v3 : rk t ≤ p
        · have w1 : ho_w S rk d o p 12 t = d := if_pos ⟨ht, v, v3⟩
          have w2 : ho_r S rk d o p 12 t = rk t := by
            unfold ho_r
            rw [if_neg (fun x => hne (by rw [← v, x.2])), if_neg (fun x => absurd x.2.2 (by omega))]
          rw [if_pos ⟨q1, v, by omega⟩, w1, w2, eC hd, if_pos rfl, eR hd (by omega), if_pos ⟨rfl, by omega⟩]
          exact ⟨rfl, by omega, k2⟩
        · have w1 : ho_w S rk d o p 12 t = S (2418 + t) := if_neg (fun x => v3 x.2.2)
          have w2 : ho_r S rk d o p 12 t = rk t - (p + 1) := by
            unfold ho_r
            rw [if_neg (fun x => hne (by rw [← v, x.2])), if_pos ⟨ht, v, by omega⟩]
          rw [if_neg (fun x => v3 (by have := x.2.2; omega)), w1, w2, v, eC ho, if_neg (fun x => hne x.symm), if_pos rfl, eR ho (by omega), if_neg (fun x => hne x.1.symm), if_neg (fun x => hne x.1.symm), if_pos ⟨rfl, by omega⟩, show rk t - (p + 1) + (p + 1) = rk t by omega]
          exact ⟨rfl, by omega, k2⟩
      · have w1 : ho_w S rk d o p 12 t = S (2418 + t) := if_neg (fun x => v x.2.1)
        rw [if_neg (fun x => v x.2.1), w1]
        refine ⟨rfl, ?_⟩
        by_cases v2 : S (2418 + t) = d
        · have w2 : ho_r S rk d o p 12 t = rk t + (p + 1) := if_pos ⟨ht, v2⟩
          rw [v2, ← hcc] at k1
          rw [v2] at k2
          rw [v2, w2, eC hd, if_pos rfl, eR hd (by omega), if_neg (fun x => by have := x.2; omega), if_pos ⟨rfl, by omega⟩, show rk t + (p + 1) - (p + 1) = rk t by omega]
          exact ⟨by omega, k2⟩
        · have w2 : ho_r S rk d o p 12 t = rk t := by
            unfold ho_r
            rw [if_neg (fun x => v2 x.2), if_neg (fun x => v x.2.1)]
          rw [w2, eC l4, if_neg v2, if_neg v, eR l4 (by omega), if_neg (fun x => v2 x.1), if_neg (fun x => v2 x.1), if_neg (fun x => v x.1)]
          exact ⟨k1, k2⟩)
  have hR1 : z_R1 1 M10 N S1 := ⟨fun t ht x hx => by
      rw [fM _ (by omega) (by omega) (fun u hu => by omega), eT (by omega)]
      exact hR.1 t ht x hx, hds, hsn, fun b hb => by
      have hz : z_sta S1 b = z_sta S b := by
        unfold z_sta
        rw [eT (by omega), eT (by omega)]
      rw [hz, fM (1 + 3 + 1) (by omega) (by omega) (fun u hu => by omega), fM (1 + 3 + 2) (by omega) (by omega) (fun u hu => by omega), fM (1 + 3 + 3) (by omega) (by omega) (fun u hu => by omega), fM (1 + 3 + 4) (by omega) (by omega) (fun u hu => by omega), eT (by omega), eT (by omega)]
      exact hR.2.2.2.1 b hb, R_lg_S (R_lg_cg hR.2.2.2.2.1 (fun r q k1 k2 => fM _ (by omega) (by omega) (fun u hu => by omega))) (fun r hr => eT (by omega)), R_sc_S (R_sc_cg hR.2.2.2.2.2 (fM _ (by omega) (by omega) (fun u hu => by omega))) (fun k k1 k2 => eT (by omega))⟩
  have hso := cSo hsn hI1 hd
  rw [eC hd, if_pos rfl] at hso
  have hfd := cFd_ok hR.2.1 ho hox
  have hfs := cFs_ok hR.2.2.1 (I_num hI) hb hs h0
  refine ⟨S1, rk, M10, s, o, p, c, c2, by omega, hs, h0, hoo, ho, hne, hcc, hcc2, hp, hop, hcA, hcB, hrk, hS1, ?_, hR1, hI1, fun a q1 q2 q3 => fM a (by omega) (by omega) (fun u hu => by omega)⟩
  unfold fX6_promote
  simp (disch := first | omega | assumption) only [l_0, l_1, l_2, l_3, l_4, l_5, l_6, l_7, l_8, l_11, l_12, l_15, l_16, l_31, l_32, l_66, l_80, l_100, l_127, l_128, l_768, l_2304, l_2310, l_2316, l_2388, l_2394, l_2406, l_2418, l_2430, l_2558, l_2686, l_2814, l_2942, l_3070, l_3390, l_3394, l_3395, l_3396, l_3397, n_leT, n_leF, n_ltT, n_ltF, n_eqT, n_eqF, nI_add, pk_mul, n_sub, z_ldn, z_san, z_bs, z_b2s, z_b3s, z_ocN, z_ocS, z_oxL, z_oxR, z_scL, z_scR, ↓reduceIte, Nat.zero_add, Nat.add_zero, Nat.zero_lt_succ, true_and, and_true, eq_self, cDs_ok hR.2.1 hd h1, z_gdp (kd1_ds hd), csrc, hfs, z_gdp (kd1_sn hs), cs3, hfd, z_gdp (kd1_ds ho), e1, ← hM9, ← hM10, hso]
theorem k_write1 {n : Nat} (hn : n < 512) {M : zM} {N : Nat → Int32} {S : Nat → Nat} (hR : z_R1 1 M N S) (hI : z_I n S) {d f i P y : Nat} (a4 : Int32) (hd : d < 6) (h1 : S (2304 + d) = 1) (hf : f < 8) (hi : i < 16) (hP : P = 16 * f + i) (hyy : y = S (128 * d + P)) (hC : y ≠ 0 ∧ S (2558 + (y - 1)) = S 3395 ∧ S (2814 + (y - 1)) = 1) : ∃ M2 : zM, fX6_write 0 (nI d) (nI f) (nI i) a4 M = some (.inr (nI (y - 1)), M2) ∧ z_R1 1 M2 (upd N (2430 + (y - 1)) a4) S ∧ ∀ a, 84 ≤ a → a ≠ 167 → a ≠ 168 → M2 a = M a := by
  have hP8 : P < 128 := by omega
  have hQ := z_Q_of hR hI
  have hy : y ≤ 128 := by rw [hyy]; exact I_tab hI _ (by omega)
  have hrf : y ≠ 0 → S (2814 + (y - 1)) ≠ 0 := fun q => by
    rw [I_ref hI _ (by omega)]
    exact cntN_pos.mpr ⟨128 * d + P, by omega, by omega⟩
  have ho := (I_bnd hI).2.1
  have hop : M 1 4 = nI (S 3395) := hR.2.2.2.2.2.1
  have hbi := I_bir hI
  have hr3 := I_r2304 hI
  have hst := I_st hR.2.2.2.1
  have ct : M (1 + 9 + 3 * d + 1 + 1) P = nI y - nI 1 := by rw [hyy]; exact hR.1 d (by omega) P hP8
  have cb := cBn (S := S) (y := y) (o := S 3395) hst (fun b hb => (hR.2.2.2.1 b hb).2.2.1) hy hrf (fun b hb => by have := hbi b hb; omega) (by omega)
  have hb1 : ∀ b, b < 128 → S (2558 + b) < 2 ^ 31 ∧ S (2814 + b) < 2 ^ 31 := fun b hb => ⟨by have := hbi b hb; omega, by have := hr3 b hb; omega⟩
  obtain ⟨hy0, hC1, hC2⟩ := hC
  rw [if_pos ⟨hy0, hC1⟩] at cb
  obtain ⟨b, hbb⟩ : ∃ b, b = y - 1 := ⟨_, rfl⟩
  have hb8 : b < 128 := by omega
  rw [← hbb] at hC1 hC2
  have eb : nI y - nI 1 = nI b := by rw [hbb]; exact n_pm1 hy0
  rw [eb] at cb ct
  have cu : fX3_usesOf (1 + 3) (nI b) M = some (nI 1) := by
    have := (hR.2.2.2.1 b hb8).2.2.2
    rw [hC2] at this
    unfold fX3_usesOf
    simp (disch := first | omega | assumption) only [l_0, l_1, l_2, l_3, l_4, l_5, l_6, l_7, l_8, l_11, l_12, l_15, l_16, l_31, l_32, l_66, l_80, l_100, l_127, l_128, l_768, l_2304, l_2310, l_2316, l_2388, l_2394, l_2406, l_2418, l_2430, l_2558, l_2686, l_2814, l_2942, l_3070, l_3390, l_3394, l_3395, l_3396, l_3397, n_leT, n_leF, n_ltT, n_ltF, n_eqT, n_eqF, nI_add, pk_mul, n_sub, z_ldn, z_san, z_bs, z_b2s, z_b3s, z_ocN, z_ocS, z_oxL, z_oxR, z_scL, z_scR, ↓reduceIte, Nat.zero_add, Nat.add_zero, Nat.zero_lt_succ, true_and, and_true, eq_self, cIb, this]
  have cs : fX3_setValue (1 + 3) (nI b) a4 M = some (z_st M (1 + 3 + 2) b a4) := by
    unfold fX3_setValue
    simp (disch := first | omega | assumption) only [l_0, l_1, l_2, l_3, l_4, l_5, l_6, l_7, l_8, l_11, l_12, l_15, l_16, l_31, l_32, l_66, l_80, l_100, l_127, l_128, l_768, l_2304, l_2310, l_2316, l_2388, l_2394, l_2406, l_2418, l_2430, l_2558, l_2686, l_2814, l_2942, l_3070, l_3390, l_3394, l_3395, l_3396, l_3397, n_leT, n_leF, n_ltT, n_ltF, n_eqT, n_eqF, nI_add, pk_mul, n_sub, z_ldn, z_san, z_bs, z_b2s, z_b3s, z_ocN, z_ocS, z_oxL, z_oxR, z_scL, z_scR, ↓reduceIte, Nat.zero_add, Nat.add_zero, Nat.zero_lt_succ, true_and, and_true, eq_self, cIb]
  obtain ⟨M2, hM2⟩ : ∃ M2, M2 = z_st M (1 + 3 + 2) b a4 := ⟨_, rfl⟩
  have fM : ∀ a, a ≠ 1 + 3 + 2 → M2 a = M a := fun a ha => by rw [hM2, s_n ha]
  obtain ⟨N', hN'⟩ : ∃ N', N' = upd N (2430 + b) a4 := ⟨_, rfl⟩
  have hR2 : z_R1 1 M2 N' S := ⟨R_tab_cg hR.1 (fun k k1 k2 => fM k (by omega)), R_ds_cg hR.2.1 (fun k k1 k2 => fM k (by omega)), R_sn_cg hR.2.2.1 (fun k k1 k2 => fM k (by omega)), fun c hc => by
      rw [fM (1 + 3 + 1) (by decide), fM (1 + 3 + 3) (by decide), fM (1 + 3 + 4) (by decide), hM2, s_s, hN']
      refine ⟨(hR.2.2.2.1 c hc).1, ?_, (hR.2.2.2.1 c hc).2.2⟩
      by_cases q : c = b
      · rw [q, u_s, u_s]
      · rw [u_n q, u_n (by omega)]
        exact (hR.2.2.2.1 c hc).2.1, R_lg_N (R_lg_cg hR.2.2.2.2.1 (fun r q k1 k2 => fM _ (by omega))) (fun r hr => by have := I_log hI r hr; omega) (fun k k1 k2 => by rw [hN', u_n (by omega)]), R_sc_cg hR.2.2.2.2.2 (fM _ (by decide))⟩
  refine ⟨M2, ?_, by rw [← hbb, ← hN']; exact hR2, fun a q1 q2 q3 => fM a (by omega)⟩
  rw [← hbb]
  unfold fX6_write
  simp (disch := first | omega | assumption) only [l_0, l_1, l_2, l_3, l_4, l_5, l_6, l_7, l_8, l_11, l_12, l_15, l_16, l_31, l_32, l_66, l_80, l_100, l_127, l_128, l_768, l_2304, l_2310, l_2316, l_2388, l_2394, l_2406, l_2418, l_2430, l_2558, l_2686, l_2814, l_2942, l_3070, l_3390, l_3394, l_3395, l_3396, l_3397, n_leT, n_leF, n_ltT, n_ltF, n_eqT, n_eqF, nI_add, pk_mul, n_sub, z_ldn, z_san, z_bs, z_b2s, z_b3s, z_ocN, z_ocS, z_oxL, z_oxR, z_scL, z_scR, ↓reduceIte, Nat.zero_add, Nat.add_zero, Nat.zero_lt_succ, true_and, and_true, eq_self, cDs_ok hR.2.1 hd h1, z_gdp (kd1_ds hd), cPl_ok hf hi, ← hP, cBo, ct, hop, cb, cu, cs, ← hM2]
theorem k_write2 {n : Nat} (hn : n < 512) {M : zM} {N : Nat → Int32} {S : Nat → Nat} (hR : z_R1 1 M N S) (hI : z_I n S) {d f i P y x w : Nat} (a4 : Int32) (hd : d < 6) (h1 : S (2304 + d) = 1) (hf : f < 8) (hi : i < 16) (hP : P = 16 * f + i) (hyy : y = S (128 * d + P)) (hC : ¬ (y ≠ 0 ∧ S (2558 + (y - 1)) = S 3395 ∧ S (2814 + (y - 1)) = 1)) (hw : w < 32) (hxw : x = 32 * bR (gF S) 3 + w) (hx : x < 128) (hx0 : z_sta S x = 0) (hxf : ∀ j, j < w → ¬ z_sta S (32 * bR (gF S) 3 + j) = 0) : ∃ (S1 : Nat → Nat) (M2 : zM), S1 = updN (updN S (2558 + x) (S 3395)) (128 * d + P) (x + 1) ∧ fX6_write 0 (nI d) (nI f) (nI i) a4 M = some (.inr (nI x), M2) ∧ z_R1 1 M2 (upd N (2430 + x) a4) (y_mk S1) ∧ z_I n (y_mk S1) ∧ ∀ a, 84 ≤ a → a ≠ 167 → a ≠ 168 → M2 a = M a := by
  have hP8 : P < 128 := by omega
  have hQ := z_Q_of hR hI
  have hy : y ≤ 128 := by rw [hyy]; exact I_tab hI _ (by omega)
  have hrf : y ≠ 0 → S (2814 + (y - 1)) ≠ 0 := fun q => by
    rw [I_ref hI _ (by omega)]
    exact cntN_pos.mpr ⟨128 * d + P, by omega, by omega⟩
  have ho := (I_bnd hI).2.1
  have hop : M 1 4 = nI (S 3395) := hR.2.2.2.2.2.1
  have hbi := I_bir hI
  have hr3 := I_r2304 hI
  have hst := I_st hR.2.2.2.1
  have ct : M (1 + 9 + 3 * d + 1 + 1) P = nI y - nI 1 := by rw [hyy]; exact hR.1 d (by omega) P hP8
  have cb := cBn (S := S) (y := y) (o := S 3395) hst (fun b hb => (hR.2.2.2.1 b hb).2.2.1) hy hrf (fun b hb => by have := hbi b hb; omega) (by omega)
  have hb1 : ∀ b, b < 128 → S (2558 + b) < 2 ^ 31 ∧ S (2814 + b) < 2 ^ 31 := fun b hb => ⟨by have := hbi b hb; omega, by have := hr3 b hb; omega⟩
  have h3 : y = 0 ∨ (y ≠ 0 ∧ S (2558 + (y - 1)) ≠ S 3395) ∨ (y ≠ 0 ∧ S (2558 + (y - 1)) = S 3395 ∧ S (2814 + (y - 1)) ≠ 1) := by
    by_cases q : y = 0
    · exact Or.inl q
    · by_cases q2 : S (2558 + (y - 1)) = S 3395
      · exact Or.inr (Or.inr ⟨q, q2, fun q3 => hC ⟨q, q2, q3⟩⟩)
      · exact Or.inr (Or.inl ⟨q, q2⟩)
  have hcn : fX3_nextFreeBlock (1 + 3) M = some (nI x) := by
    rcases cNf (sp := 1 + 3) hst with ⟨w9, g1, g2, g3, g4⟩ | ⟨g1, g2⟩
    · have : w9 = w := by
        rcases Nat.lt_trichotomy w9 w with q | q | q
        · exact absurd g2 (hxf w9 q)
        · exact q
        · exact absurd (by rw [← hxw]; exact hx0) (g3 w q)
      rw [hxw, ← this]
      exact g4
    · exact absurd (by rw [← hxw]; exact hx0) (g1 w hw)
  have hx1 : S (2814 + x) = 0 ∧ S (2686 + x) = 0 := by
    unfold z_sta at hx0
    by_cases q : S (2814 + x) = 0
    · rw [if_neg (fun c => c q)] at hx0
      by_cases q2 : S (2686 + x) = 0
      · exact ⟨q, q2⟩
      · rw [if_pos q2] at hx0
        exact absurd hx0 (by decide)
    · rw [if_pos q] at hx0
      exact absurd hx0 (by decide)
  obtain ⟨S1, hS1⟩ : ∃ S1, S1 = updN (updN S (2558 + x) (S 3395)) (128 * d + P) (x + 1) := ⟨_, rfl⟩
  have sA : ∀ k, k ≠ 128 * d + P → k ≠ 2558 + x → S1 k = S k := fun k q1 q2 => by rw [hS1, upN_n q1, upN_n q2]
  have sP : S1 (128 * d + P) = x + 1 := by rw [hS1, upN_s]
  have sX : S1 (2558 + x) = S 3395 := by rw [hS1, upN_n (by omega), upN_s]
  obtain ⟨Ma, hMa⟩ : ∃ Ma, Ma = z_st (z_st (z_st M (1 + 3 + 1) x (nI 1)) (1 + 3 + 2) x a4) (1 + 3 + 3) x (nI (S 3395)) := ⟨_, rfl⟩
  have fMa : ∀ a, a ≠ 1 + 3 + 1 → a ≠ 1 + 3 + 2 → a ≠ 1 + 3 + 3 → Ma a = M a := fun a q1 q2 q3 => by rw [hMa, s_n q3, s_n q2, s_n q1]
  have hal : fX3_allocate (1 + 3) (nI x) a4 (nI (S 3395)) M = some Ma := by
    unfold fX3_allocate
    simp (disch := first | omega | assumption) only [l_0, l_1, l_2, l_3, l_4, l_5, l_6, l_7, l_8, l_11, l_12, l_15, l_16, l_31, l_32, l_66, l_80, l_100, l_127, l_128, l_768, l_2304, l_2310, l_2316, l_2388, l_2394, l_2406, l_2418, l_2430, l_2558, l_2686, l_2814, l_2942, l_3070, l_3390, l_3394, l_3395, l_3396, l_3397, n_leT, n_leF, n_ltT, n_ltF, n_eqT, n_eqF, nI_add, pk_mul, n_sub, z_ldn, z_san, z_bs, z_b2s, z_b3s, z_ocN, z_ocS, z_oxL, z_oxR, z_scL, z_scR, ↓reduceIte, Nat.zero_add, Nat.add_zero, Nat.zero_lt_succ, true_and, and_true, eq_self, cIb, ← hMa]
  obtain ⟨Mp, e1, e2, e3⟩ := cPut (x := x + 1) (z_T_cg hQ.1 (fMa _ (by decide) (by decide) (by decide)) (fun t ht => fMa _ (by omega) (by omega) (by omega))) (show d < 18 by omega) hP8 (by omega)
  rw [show nI (x + 1) - nI 1 = nI x from n_pm1 (by omega)] at e1
  have fM : ∀ a, a ≠ 1 + 3 + 1 → a ≠ 1 + 3 + 2 → a ≠ 1 + 3 + 3 → a ≠ 1 + 3 + 4 → a ≠ 1 + 9 + 3 * d + 1 + 1 → Mp a = M a := fun a q1 q2 q3 q4 q5 => by rw [e3 a q4 q5, fMa a q1 q2 q3]
  obtain ⟨N', hN'⟩ : ∃ N', N' = upd N (2430 + x) a4 := ⟨_, rfl⟩
  have hIs1 : z_Is n S1 := z_Is_S hI.1 (fun k k1 k2 => sA k (by omega) (by omega)) (fun k k1 k2 => sA k (by omega) (by omega))
  have hQ1 : y_Q 1 Mp N' S1 (updN (z_sta S) x 1) := by
    refine ⟨z_T_T e2 (fun k hk => ?_), R_ds_S (fun d' hd' => ?_) (fun d hd => (I_ori hI d hd).1) (fun k k1 k2 => sA k (by omega) (by omega)), R_sn_S (R_sn_cg hR.2.2.1 (fun k k1 k2 => fM k (by omega) (by omega) (by omega) (by omega) (by omega))) hI.1.2.2.2.1 (fun d hd => (I_ord hI d hd).1) (fun k k1 k2 => sA k (by omega) (by omega)), fun b hb => ⟨?_, ?_, ?_⟩, R_lg_N (R_lg_S (R_lg_cg hR.2.2.2.2.1 (fun r q k1 k2 => fM _ (by omega) (by omega) (by omega) (by omega) (by omega))) (fun r hr => sA _ (by omega) (by omega))) (fun r hr => by rw [sA _ (by omega) (by omega)]; have := I_log hI r hr; omega) (fun k k1 k2 => by rw [hN', u_n (by omega)]), R_sc_S (R_sc_cg hR.2.2.2.2.2 (fM _ (by decide) (by decide) (by decide) (by decide) (by omega))) (fun k k1 k2 => sA k (by omega) (by omega))⟩
    · unfold updN
      by_cases q : k = 128 * d + P
      · rw [if_pos q, q, sP]
      · rw [if_neg q, sA k q (by omega)]
    · rw [fM _ (by omega) (by omega) (by omega) (by omega) (by omega)]
      exact hR.2.1 d' hd'
    · rw [e3 _ (by decide) (by omega), hMa, s_n (by decide), s_n (by decide), s_s]
      by_cases q : b = x
      · rw [q, u_s, upN_s]
      · rw [u_n q, upN_n q]
        exact hst b hb
    · rw [e3 _ (by decide) (by omega), hMa, s_n (by decide), s_s, s_n (by decide), hN']
      by_cases q : b = x
      · rw [q, u_s, u_s]
      · rw [u_n q, u_n (by omega)]
        exact (hR.2.2.2.1 b hb).2.1
    · rw [e3 _ (by decide) (by omega), hMa, s_s, s_n (by decide), s_n (by decide)]
      by_cases q : b = x
      · rw [q, u_s, sX]
      · rw [u_n q, sA _ (by omega) (by omega)]
        exact (hR.2.2.2.1 b hb).2.2.1
  have hH : z_H S1 (updN (z_sta S) x 1) := fun b hb => by
    have hz : z_sta S1 b = z_sta S b := by
      unfold z_sta
      rw [sA _ (by omega) (by omega), sA (2686 + b) (by omega) (by omega)]
    by_cases q : b = x
    · subst q
      have hc : cntN S1 (b + 1) 2304 ≠ 0 := cntN_pos.mpr ⟨128 * d + P, by omega, sP⟩
      exact ⟨fun c => absurd c hc, fun _ => ⟨upN_s, by rw [sA _ (by omega) (by omega)]; exact hx1.2⟩⟩
    · rw [upN_n q, hz]
      refine ⟨fun _ => rfl, fun c => ?_⟩
      obtain ⟨k, hk, c2⟩ := cntN_pos.mp c
      have hkP : k ≠ 128 * d + P := fun e => by
        rw [e, sP] at c2
        omega
      rw [sA k hkP (by omega)] at c2
      have c3 : S (2814 + b) ≠ 0 := by
        rw [I_ref hI b hb]
        exact cntN_pos.mpr ⟨k, hk, c2⟩
      exact ⟨if_pos c3, by rw [sA _ (by omega) (by omega)]; exact (I_pen hI b hb).2 c3⟩
  have hbi1 : ∀ b, b < 128 → S1 (2558 + b) ≤ n + 1 := fun b hb => by
    by_cases q : b = x
    · rw [q, sX]
      exact ho
    · rw [sA _ (by omega) (by omega)]
      exact hbi b hb
  obtain ⟨M2, g1, g2, g3⟩ := z_settle (n := n) (by omega) hQ1 hH hIs1 hbi1
  have g4 : z_I n (y_mk S1) := z_I_mk hIs1 hH hQ1.1.2.2 (fun d' hd' q p hp => by
      rw [sA _ (by omega) (by omega)] at q
      have hne : d' ≠ d := fun e => by rw [e] at q; omega
      rw [sA _ (by omega) (by omega)]
      exact I_te hI d' hd' q p hp) (fun s hs q p hp => by
      rw [sA _ (by omega) (by omega)] at q
      rw [sA _ (by omega) (by omega)]
      exact I_se hI s hs q p hp) (fun b hb => by rw [sA _ (by omega) (by omega)]; exact I_p1 hI b hb) hbi1
  refine ⟨S1, M2, hS1, ?_, by rw [← hN']; exact g2, g4, fun a q1 q2 q3 => by rw [g3 a (by omega), fM a (by omega) (by omega) (by omega) (by omega) (by omega)]⟩
  rw [cW_no (v := nI (sumN (lostN S1) 128)) hR hd h1 hf hi hP hyy hy hrf hb1 (by omega) h3 hcn (Or.inr ⟨n_m1c (by omega), hal, e1, g1, rfl⟩)]
theorem lgE_m {k j : Nat} {g1 g0 g2 : Nat → Nat} : (lgE k g1 g0 g2 j).2.2 ≤ 1 := by
  unfold lgE
  split
  · exact Nat.le_refl _
  · split
    · exact Nat.le_refl _
    · exact Nat.zero_le _
theorem Fcm_ex (S : Nat → Nat) (N : Nat → Int32) : ∃ N', Fcm S N N' := by
  refine ⟨fun k => if 3070 ≤ k ∧ k < 3390 then (if cmO S ((k - 3070) / 80) ((k - 3070) % 80) then N k else (if (cmE S ((k - 3070) / 80) ((k - 3070) % 80)).2.2 = 0 then -nI (100 * (32 * ((k - 3070) / 80) + (cmE S ((k - 3070) / 80) ((k - 3070) % 80)).1) + (cmE S ((k - 3070) / 80) ((k - 3070) % 80)).2.1) else nI (100 * (32 * ((k - 3070) / 80) + (cmE S ((k - 3070) / 80) ((k - 3070) % 80)).1) + (cmE S ((k - 3070) / 80) ((k - 3070) % 80)).2.1))) else N k, fun k k1 k2 => if_neg (by omega), fun r hr j hj => ?_⟩
  have hj80 : j < 80 := by
    have := cmN_le (S := S) (r := r)
    omega
  have e1 : (3070 + 80 * r + j - 3070) / 80 = r := by omega
  have e2 : (3070 + 80 * r + j - 3070) % 80 = j := by omega
  simp only [e1, e2]
  rw [if_pos (by omega)]
  refine ⟨fun h => if_pos h, fun h => ?_⟩
  rw [if_neg h]
  have hm : (cmE S r j).2.2 ≤ 1 := lgE_m
  by_cases q : (cmE S r j).2.2 = 0
  · rw [if_pos q, q]
    exact Or.inr ⟨rfl, rfl⟩
  · rw [if_neg q, show (cmE S r j).2.2 = 1 by omega]
    exact Or.inl ⟨rfl, rfl⟩
theorem k_commit {n : Nat} {M : zM} {N N0 : Nat → Int32} {S S0 : Nat → Nat} (hR : z_R1 1 M N S) (hR0 : z_R1 84 M N0 S0) (hI : z_I n S) (hB : z_Bf S S0) : ∃ (M2 : zM) (N' : Nat → Int32), Fcm S N N' ∧ fX6_commit 0 M = some (nI (S 3395), M2) ∧ z_R1 1 M2 N' (cmS S) ∧ z_R1 84 M2 N' (cmS S) ∧ z_I (n + 1) (cmS S) ∧ ∀ a, 167 ≤ a → M2 a = M a := by
  have hb := I_bnd hI
  have hI' : z_I (n + 1) (cmS S) := cm_I hI.1 hI.2 (by omega) hb.2.1 hb.2.2.1 hb.2.2.2
  obtain ⟨N', hF⟩ := Fcm_ex S N
  obtain ⟨M2, e1, e2, e3⟩ := cClose hR hR0 hI hI' hB hF
  obtain ⟨r1, r2⟩ := e2 _ hF
  refine ⟨M2, N', hF, ?_, r1, r2, hI', e3⟩
  unfold fX6_commit
  simp (disch := first | omega | assumption) only [l_0, l_1, l_2, l_3, l_4, l_5, l_6, l_7, l_8, l_11, l_12, l_15, l_16, l_31, l_32, l_66, l_80, l_100, l_127, l_128, l_768, l_2304, l_2310, l_2316, l_2388, l_2394, l_2406, l_2418, l_2430, l_2558, l_2686, l_2814, l_2942, l_3070, l_3390, l_3394, l_3395, l_3396, l_3397, n_leT, n_leF, n_ltT, n_ltF, n_eqT, n_eqF, nI_add, pk_mul, n_sub, z_ldn, z_san, z_bs, z_b2s, z_b3s, z_ocN, z_ocS, z_oxL, z_oxR, z_scL, z_scR, ↓reduceIte, Nat.zero_add, Nat.add_zero, Nat.zero_lt_succ, true_and, and_true, eq_self, e1]
theorem k_crash {n : Nat} {M : zM} {N N0 : Nat → Int32} {S S0 : Nat → Nat} (hR : z_R1 1 M N S) (hR0 : z_R1 84 M N0 S0) (hI0 : z_I n S0) : ∃ M2 : zM, fX6_crash 0 M = some (nI (S0 3395), M2) ∧ z_R1 1 M2 N0 S0 ∧ ∀ a, 84 ≤ a → M2 a = M a := by
  obtain ⟨M1, e1, e2, e3⟩ := cCopy (V := 1) (W := 84) (by decide) hR0 hI0 (fun r hr => (hR.2.2.2.2.1 r hr).1)
  have e2 := e2 _ hR0
  have cx : M1 1 4 = nI (S0 3395) := e2.2.2.2.2.2.1
  refine ⟨M1, ?_, e2, fun a ha => e3 a (by omega)⟩
  unfold fX6_crash
  simp (disch := first | omega | assumption) only [l_0, l_1, l_2, l_3, l_4, l_5, l_6, l_7, l_8, l_11, l_12, l_15, l_16, l_31, l_32, l_66, l_80, l_100, l_127, l_128, l_768, l_2304, l_2310, l_2316, l_2388, l_2394, l_2406, l_2418, l_2430, l_2558, l_2686, l_2814, l_2942, l_3070, l_3390, l_3394, l_3395, l_3396, l_3397, n_leT, n_leF, n_ltT, n_ltF, n_eqT, n_eqF, nI_add, pk_mul, n_sub, z_ldn, z_san, z_bs, z_b2s, z_b3s, z_ocN, z_ocS, z_oxL, z_oxR, z_scL, z_scR, ↓reduceIte, Nat.zero_add, Nat.add_zero, Nat.zero_lt_succ, true_and, and_true, eq_self, e1, cx]
theorem k_snap {n : Nat} (hn : n < 512) {M : zM} {N N0 : Nat → Int32} {S S0 : Nat → Nat} (hR : z_R1 1 M N S) (hR0 : z_R1 84 M N0 S0) (hI : z_I n S) (hB : z_Bf S S0) {d s c : Nat} (hd : d < 6) (h1 : S (2304 + d) = 1) (hs : s < 12) (h2 : S (2394 + s) = 0) (h3 : ∀ j, j < s → S (2394 + j) ≠ 0) (hcc : c = S (2388 + d)) : ∃ (M2 : zM) (N' : Nat → Int32), c ≤ 11 ∧ z_I (n + 1) (y_mk (snS S d s c)) ∧ Fcm (y_mk (snS S d s c)) N N' ∧ fX6_snapshot 0 (nI d) M = some (.inr (nI (S 3394)), M2) ∧ z_R1 1 M2 N' (cmS (y_mk (snS S d s c))) ∧ z_R1 84 M2 N' (cmS (y_mk (snS S d s c))) ∧ z_I (n + 1) (cmS (y_mk (snS S d s c))) ∧ ∀ a, 167 ≤ a → M2 a = M a := by
  have hb := hb30 hI hn
  have hus : fX5_unusedSnapshot 1 M = some (some (1 + 27 + 3 * s)) := by
    rcases cUs hR.2.2.1 with ⟨s9, hs9, q1, q2, q3⟩ | ⟨q1, q2⟩
    · have : s9 = s := by
        rcases Nat.lt_trichotomy s9 s with q | q | q
        · exact absurd q1 (h3 s9 q)
        · exact q
        · exact absurd h2 (q2 s q)
      rw [← this]
      exact q3
    · exact absurd h2 (q1 s hs)
  have hc : c ≤ 11 := by rw [hcc]; exact own11 hI hd hs h2
  obtain ⟨M8, e1, e2, e3⟩ := cTk hR hI hd hs h2 hcc
  have hIs1 := sn_Is hI hd h1 hs h2 hcc
  have hbd := I_bnd hI
  have eE := fun {k : Nat} (h : (2304 ≤ k ∧ k < 2316) ∨ (2430 ≤ k ∧ k ≠ 3394)) => sn_E (S := S) hd hs hc h
  have eN := fun {t : Nat} (ht : t < 12) => sn_N (S := S) hd hs hc ht
  have eX := fun {t : Nat} (ht : t < 12) => sn_X (S := S) hd hs hc ht
  have eT := fun {k : Nat} (hk : k < 2304) => sn_T (S := S) hd hs hc hk
  have e9 := sn_9 (S := S) hd hs hc
  obtain ⟨g2, g4⟩ := z_set3 e2 (z_I_mono hI) hIs1 (fun k hk => by
      rw [eT hk]
      split
      · exact Or.inr ⟨_, by omega, rfl⟩
      · exact Or.inr ⟨k, hk, rfl⟩) (fun d2 hd2 q p hp => by
      rw [eE (by omega)] at q
      rw [eT (by omega), if_neg (by omega)]
      exact I_te hI d2 hd2 q p hp) (fun t ht q p hp => by
      rw [eN ht] at q
      by_cases y : t = s
      · rw [if_pos y] at q
        omega
      · rw [if_neg y] at q
        rw [eT (by omega), if_neg (by omega)]
        exact I_se hI t ht q p hp) (fun k k1 k2 => eE (by omega)) (fun k hk q => by
      rw [eT hk, if_neg]
      intro y
      have := I_se hI s hs h2 (k - (768 + 128 * s)) (by omega)
      rw [show 768 + 128 * s + (k - (768 + 128 * s)) = k by omega] at this
      exact q this)
  obtain ⟨S2, hS2⟩ : ∃ S2, S2 = y_mk (snS S d s c) := ⟨_, rfl⟩
  have yo : ∀ k, (k < 2686 ∨ 2942 ≤ k) → S2 k = snS S d s c k := fun k hk => by rw [hS2]; exact y_mk_o hk
  rw [← hS2] at g2 g4
  have hB2 : z_Bf S2 S0 := fun b hb => by
    rw [yo _ (by omega), eE (by omega)]
    exact hB b hb
  obtain ⟨t1, t2, t3, t4, t5, t6⟩ := g4.2
  have hIt : z_It n S2 := ⟨t1, t2, t3, t4, t5, fun b hb => by
    rw [yo _ (by omega), eE (by omega)]
    exact I_bir hI b hb⟩
  have hI' : z_I (n + 1) (cmS S2) := cm_I g4.1 hIt (by rw [yo _ (by omega), e9]; omega) (by rw [yo _ (by omega), eE (by omega)]; exact hbd.2.1) (by rw [yo _ (by omega), eE (by omega)]; exact hbd.2.2.1) (fun t ht => by
    rw [yo _ (by omega), eX ht]
    have := hbd.2.2.2 t ht
    have := hbd.2.1
    split <;> omega)
  have hbf := Bf_1 hB2
  obtain ⟨N1, hF1⟩ := Fcm_ex S2 N
  obtain ⟨M9, k1, k2, k3⟩ := cClose (N0 := N0) g2 (z_R1_cg hR0 (fun k q1 q2 _ => e3 k (by omega))) g4 hI' hB2 hF1
  have f9 : ∀ a, 167 ≤ a → M9 a = M a := fun a ha => by rw [k3 a ha, e3 a (by omega)]
  have hnum : M9 (1 + 27 + 3 * s) 2 = nI (S 3394) := by
    have e : cmS S2 (2394 + s) = S 3394 + 1 := by rw [cm_o (by omega), yo _ (by omega), eN hs, if_pos rfl]
    have := (((k2 N1 hF1).1.2.2.1 s hs).2 (by rw [e]; omega)).1
    rw [e, Nat.add_sub_cancel] at this
    exact this
  obtain ⟨r1, r2⟩ := k2 _ hF1
  refine ⟨M9, N1, hc, by rw [← hS2]; exact g4, by rw [← hS2]; exact hF1, ?_, by rw [← hS2]; exact r1, by rw [← hS2]; exact r2, by rw [← hS2]; exact hI', f9⟩
  unfold fX6_snapshot
  simp (disch := first | omega | assumption) only [l_0, l_1, l_2, l_3, l_4, l_5, l_6, l_7, l_8, l_11, l_12, l_15, l_16, l_31, l_32, l_66, l_80, l_100, l_127, l_128, l_768, l_2304, l_2310, l_2316, l_2388, l_2394, l_2406, l_2418, l_2430, l_2558, l_2686, l_2814, l_2942, l_3070, l_3390, l_3394, l_3395, l_3396, l_3397, n_leT, n_leF, n_ltT, n_ltF, n_eqT, n_eqF, nI_add, pk_mul, n_sub, z_ldn, z_san, z_bs, z_b2s, z_b3s, z_ocN, z_ocS, z_oxL, z_oxR, z_scL, z_scR, ↓reduceIte, Nat.zero_add, Nat.add_zero, Nat.zero_lt_succ, true_and, and_true, eq_self, cDs_ok hR.2.1 hd h1, z_gdp (kd1_ds hd), hus, z_gdp (kd1_sn hs), e1, k1, hnum]
