/-- the class records in log X what a transaction changed -/
theorem cRec {X a b r k : Nat} {M : zM} {sa sb g1 g0 g2 : Nat → Nat} (hr : r < 4) (h0 : M X 0 = nI (32 * r)) (h4 : M X 4 = nI k) (hk : k ≤ 34) (ha : ∀ c, c < 128 → M (a + 1) c = nI (sa c) ∧ sa c ≤ 2) (hb : ∀ c, c < 128 → M (b + 1) c = nI (sb c) ∧ sb c ≤ 2) (da : a + 1 < X ∨ X + 5 ≤ a + 1) (db : b + 1 < X ∨ X + 5 ≤ b + 1) (hg1 : ∀ p, p < 32 → g1 p = if sa (32 * r + p) = 1 ∧ sb (32 * r + p) ≠ 1 then 1 else 0) (hg0 : ∀ p, p < 32 → g0 p = if sb (32 * r + p) = 1 ∧ sa (32 * r + p) ≠ 1 then 1 else 0) (hg2 : ∀ p, p < 32 → g2 p = if sa (32 * r + p) = 1 then 1 else 0) (l1 : ∀ p, g1 p ≤ 1) (l0 : ∀ p, g0 p ≤ 1) (l2 : ∀ p, g2 p ≤ 1) (z1 : g1 32 = 0) (z0 : g0 32 = 0) (z2 : g2 32 = 0) : ∃ M', fX1_record X a b M = some (nI (if lgC k g1 g0 g2 then 1 else 0), M') ∧ M' X 0 = nI (32 * r) ∧ M' X 4 = nI (lgN k g1 g0 g2) ∧ (∀ j, j < lgN k g1 g0 g2 → (lgO k g1 g0 g2 j → ∀ q, 1 ≤ q → q ≤ 3 → M' (X + q) j = M (X + q) j) ∧ (¬ lgO k g1 g0 g2 j → M' (X + 1) j = nI (32 * r + (lgE k g1 g0 g2 j).1) ∧ M' (X + 2) j = nI (lgE k g1 g0 g2 j).2.1 ∧ M' (X + 3) j = nI (lgE k g1 g0 g2 j).2.2)) ∧ ∀ c, (c < X ∨ X + 5 ≤ c) → M' c = M c := by
  have c1 := rl16 (g := g1)
  have c0 := rl16 (g := g0)
  have c2 := rl16 (g := g2)
  obtain ⟨M1, a1, a2, a3⟩ := cMk hr h0 ha hb da db hg1
  obtain ⟨M2, b1, b2, b3, b4, b5, b6⟩ := cRuns (M := M1) (m := 1) (k := k) hr (Nat.le_refl _) (by omega) (by rw [a2 _ (by omega)]; exact h0) (by rw [a2 _ (by omega)]; exact h4) a3 l1 z1
  have f2 : ∀ c, (c < X ∨ X + 5 ≤ c) → M2 c = M c := fun c hc => by rw [b6 c (by omega), a2 c (by omega)]
  have x2 : M2 X 0 = nI (32 * r) := by rw [b3 0 (by decide), a2 _ (by omega)]; exact h0
  obtain ⟨M3, d1, d2, d3⟩ := cMk (M := M2) hr x2 (fun c hc => by rw [f2 _ (by omega)]; exact hb c hc) (fun c hc => by rw [f2 _ (by omega)]; exact ha c hc) db da hg0
  obtain ⟨M4, e1, e2, e3, e4, e5, e6⟩ := cRuns (M := M3) (m := 0) (k := k + (rl g1 33).1) hr (by decide) (by omega) (by rw [d2 _ (by omega)]; exact x2) (by rw [d2 _ (by omega)]; exact b2) d3 l0 z0
  have f4 : ∀ c, (c < X ∨ X + 5 ≤ c) → M4 c = M c := fun c hc => by rw [e6 c (by omega), d2 c (by omega), f2 c hc]
  have x4 : M4 X 0 = nI (32 * r) := by rw [e3 0 (by decide), d2 _ (by omega)]; exact x2
  obtain ⟨M5, g5, h5, i5⟩ := cMa (M := M4) hr x4 (fun c hc => by rw [f4 _ (by omega)]; exact ha c hc) da hg2
  have j5 := cCr i5 l2 z2
  have x5 : M5 X 4 = nI (k + (rl g1 33).1 + (rl g0 33).1) := by rw [h5 _ (by omega)]; exact e2
  have x50 : M5 X 0 = nI (32 * r) := by rw [h5 _ (by omega)]; exact x4
  unfold fX1_record
  by_cases q : lgC k g1 g0 g2
  · obtain ⟨M6, hM6⟩ : ∃ M6, M6 = z_st M5 X 4 (nI 0) := ⟨_, rfl⟩
    obtain ⟨M7, k1, k2, k3, k4, k5, k6⟩ := cRuns (M := M6) (m := 1) (k := 0) (g := g2) hr (Nat.le_refl _) (by decide) (by rw [hM6, s_s, u_n (by decide)]; exact x50) (by rw [hM6, s_s, u_s]) (fun p hp => by rw [hM6, s_n (by omega)]; exact i5 p hp) l2 z2
    have eN : lgN k g1 g0 g2 = (rl g2 33).1 := if_pos q
    rw [if_pos q, eN]
    refine ⟨M7, ?_, ?_, ?_, fun j hj => ⟨fun x => absurd q x.1, fun _ => ?_⟩, fun c hc => by rw [k6 c (by omega), hM6, s_n (by omega), h5 c (by omega), f4 c hc]⟩
    · simp (disch := first | omega | assumption) only [l_0, l_1, l_2, l_3, l_4, l_5, l_6, l_7, l_8, l_11, l_12, l_15, l_16, l_31, l_32, l_66, l_80, l_100, l_127, l_128, l_768, l_2304, l_2310, l_2316, l_2388, l_2394, l_2406, l_2418, l_2430, l_2558, l_2686, l_2814, l_2942, l_3070, l_3390, l_3394, l_3395, l_3396, l_3397, n_leT, n_leF, n_ltT, n_ltF, n_eqT, n_eqF, nI_add, pk_mul, n_sub, z_ldn, z_san, z_bs, z_b2s, z_b3s, z_ocN, z_ocS, z_oxL, z_oxR, z_scL, z_scR, ↓reduceIte, st_170, st_171, st_172, st_173, Nat.zero_add, Nat.add_zero, Nat.zero_lt_succ, true_and, and_true, eq_self, a1, b1, d1, e1, g5, j5, x5, ← hM6, k1]
    · rw [k3 0 (by decide), hM6, s_s, u_n (by decide)]
      exact x50
    · rw [k2, Nat.zero_add]
    · have eE : lgE k g1 g0 g2 j = (((rl g2 33).2 j).1, ((rl g2 33).2 j).2, 1) := if_pos q
      have := k5 j hj
      rw [Nat.zero_add] at this
      rw [eE]
      exact this
  · have eN : lgN k g1 g0 g2 = k + (rl g1 33).1 + (rl g0 33).1 := if_neg q
    rw [if_neg q, eN]
    have row5 : ∀ q j, 1 ≤ q → q ≤ 3 → M5 (X + q) j = M4 (X + q) j := fun q j q1 q3 => by rw [h5 _ (by omega)]
    refine ⟨M5, ?_, x50, x5, fun j hj => ⟨fun x q1 q2 q3 => ?_, fun x => ?_⟩, fun c hc => by rw [h5 c (by omega), f4 c hc]⟩
    · simp (disch := first | omega | assumption) only [l_0, l_1, l_2, l_3, l_4, l_5, l_6, l_7, l_8, l_11, l_12, l_15, l_16, l_31, l_32, l_66, l_80, l_100, l_127, l_128, l_768, l_2304, l_2310, l_2316, l_2388, l_2394, l_2406, l_2418, l_2430, l_2558, l_2686, l_2814, l_2942, l_3070, l_3390, l_3394, l_3395, l_3396, l_3397, n_leT, n_leF, n_ltT, n_ltF, n_eqT, n_eqF, nI_add, pk_mul, n_sub, z_ldn, z_san, z_bs, z_b2s, z_b3s, z_ocN, z_ocS, z_oxL, z_oxR, z_scL, z_scR, ↓reduceIte, st_170, st_171, st_172, st_173, Nat.zero_add, Nat.add_zero, Nat.zero_lt_succ, true_and, and_true, eq_self, a1, b1, d1, e1, g5, j5, x5]
    · rw [row5 q1 j q2 q3, e4 q1 j q2 q3 (by have := x.2; omega), d2 _ (by omega), b4 q1 j q2 q3 x.2, a2 _ (by omega)]
    · have hkj : k ≤ j := Nat.le_of_not_lt (fun y => x ⟨q, y⟩)
      rw [row5 1 j (by omega) (by omega), row5 2 j (by omega) (by omega), row5 3 j (by omega) (by omega)]
      by_cases y : j < k + (rl g1 33).1
      · have eE : lgE k g1 g0 g2 j = (((rl g1 33).2 (j - k)).1, ((rl g1 33).2 (j - k)).2, 1) := by
          unfold lgE
          rw [if_neg q, if_pos y]
        have := b5 (j - k) (by omega)
        rw [show k + (j - k) = j by omega] at this
        rw [eE, e4 1 j (by omega) (by omega) y, e4 2 j (by omega) (by omega) y, e4 3 j (by omega) (by omega) y, d2 _ (by omega), d2 _ (by omega), d2 _ (by omega)]
        exact this
      · have eE : lgE k g1 g0 g2 j = (((rl g0 33).2 (j - (k + (rl g1 33).1))).1, ((rl g0 33).2 (j - (k + (rl g1 33).1))).2, 0) := by
          unfold lgE
          rw [if_neg q, if_neg y]
        have := e5 (j - (k + (rl g1 33).1)) (by omega)
        rw [show k + (rl g1 33).1 + (j - (k + (rl g1 33).1)) = j by omega] at this
        rw [eE]
        exact this
