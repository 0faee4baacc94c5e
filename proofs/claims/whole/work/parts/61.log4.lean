/-- the model's log of region r at a commit -/
theorem mRec {M : zM} {S : Nat → Nat} {k r cn : Nat} (hr : r < 4) (hk : k ≤ 34) (h4 : M 170 (3390 + r) = nI k) (hcn : M 170 3396 = nI cn) (hf1 : ∀ b, b < 128 → M 170 (2814 + b) = nI (S (2814 + b)) ∧ S (2814 + b) ≤ 2304) (hf2 : ∀ b, b < 128 → M 170 (2942 + b) = nI (S (2942 + b)) ∧ S (2942 + b) ≤ 1) : ∃ M', fX7_commits_L1 169 (nI r) M = some (.inl (nI (r + 1), M')) ∧ (∀ a, a ≠ 170 → M' a = M a) ∧ M' 170 (3390 + r) = nI (lgN k (gR S 1 r) (gR S 0 r) (gR S 2 r)) ∧ (∀ j, j < lgN k (gR S 1 r) (gR S 0 r) (gR S 2 r) → (lgO k (gR S 1 r) (gR S 0 r) (gR S 2 r) j → M' 170 (3070 + 80 * r + j) = M 170 (3070 + 80 * r + j)) ∧ (¬ lgO k (gR S 1 r) (gR S 0 r) (gR S 2 r) j → z_entry (M' 170 (3070 + 80 * r + j)) (32 * r + (lgE k (gR S 1 r) (gR S 0 r) (gR S 2 r) j).1) (lgE k (gR S 1 r) (gR S 0 r) (gR S 2 r) j).2.1 (nI (lgE k (gR S 1 r) (gR S 0 r) (gR S 2 r) j).2.2))) ∧ M' 170 3396 = nI (cn + (if lgC k (gR S 1 r) (gR S 0 r) (gR S 2 r) then 1 else 0)) ∧ ∀ k', k' ≠ 3390 + r → k' ≠ 3396 → (k' < 3070 + 80 * r ∨ 3070 + 80 * r + 80 ≤ k') → M' 170 k' = M 170 k' := by
  obtain ⟨g1, hg1⟩ : ∃ g, g = gR S 1 r := ⟨_, rfl⟩
  obtain ⟨g0, hg0⟩ : ∃ g, g = gR S 0 r := ⟨_, rfl⟩
  obtain ⟨g2, hg2⟩ : ∃ g, g = gR S 2 r := ⟨_, rfl⟩
  obtain ⟨M1, a1, a2, _, a3⟩ := mRuns (kd := 1) (w := 1) hr (by decide) (Nat.le_refl _) (show k ≤ 50 by omega) (fun _ => h4) hf1 hf2
  obtain ⟨a3, a4, a5⟩ := a3 rfl
  rw [← hg1] at a1 a3 a5
  have c1 := rl16 (g := g1)
  obtain ⟨M2, b1, b2, _, b3⟩ := mRuns (M := M1) (S := S) (kd := 0) (w := 1) (k := k + (rl g1 33).1) hr (by decide) (Nat.le_refl _) (by omega) (fun _ => a3) (fun b hb => by rw [a4 _ (by omega) (Or.inl (by omega))]; exact hf1 b hb) (fun b hb => by rw [a4 _ (by omega) (Or.inl (by omega))]; exact hf2 b hb)
  obtain ⟨b3, b4, b5⟩ := b3 rfl
  rw [← hg0] at b1 b3 b5
  have c0 := rl16 (g := g0)
  have f2 : ∀ k', k' ≠ 3390 + r → (k' < 3070 + 80 * r + k ∨ 3070 + 80 * r + 80 ≤ k') → M2 170 k' = M 170 k' := fun k' n1 n2 => by rw [b4 k' n1 (by omega), a4 k' n1 n2]
  obtain ⟨M3, d1, _, d2, _⟩ := mRuns (M := M2) (S := S) (kd := 2) (w := 0) (k := 0) hr (by decide) (by decide) (by decide) (fun x => absurd x (by decide)) (fun b hb => by rw [f2 _ (by omega) (Or.inl (by omega))]; exact hf1 b hb) (fun b hb => by rw [f2 _ (by omega) (Or.inl (by omega))]; exact hf2 b hb)
  have d2 := d2 rfl
  rw [d2, ← hg2] at d1
  have c2 := rl16 (g := g2)
  have hsz : M2 (169 + 1) (3390 + r) = nI (k + (rl g1 33).1 + (rl g0 33).1) := b3
  have h96 : M2 170 3396 = nI cn := by rw [f2 _ (by omega) (Or.inr (by omega))]; exact hcn
  rw [← hg1, ← hg0, ← hg2]
  by_cases q : lgC k g1 g0 g2
  · obtain ⟨M4, hM4⟩ : ∃ M4, M4 = z_st M2 (169 + 1) (3390 + r) (nI 0) := ⟨_, rfl⟩
    have hM4r : M4 170 = upd (M2 170) (3390 + r) (nI 0) := by rw [hM4, show (170 : Nat) = 169 + 1 from rfl, s_s]
    obtain ⟨M5, e1, e2, _, e3⟩ := mRuns (M := M4) (S := S) (kd := 2) (w := 1) (k := 0) hr (by decide) (Nat.le_refl _) (by decide) (fun _ => by rw [hM4r, u_s]) (fun b hb => by rw [hM4r, u_n (by omega), f2 _ (by omega) (Or.inl (by omega))]; exact hf1 b hb) (fun b hb => by rw [hM4r, u_n (by omega), f2 _ (by omega) (Or.inl (by omega))]; exact hf2 b hb)
    obtain ⟨e3, e4, e5⟩ := e3 rfl
    rw [← hg2] at e1 e3 e5
    rw [Nat.zero_add] at e3
    have h96' : M5 (169 + 1) 3396 = nI cn := by
      rw [show M5 (169 + 1) = M5 170 from rfl, e4 _ (by omega) (Or.inr (by omega)), hM4r, u_n (by omega)]
      exact h96
    obtain ⟨M6, hM6⟩ : ∃ M6, M6 = z_st M5 (169 + 1) 3396 (nI (cn + 1)) := ⟨_, rfl⟩
    have hM6r : M6 170 = upd (M5 170) 3396 (nI (cn + 1)) := by rw [hM6, show (170 : Nat) = 169 + 1 from rfl, s_s]
    have eN : lgN k g1 g0 g2 = (rl g2 33).1 := if_pos q
    rw [eN, if_pos q]
    refine ⟨M6, ?_, fun a ha => ?_, ?_, fun j hj => ⟨fun x => absurd q x.1, fun _ => ?_⟩, ?_, fun k' n1 n2 n3 => ?_⟩
    · unfold fX7_commits_L1
      simp (disch := first | omega | assumption) only [l_0, l_1, l_2, l_3, l_4, l_5, l_6, l_7, l_8, l_11, l_12, l_15, l_16, l_31, l_32, l_66, l_80, l_100, l_127, l_128, l_768, l_2304, l_2310, l_2316, l_2388, l_2394, l_2406, l_2418, l_2430, l_2558, l_2686, l_2814, l_2942, l_3070, l_3390, l_3394, l_3395, l_3396, l_3397, n_leT, n_leF, n_ltT, n_ltF, n_eqT, n_eqF, nI_add, pk_mul, n_sub, z_ldn, z_san, z_bs, z_b2s, z_b3s, z_ocN, z_ocS, z_oxL, z_oxR, z_scL, z_scR, ↓reduceIte, st_170, st_171, st_172, st_173, Nat.zero_add, Nat.add_zero, Nat.zero_lt_succ, true_and, and_true, eq_self, a1, b1, hsz, d1, ← hM4, e1, h96', ← hM6]
    · rw [hM6, s_n ha, e2 a ha, hM4, s_n ha, b2 a ha, a2 a ha]
    · rw [hM6r, u_n (by omega)]
      exact e3
    · have eE : lgE k g1 g0 g2 j = (((rl g2 33).2 j).1, ((rl g2 33).2 j).2, 1) := if_pos q
      have := e5 j hj
      rw [Nat.zero_add] at this
      rw [eE, hM6r, u_n (by omega), this]
      exact Or.inl ⟨rfl, rfl⟩
    · rw [hM6r, u_s]
    · rw [hM6r, u_n n2, e4 k' n1 (by omega), hM4r, u_n n1, f2 k' n1 (by omega)]
  · have eN : lgN k g1 g0 g2 = k + (rl g1 33).1 + (rl g0 33).1 := if_neg q
    rw [eN, if_neg q]
    refine ⟨M2, ?_, fun a ha => by rw [b2 a ha, a2 a ha], b3, fun j hj => ⟨fun x => ?_, fun x => ?_⟩, h96, fun k' n1 n2 n3 => f2 k' n1 (by omega)⟩
    · unfold fX7_commits_L1
      simp (disch := first | omega | assumption) only [l_0, l_1, l_2, l_3, l_4, l_5, l_6, l_7, l_8, l_11, l_12, l_15, l_16, l_31, l_32, l_66, l_80, l_100, l_127, l_128, l_768, l_2304, l_2310, l_2316, l_2388, l_2394, l_2406, l_2418, l_2430, l_2558, l_2686, l_2814, l_2942, l_3070, l_3390, l_3394, l_3395, l_3396, l_3397, n_leT, n_leF, n_ltT, n_ltF, n_eqT, n_eqF, nI_add, pk_mul, n_sub, z_ldn, z_san, z_bs, z_b2s, z_b3s, z_ocN, z_ocS, z_oxL, z_oxR, z_scL, z_scR, ↓reduceIte, st_170, st_171, st_172, st_173, Nat.zero_add, Nat.add_zero, Nat.zero_lt_succ, true_and, and_true, eq_self, a1, b1, hsz, d1]
    · exact f2 _ (by omega) (Or.inl (by have := x.2; omega))
    · have hkj : k ≤ j := Nat.le_of_not_lt (fun y => x ⟨q, y⟩)
      by_cases y : j < k + (rl g1 33).1
      · have eE : lgE k g1 g0 g2 j = (((rl g1 33).2 (j - k)).1, ((rl g1 33).2 (j - k)).2, 1) := by
          unfold lgE
          rw [if_neg q, if_pos y]
        have := a5 (j - k) (by omega)
        rw [show k + (j - k) = j by omega] at this
        rw [eE, b4 _ (by omega) (Or.inl (by omega)), this]
        exact Or.inl ⟨rfl, rfl⟩
      · have eE : lgE k g1 g0 g2 j = (((rl g0 33).2 (j - (k + (rl g1 33).1))).1, ((rl g0 33).2 (j - (k + (rl g1 33).1))).2, 0) := by
          unfold lgE
          rw [if_neg q, if_neg y]
        have := b5 (j - (k + (rl g1 33).1)) (by omega)
        rw [show k + (rl g1 33).1 + (j - (k + (rl g1 33).1)) = j by omega] at this
        rw [eE, this]
        exact Or.inr ⟨rfl, rfl⟩
