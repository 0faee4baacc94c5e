theorem op_7 {n : Nat} {M : zM} (h : z_P n M) (a1 a2 a3 a4 a5 a6 : Int32) : ∃ M9, fL_c7 a1 a2 a3 a4 a5 a6 M = some (1, M9) ∧ z_P (n + 1) M9 := by
  obtain ⟨S, S0, hN, hN0, hR, hR0, hI, hI0, hB, hB0⟩ := id h
  obtain ⟨M1, e1, e2, e3⟩ := cCopy (V := 1) (W := 84) (by decide) hR0 hI0 (fun r hr => (hR.2.2.2.2.1 r hr).1)
  have e2 := e2 _ hR0
  have h170 : M1 170 = M 170 := e3 _ (by decide)
  have h171 : M1 171 = M 171 := e3 _ (by decide)
  obtain ⟨M4, u1, u2, u3⟩ := z_loopR (f := fun x : Int32 × zM => fX7_crash_L1 169 x.1 x.2) (169 + 1) 0 0 3397 (fun j => M 171 j) (by decide) (s := nI 0) (M := z_st M1 169 4 (nI 0)) rfl (fun j M' hj q1 _ => by
    have c1 : M' (169 + 2) j = M 171 j := by
      rw [q1 _ (by decide), st_171]
      exact congrFun h171 j
    simp (disch := first | omega | assumption) only [l_0, l_1, l_2, l_3, l_4, l_5, l_6, l_7, l_8, l_11, l_12, l_15, l_16, l_31, l_32, l_66, l_80, l_100, l_127, l_128, l_768, l_2304, l_2310, l_2316, l_2388, l_2394, l_2406, l_2418, l_2430, l_2558, l_2686, l_2814, l_2942, l_3070, l_3390, l_3394, l_3395, l_3396, l_3397, n_leT, n_leF, n_ltT, n_ltF, n_eqT, n_eqF, nI_add, pk_mul, n_sub, z_ldn, z_san, z_bs, z_b2s, z_b3s, z_ocN, z_ocS, z_oxL, z_oxR, z_scL, z_scR, ↓reduceIte, st_170, st_171, st_172, st_173, Nat.zero_add, Nat.add_zero, Nat.zero_lt_succ, true_and, and_true, eq_self, fX7_crash_L1, c1]) (fun M' => by simp (disch := first | omega | assumption) only [l_0, l_1, l_2, l_3, l_4, l_5, l_6, l_7, l_8, l_11, l_12, l_15, l_16, l_31, l_32, l_66, l_80, l_100, l_127, l_128, l_768, l_2304, l_2310, l_2316, l_2388, l_2394, l_2406, l_2418, l_2430, l_2558, l_2686, l_2814, l_2942, l_3070, l_3390, l_3394, l_3395, l_3396, l_3397, n_leT, n_leF, n_ltT, n_ltF, n_eqT, n_eqF, nI_add, pk_mul, n_sub, z_ldn, z_san, z_bs, z_b2s, z_b3s, z_ocN, z_ocS, z_oxL, z_oxR, z_scL, z_scR, ↓reduceIte, st_170, st_171, st_172, st_173, Nat.zero_add, Nat.add_zero, Nat.zero_lt_succ, true_and, and_true, eq_self, fX7_crash_L1])
  have u3 : ∀ k, k < 3397 → M4 170 k = M 171 k := fun k hk => by
    rw [show M4 170 k = _ from u3 k, if_pos ⟨Nat.zero_le _, by omega⟩, Nat.sub_zero]
  have f4 : ∀ a, a ≠ 170 → a ≠ 169 → M4 a = M1 a := fun a q1 q2 => by rw [u2 a q1, s_n q2]
  have cx : M1 1 4 = nI (S0 3395) := e2.2.2.2.2.2.1
  have cm : M4 (169 + 1) 3395 = nI (S0 3395) := (u3 3395 (by decide)).trans (hN0.2.2 3395 (by decide) (by decide))
  refine ⟨M4, ?_, S0, S0, ⟨fun k hk => by rw [u3 k (by omega)]; exact hN0.1 k hk, fun k k1 k2 => by rw [u3 k (by omega)]; exact hN0.2.1 k k1 k2, fun k k1 k2 => by rw [u3 k (by omega)]; exact hN0.2.2 k k1 k2⟩, ?_, ?_, ?_, z_I_mono hI0, z_I_mono hI0, hB0, hB0⟩
  · unfold fL_c7 fX6_crash fX7_crash
    simp (disch := first | omega | assumption) only [l_0, l_1, l_2, l_3, l_4, l_5, l_6, l_7, l_8, l_11, l_12, l_15, l_16, l_31, l_32, l_66, l_80, l_100, l_127, l_128, l_768, l_2304, l_2310, l_2316, l_2388, l_2394, l_2406, l_2418, l_2430, l_2558, l_2686, l_2814, l_2942, l_3070, l_3390, l_3394, l_3395, l_3396, l_3397, n_leT, n_leF, n_ltT, n_ltF, n_eqT, n_eqF, nI_add, pk_mul, n_sub, z_ldn, z_san, z_bs, z_b2s, z_b3s, z_ocN, z_ocS, z_oxL, z_oxR, z_scL, z_scR, ↓reduceIte, st_170, st_171, st_172, st_173, Nat.zero_add, Nat.add_zero, Nat.zero_lt_succ, true_and, and_true, eq_self, e1, cx, u1, cm]
  · rw [f4 171 (by decide) (by decide), h171]
    exact hN0
  · exact z_R1_N (z_R1_cg e2 (fun k k1 k2 _ => f4 k (by omega) (by omega))) (fun r hr => by have := I_log hI0 r hr; omega) (fun k k1 k2 => u3 k (by omega)) (fun k k1 k2 => u3 k (by omega))
  · rw [f4 171 (by decide) (by decide), h171]
    exact z_R1_cg hR0 (fun k k1 k2 _ => by rw [f4 k (by omega) (by omega), e3 k (by omega)])
/-! ===== runs of marks ===== -/
/-- so many marks stand right before place p -/
def trl (g : Nat → Nat) : Nat → Nat
  | 0 => 0
  | p + 1 => if g p = 0 then 0 else trl g p + 1
/-- the runs that ended before place p: how many, and which -/
def rl (g : Nat → Nat) : Nat → Nat × (Nat → Nat × Nat)
  | 0 => (0, fun _ => (0, 0))
  | p + 1 => if g p = 0 ∧ trl g p ≠ 0 then ((rl g p).1 + 1, fun j => if j = (rl g p).1 then (p - trl g p, trl g p) else (rl g p).2 j) else rl g p
section
variable {g : Nat → Nat}
theorem trl_0 {p : Nat} (h : g p = 0) : trl g (p + 1) = 0 := if_pos h
theorem trl_1 {p : Nat} (h : g p ≠ 0) : trl g (p + 1) = trl g p + 1 := if_neg h
theorem rl_y {p : Nat} (h : g p = 0) (h2 : trl g p ≠ 0) : rl g (p + 1) = ((rl g p).1 + 1, fun j => if j = (rl g p).1 then (p - trl g p, trl g p) else (rl g p).2 j) := if_pos ⟨h, h2⟩
theorem rl_n {p : Nat} (h : g p ≠ 0 ∨ trl g p = 0) : rl g (p + 1) = rl g p := if_neg (fun x => by
  rcases h with h | h
  · exact h x.1
  · exact x.2 h)
theorem trl_le : ∀ {p : Nat}, trl g p ≤ p
  | 0 => Nat.le_refl _
  | p + 1 => by
    have ih := trl_le (p := p)
    by_cases q : g p = 0
    · rw [trl_0 q]
      omega
    · rw [trl_1 q]
      omega
theorem rl_cnt : ∀ {p : Nat}, 2 * (rl g p).1 + trl g p ≤ p
  | 0 => Nat.le_refl _
  | p + 1 => by
    have ih := rl_cnt (p := p)
    by_cases q : g p = 0
    · rw [trl_0 q]
      by_cases q2 : trl g p = 0
      · rw [rl_n (Or.inr q2)]
        omega
      · rw [rl_y q q2]
        show 2 * ((rl g p).1 + 1) + 0 ≤ p + 1
        omega
    · rw [trl_1 q, rl_n (Or.inl q)]
      omega
theorem rl_val : ∀ {p j : Nat}, j < (rl g p).1 → 1 ≤ ((rl g p).2 j).2 ∧ ((rl g p).2 j).1 + ((rl g p).2 j).2 < p
  | 0, j, h => absurd h (Nat.not_lt_zero j)
  | p + 1, j, h => by
    by_cases q : g p = 0 ∧ trl g p ≠ 0
    · rw [rl_y q.1 q.2] at h ⊢
      have h : j < (rl g p).1 + 1 := h
      show 1 ≤ (if j = (rl g p).1 then (p - trl g p, trl g p) else (rl g p).2 j).2 ∧ (if j = (rl g p).1 then (p - trl g p, trl g p) else (rl g p).2 j).1 + (if j = (rl g p).1 then (p - trl g p, trl g p) else (rl g p).2 j).2 < p + 1
      by_cases c : j = (rl g p).1
      · rw [if_pos c]
        have := trl_le (g := g) (p := p)
        have := q.2
        show 1 ≤ trl g p ∧ p - trl g p + trl g p < p + 1
        omega
      · rw [if_neg c]
        have ih := rl_val (p := p) (j := j) (by omega)
        omega
    · have e : rl g (p + 1) = rl g p := if_neg q
      rw [e] at h ⊢
      have ih := rl_val (p := p) (j := j) h
      omega
/-- the starts of runs -/
theorem rl_st : ∀ {p : Nat}, sumN (fun q => if g q ≠ 0 ∧ trl g q = 0 then 1 else 0) p = (rl g p).1 + (if trl g p = 0 then 0 else 1)
  | 0 => rfl
  | p + 1 => by
    have ih := rl_st (p := p)
    show sumN _ p + (if g p ≠ 0 ∧ trl g p = 0 then 1 else 0) = _
    rw [ih]
    by_cases q : g p = 0
    · have e1 : (if g p ≠ 0 ∧ trl g p = 0 then 1 else 0) = 0 := if_neg (fun x => x.1 q)
      rw [e1, trl_0 q]
      show (rl g p).1 + (if trl g p = 0 then 0 else 1) + 0 = (rl g (p + 1)).1 + 0
      by_cases q2 : trl g p = 0
      · rw [rl_n (Or.inr q2), if_pos q2]
      · rw [rl_y q q2, if_neg q2]
    · rw [trl_1 q, rl_n (Or.inl q), show (if trl g p + 1 = 0 then 0 else 1) = 1 from if_neg (Nat.succ_ne_zero (trl g p))]
      by_cases q2 : trl g p = 0
      · rw [if_pos q2, if_pos ⟨q, q2⟩]
      · rw [if_neg q2, if_neg (fun x => q2 x.2)]
/-- a run from place p on -/
theorem rl_run {p : Nat} (h0 : trl g p = 0) : ∀ {i : Nat}, (∀ j, j < i → g (p + j) ≠ 0) → trl g (p + i) = i ∧ rl g (p + i) = rl g p
  | 0, _ => ⟨h0, rfl⟩
  | i + 1, h => by
    obtain ⟨a1, a2⟩ := rl_run h0 (i := i) (fun j hj => h j (by omega))
    have hg := h i (Nat.lt_succ_self i)
    rw [show p + (i + 1) = p + i + 1 from rfl, trl_1 hg, rl_n (Or.inl hg), a1, a2]
    exact ⟨rfl, rfl⟩
theorem run_ex (hg : ∀ q, 32 ≤ q → g q = 0) : ∀ (m p : Nat), 32 ≤ p + m → ∃ i, i ≤ m ∧ g (p + i) = 0 ∧ ∀ j, j < i → g (p + j) ≠ 0
  | 0, p, h => ⟨0, Nat.le_refl _, hg _ (by omega), fun j hj => absurd hj (Nat.not_lt_zero j)⟩
  | m + 1, p, h => by
    by_cases q : g p = 0
    · exact ⟨0, Nat.zero_le _, q, fun j hj => absurd hj (Nat.not_lt_zero j)⟩
    · obtain ⟨i, i1, i2, i3⟩ := run_ex hg m (p + 1) (by omega)
      refine ⟨i + 1, by omega, by rw [show p + (i + 1) = p + 1 + i by omega]; exact i2, fun j hj => ?_⟩
      by_cases c : j = 0
      · rw [c]
        exact q
      · rw [show p + j = p + 1 + (j - 1) by omega]
        exact i3 (j - 1) (by omega)
theorem trl_z {p : Nat} : trl g p = 0 ↔ p = 0 ∨ (p ≠ 0 ∧ g (p - 1) = 0) := by
  cases p with
  | zero => exact ⟨fun _ => Or.inl rfl, fun _ => rfl⟩
  | succ p =>
    by_cases q : g p = 0
    · rw [trl_0 q]
      exact ⟨fun _ => Or.inr ⟨by omega, q⟩, fun _ => rfl⟩
    · rw [trl_1 q]
      refine ⟨fun x => by omega, fun x => ?_⟩
      rcases x with x | x
      · omega
      · exact absurd x.2 q
end
