/-! ===== the model's logs at a commit ===== -/
def gm (S : Nat → Nat) (kd b : Nat) : Nat := if kd = 2 then (if S (2814 + b) = 0 then 0 else 1) else if kd = 1 then (if S (2814 + b) ≠ 0 ∧ S (2942 + b) ≠ 1 then 1 else 0) else (if S (2814 + b) = 0 ∧ S (2942 + b) = 1 then 1 else 0)
def gR (S : Nat → Nat) (kd r p : Nat) : Nat := if p < 32 then gm S kd (32 * r + p) else 0
theorem gm_1 {S : Nat → Nat} {kd b : Nat} : gm S kd b ≤ 1 := by
  unfold gm
  split
  · split <;> omega
  · split
    · split <;> omega
    · split <;> omega
theorem gR_1 {S : Nat → Nat} {kd r p : Nat} : gR S kd r p ≤ 1 := by
  unfold gR
  split
  · exact gm_1
  · omega
theorem gR_in {S : Nat → Nat} {kd r p : Nat} (h : p < 32) : gR S kd r p = gm S kd (32 * r + p) := if_pos h
theorem gR_z {S : Nat → Nat} {kd r p : Nat} (h : 32 ≤ p) : gR S kd r p = 0 := if_neg (by omega)
theorem mLog {M : zM} {S : Nat → Nat} {kd b : Nat} (hkd : kd ≤ 2) (h1 : M (169 + 1) (2814 + b) = nI (S (2814 + b))) (h2 : M (169 + 1) (2942 + b) = nI (S (2942 + b))) (l1 : S (2814 + b) ≤ 2304) (l2 : S (2942 + b) ≤ 1) (hb : b < 128) : fX7_isLogged 169 (nI b) (nI kd) M = some (nI (gm S kd b)) := by
  have ha : fX7_isAllocated 169 (nI b) M = some (nI (if S (2814 + b) = 0 then 0 else 1)) := by
    unfold fX7_isAllocated
    by_cases q : S (2814 + b) = 0
    · rw [if_pos q]
      rw [q] at h1
      simp (disch := first | omega | assumption) only [l_0, l_1, l_2, l_3, l_4, l_5, l_6, l_7, l_8, l_11, l_12, l_15, l_16, l_31, l_32, l_66, l_80, l_100, l_127, l_128, l_768, l_2304, l_2310, l_2316, l_2388, l_2394, l_2406, l_2418, l_2430, l_2558, l_2686, l_2814, l_2942, l_3070, l_3390, l_3394, l_3395, l_3396, l_3397, n_leT, n_leF, n_ltT, n_ltF, n_eqT, n_eqF, nI_add, pk_mul, n_sub, z_ldn, z_san, z_bs, z_b2s, z_b3s, z_ocN, z_ocS, z_oxL, z_oxR, z_scL, z_scR, ↓reduceIte, st_170, st_171, st_172, st_173, Nat.zero_add, Nat.add_zero, Nat.zero_lt_succ, true_and, and_true, eq_self, h1]
    · rw [if_neg q]
      simp (disch := first | omega | assumption) only [l_0, l_1, l_2, l_3, l_4, l_5, l_6, l_7, l_8, l_11, l_12, l_15, l_16, l_31, l_32, l_66, l_80, l_100, l_127, l_128, l_768, l_2304, l_2310, l_2316, l_2388, l_2394, l_2406, l_2418, l_2430, l_2558, l_2686, l_2814, l_2942, l_3070, l_3390, l_3394, l_3395, l_3396, l_3397, n_leT, n_leF, n_ltT, n_ltF, n_eqT, n_eqF, nI_add, pk_mul, n_sub, z_ldn, z_san, z_bs, z_b2s, z_b3s, z_ocN, z_ocS, z_oxL, z_oxR, z_scL, z_scR, ↓reduceIte, st_170, st_171, st_172, st_173, Nat.zero_add, Nat.add_zero, Nat.zero_lt_succ, true_and, and_true, eq_self, h1]
  unfold fX7_isLogged
  have : kd = 0 ∨ kd = 1 ∨ kd = 2 := by omega
  rcases this with y | y | y <;> subst y
  · have e : gm S 0 b = if S (2814 + b) = 0 ∧ S (2942 + b) = 1 then 1 else 0 := rfl
    rw [e]
    by_cases q : S (2814 + b) = 0
    · rw [if_pos q] at ha
      by_cases q2 : S (2942 + b) = 1
      · rw [if_pos ⟨q, q2⟩]
        rw [q2] at h2
        simp (disch := first | omega | assumption) only [l_0, l_1, l_2, l_3, l_4, l_5, l_6, l_7, l_8, l_11, l_12, l_15, l_16, l_31, l_32, l_66, l_80, l_100, l_127, l_128, l_768, l_2304, l_2310, l_2316, l_2388, l_2394, l_2406, l_2418, l_2430, l_2558, l_2686, l_2814, l_2942, l_3070, l_3390, l_3394, l_3395, l_3396, l_3397, n_leT, n_leF, n_ltT, n_ltF, n_eqT, n_eqF, nI_add, pk_mul, n_sub, z_ldn, z_san, z_bs, z_b2s, z_b3s, z_ocN, z_ocS, z_oxL, z_oxR, z_scL, z_scR, ↓reduceIte, st_170, st_171, st_172, st_173, Nat.zero_add, Nat.add_zero, Nat.zero_lt_succ, true_and, and_true, eq_self, h2, ha]
      · rw [if_neg (fun x => q2 x.2)]
        simp (disch := first | omega | assumption) only [l_0, l_1, l_2, l_3, l_4, l_5, l_6, l_7, l_8, l_11, l_12, l_15, l_16, l_31, l_32, l_66, l_80, l_100, l_127, l_128, l_768, l_2304, l_2310, l_2316, l_2388, l_2394, l_2406, l_2418, l_2430, l_2558, l_2686, l_2814, l_2942, l_3070, l_3390, l_3394, l_3395, l_3396, l_3397, n_leT, n_leF, n_ltT, n_ltF, n_eqT, n_eqF, nI_add, pk_mul, n_sub, z_ldn, z_san, z_bs, z_b2s, z_b3s, z_ocN, z_ocS, z_oxL, z_oxR, z_scL, z_scR, ↓reduceIte, st_170, st_171, st_172, st_173, Nat.zero_add, Nat.add_zero, Nat.zero_lt_succ, true_and, and_true, eq_self, h2, ha]
    · rw [if_neg q] at ha
      rw [if_neg (fun x => q x.1)]
      by_cases q2 : S (2942 + b) = 1
      · rw [q2] at h2
        simp (disch := first | omega | assumption) only [l_0, l_1, l_2, l_3, l_4, l_5, l_6, l_7, l_8, l_11, l_12, l_15, l_16, l_31, l_32, l_66, l_80, l_100, l_127, l_128, l_768, l_2304, l_2310, l_2316, l_2388, l_2394, l_2406, l_2418, l_2430, l_2558, l_2686, l_2814, l_2942, l_3070, l_3390, l_3394, l_3395, l_3396, l_3397, n_leT, n_leF, n_ltT, n_ltF, n_eqT, n_eqF, nI_add, pk_mul, n_sub, z_ldn, z_san, z_bs, z_b2s, z_b3s, z_ocN, z_ocS, z_oxL, z_oxR, z_scL, z_scR, ↓reduceIte, st_170, st_171, st_172, st_173, Nat.zero_add, Nat.add_zero, Nat.zero_lt_succ, true_and, and_true, eq_self, h2, ha]
      · simp (disch := first | omega | assumption) only [l_0, l_1, l_2, l_3, l_4, l_5, l_6, l_7, l_8, l_11, l_12, l_15, l_16, l_31, l_32, l_66, l_80, l_100, l_127, l_128, l_768, l_2304, l_2310, l_2316, l_2388, l_2394, l_2406, l_2418, l_2430, l_2558, l_2686, l_2814, l_2942, l_3070, l_3390, l_3394, l_3395, l_3396, l_3397, n_leT, n_leF, n_ltT, n_ltF, n_eqT, n_eqF, nI_add, pk_mul, n_sub, z_ldn, z_san, z_bs, z_b2s, z_b3s, z_ocN, z_ocS, z_oxL, z_oxR, z_scL, z_scR, ↓reduceIte, st_170, st_171, st_172, st_173, Nat.zero_add, Nat.add_zero, Nat.zero_lt_succ, true_and, and_true, eq_self, h2, ha]
  · have e : gm S 1 b = if S (2814 + b) ≠ 0 ∧ S (2942 + b) ≠ 1 then 1 else 0 := rfl
    rw [e]
    by_cases q : S (2814 + b) = 0
    · rw [if_pos q] at ha
      rw [if_neg (fun x => x.1 q)]
      by_cases q2 : S (2942 + b) = 1
      · rw [q2] at h2
        simp (disch := first | omega | assumption) only [l_0, l_1, l_2, l_3, l_4, l_5, l_6, l_7, l_8, l_11, l_12, l_15, l_16, l_31, l_32, l_66, l_80, l_100, l_127, l_128, l_768, l_2304, l_2310, l_2316, l_2388, l_2394, l_2406, l_2418, l_2430, l_2558, l_2686, l_2814, l_2942, l_3070, l_3390, l_3394, l_3395, l_3396, l_3397, n_leT, n_leF, n_ltT, n_ltF, n_eqT, n_eqF, nI_add, pk_mul, n_sub, z_ldn, z_san, z_bs, z_b2s, z_b3s, z_ocN, z_ocS, z_oxL, z_oxR, z_scL, z_scR, ↓reduceIte, st_170, st_171, st_172, st_173, Nat.zero_add, Nat.add_zero, Nat.zero_lt_succ, true_and, and_true, eq_self, h2, ha]
      · simp (disch := first | omega | assumption) only [l_0, l_1, l_2, l_3, l_4, l_5, l_6, l_7, l_8, l_11, l_12, l_15, l_16, l_31, l_32, l_66, l_80, l_100, l_127, l_128, l_768, l_2304, l_2310, l_2316, l_2388, l_2394, l_2406, l_2418, l_2430, l_2558, l_2686, l_2814, l_2942, l_3070, l_3390, l_3394, l_3395, l_3396, l_3397, n_leT, n_leF, n_ltT, n_ltF, n_eqT, n_eqF, nI_add, pk_mul, n_sub, z_ldn, z_san, z_bs, z_b2s, z_b3s, z_ocN, z_ocS, z_oxL, z_oxR, z_scL, z_scR, ↓reduceIte, st_170, st_171, st_172, st_173, Nat.zero_add, Nat.add_zero, Nat.zero_lt_succ, true_and, and_true, eq_self, h2, ha]
    · rw [if_neg q] at ha
      by_cases q2 : S (2942 + b) = 1
      · rw [if_neg (fun x => x.2 q2)]
        rw [q2] at h2
        simp (disch := first | omega | assumption) only [l_0, l_1, l_2, l_3, l_4, l_5, l_6, l_7, l_8, l_11, l_12, l_15, l_16, l_31, l_32, l_66, l_80, l_100, l_127, l_128, l_768, l_2304, l_2310, l_2316, l_2388, l_2394, l_2406, l_2418, l_2430, l_2558, l_2686, l_2814, l_2942, l_3070, l_3390, l_3394, l_3395, l_3396, l_3397, n_leT, n_leF, n_ltT, n_ltF, n_eqT, n_eqF, nI_add, pk_mul, n_sub, z_ldn, z_san, z_bs, z_b2s, z_b3s, z_ocN, z_ocS, z_oxL, z_oxR, z_scL, z_scR, ↓reduceIte, st_170, st_171, st_172, st_173, Nat.zero_add, Nat.add_zero, Nat.zero_lt_succ, true_and, and_true, eq_self, h2, ha]
      · rw [if_pos ⟨q, q2⟩]
        simp (disch := first | omega | assumption) only [l_0, l_1, l_2, l_3, l_4, l_5, l_6, l_7, l_8, l_11, l_12, l_15, l_16, l_31, l_32, l_66, l_80, l_100, l_127, l_128, l_768, l_2304, l_2310, l_2316, l_2388, l_2394, l_2406, l_2418, l_2430, l_2558, l_2686, l_2814, l_2942, l_3070, l_3390, l_3394, l_3395, l_3396, l_3397, n_leT, n_leF, n_ltT, n_ltF, n_eqT, n_eqF, nI_add, pk_mul, n_sub, z_ldn, z_san, z_bs, z_b2s, z_b3s, z_ocN, z_ocS, z_oxL, z_oxR, z_scL, z_scR, ↓reduceIte, st_170, st_171, st_172, st_173, Nat.zero_add, Nat.add_zero, Nat.zero_lt_succ, true_and, and_true, eq_self, h2, ha]
  · have e : gm S 2 b = if S (2814 + b) = 0 then 0 else 1 := rfl
    rw [e]
    by_cases q2 : S (2942 + b) = 1
    · rw [q2] at h2
      by_cases q : S (2814 + b) = 0
      · rw [if_pos q] at ha ⊢
        simp (disch := first | omega | assumption) only [l_0, l_1, l_2, l_3, l_4, l_5, l_6, l_7, l_8, l_11, l_12, l_15, l_16, l_31, l_32, l_66, l_80, l_100, l_127, l_128, l_768, l_2304, l_2310, l_2316, l_2388, l_2394, l_2406, l_2418, l_2430, l_2558, l_2686, l_2814, l_2942, l_3070, l_3390, l_3394, l_3395, l_3396, l_3397, n_leT, n_leF, n_ltT, n_ltF, n_eqT, n_eqF, nI_add, pk_mul, n_sub, z_ldn, z_san, z_bs, z_b2s, z_b3s, z_ocN, z_ocS, z_oxL, z_oxR, z_scL, z_scR, ↓reduceIte, st_170, st_171, st_172, st_173, Nat.zero_add, Nat.add_zero, Nat.zero_lt_succ, true_and, and_true, eq_self, h2, ha, z_bz0]
      · rw [if_neg q] at ha ⊢
        simp (disch := first | omega | assumption) only [l_0, l_1, l_2, l_3, l_4, l_5, l_6, l_7, l_8, l_11, l_12, l_15, l_16, l_31, l_32, l_66, l_80, l_100, l_127, l_128, l_768, l_2304, l_2310, l_2316, l_2388, l_2394, l_2406, l_2418, l_2430, l_2558, l_2686, l_2814, l_2942, l_3070, l_3390, l_3394, l_3395, l_3396, l_3397, n_leT, n_leF, n_ltT, n_ltF, n_eqT, n_eqF, nI_add, pk_mul, n_sub, z_ldn, z_san, z_bs, z_b2s, z_b3s, z_ocN, z_ocS, z_oxL, z_oxR, z_scL, z_scR, ↓reduceIte, st_170, st_171, st_172, st_173, Nat.zero_add, Nat.add_zero, Nat.zero_lt_succ, true_and, and_true, eq_self, h2, ha, z_bz1]
    · by_cases q : S (2814 + b) = 0
      · rw [if_pos q] at ha ⊢
        simp (disch := first | omega | assumption) only [l_0, l_1, l_2, l_3, l_4, l_5, l_6, l_7, l_8, l_11, l_12, l_15, l_16, l_31, l_32, l_66, l_80, l_100, l_127, l_128, l_768, l_2304, l_2310, l_2316, l_2388, l_2394, l_2406, l_2418, l_2430, l_2558, l_2686, l_2814, l_2942, l_3070, l_3390, l_3394, l_3395, l_3396, l_3397, n_leT, n_leF, n_ltT, n_ltF, n_eqT, n_eqF, nI_add, pk_mul, n_sub, z_ldn, z_san, z_bs, z_b2s, z_b3s, z_ocN, z_ocS, z_oxL, z_oxR, z_scL, z_scR, ↓reduceIte, st_170, st_171, st_172, st_173, Nat.zero_add, Nat.add_zero, Nat.zero_lt_succ, true_and, and_true, eq_self, h2, ha, z_bz0]
      · rw [if_neg q] at ha ⊢
        simp (disch := first | omega | assumption) only [l_0, l_1, l_2, l_3, l_4, l_5, l_6, l_7, l_8, l_11, l_12, l_15, l_16, l_31, l_32, l_66, l_80, l_100, l_127, l_128, l_768, l_2304, l_2310, l_2316, l_2388, l_2394, l_2406, l_2418, l_2430, l_2558, l_2686, l_2814, l_2942, l_3070, l_3390, l_3394, l_3395, l_3396, l_3397, n_leT, n_leF, n_ltT, n_ltF, n_eqT, n_eqF, nI_add, pk_mul, n_sub, z_ldn, z_san, z_bs, z_b2s, z_b3s, z_ocN, z_ocS, z_oxL, z_oxR, z_scL, z_scR, ↓reduceIte, st_170, st_171, st_172, st_173, Nat.zero_add, Nat.add_zero, Nat.zero_lt_succ, true_and, and_true, eq_self, h2, ha, z_bz1]
theorem mInn {M : zM} {S : Nat → Nat} {kd r p i : Nat} (hr : r < 4) (hlog : ∀ b, b < 128 → fX7_isLogged 169 (nI b) (nI kd) M = some (nI (gm S kd b))) (hp : p < 32) (hi : p + i ≤ 32) (h1 : gR S kd r (p + i) = 0) (h2 : ∀ j, j < i → gR S kd r (p + j) ≠ 0) : z_loop (fun s : Int32 => fX7_runs_L2 169 (nI r) (nI kd) (nI (32 * r + p)) M s) z_FU (nI 0) = some (nI i) :=
  z_loopC (f := fun s : Int32 => fX7_runs_L2 169 (nI r) (nI kd) (nI (32 * r + p)) M s) (fun i => nI i) i (nI i) (by omega) (fun j hj => by
    have c1 := hlog (32 * r + p + j) (by omega)
    have c2 := h2 j hj
    rw [gR_in (by omega), show 32 * r + (p + j) = 32 * r + p + j by omega] at c2
    have c3 := gm_1 (S := S) (kd := kd) (b := 32 * r + p + j)
    rw [show gm S kd (32 * r + p + j) = 1 by omega] at c1
    simp (disch := first | omega | assumption) only [l_0, l_1, l_2, l_3, l_4, l_5, l_6, l_7, l_8, l_11, l_12, l_15, l_16, l_31, l_32, l_66, l_80, l_100, l_127, l_128, l_768, l_2304, l_2310, l_2316, l_2388, l_2394, l_2406, l_2418, l_2430, l_2558, l_2686, l_2814, l_2942, l_3070, l_3390, l_3394, l_3395, l_3396, l_3397, n_leT, n_leF, n_ltT, n_ltF, n_eqT, n_eqF, nI_add, pk_mul, n_sub, z_ldn, z_san, z_bs, z_b2s, z_b3s, z_ocN, z_ocS, z_oxL, z_oxR, z_scL, z_scR, ↓reduceIte, st_170, st_171, st_172, st_173, Nat.zero_add, Nat.add_zero, Nat.zero_lt_succ, true_and, and_true, eq_self, fX7_runs_L2, c1]) (by
    by_cases q : p + i = 32
    · simp (disch := first | omega | assumption) only [l_0, l_1, l_2, l_3, l_4, l_5, l_6, l_7, l_8, l_11, l_12, l_15, l_16, l_31, l_32, l_66, l_80, l_100, l_127, l_128, l_768, l_2304, l_2310, l_2316, l_2388, l_2394, l_2406, l_2418, l_2430, l_2558, l_2686, l_2814, l_2942, l_3070, l_3390, l_3394, l_3395, l_3396, l_3397, n_leT, n_leF, n_ltT, n_ltF, n_eqT, n_eqF, nI_add, pk_mul, n_sub, z_ldn, z_san, z_bs, z_b2s, z_b3s, z_ocN, z_ocS, z_oxL, z_oxR, z_scL, z_scR, ↓reduceIte, st_170, st_171, st_172, st_173, Nat.zero_add, Nat.add_zero, Nat.zero_lt_succ, true_and, and_true, eq_self, fX7_runs_L2]
    · have c1 := hlog (32 * r + p + i) (by omega)
      rw [gR_in (by omega), show 32 * r + (p + i) = 32 * r + p + i by omega] at h1
      rw [h1] at c1
      simp (disch := first | omega | assumption) only [l_0, l_1, l_2, l_3, l_4, l_5, l_6, l_7, l_8, l_11, l_12, l_15, l_16, l_31, l_32, l_66, l_80, l_100, l_127, l_128, l_768, l_2304, l_2310, l_2316, l_2388, l_2394, l_2406, l_2418, l_2430, l_2558, l_2686, l_2814, l_2942, l_3070, l_3390, l_3394, l_3395, l_3396, l_3397, n_leT, n_leF, n_ltT, n_ltF, n_eqT, n_eqF, nI_add, pk_mul, n_sub, z_ldn, z_san, z_bs, z_b2s, z_b3s, z_ocN, z_ocS, z_oxL, z_oxR, z_scL, z_scR, ↓reduceIte, st_170, st_171, st_172, st_173, Nat.zero_add, Nat.add_zero, Nat.zero_lt_succ, true_and, and_true, eq_self, fX7_runs_L2, c1])
def z_en (kd f l : Nat) : Int32 := if kd = 0 then -nI (100 * f + l) else nI (100 * f + l)
/-- the model's row while runs are written (w = 1) or counted (w = 0): those that ended before place p -/
def y_mr (M : zM) (k r kd w : Nat) (g : Nat → Nat) (p : Nat) (M' : zM) : Prop := (∀ a, a ≠ 170 → M' a = M a) ∧ (w = 0 → M' = M) ∧ (w = 1 → M' 170 (3390 + r) = nI (k + (rl g p).1) ∧ (∀ k', k' ≠ 3390 + r → (k' < 3070 + 80 * r + k ∨ 3070 + 80 * r + 80 ≤ k') → M' 170 k' = M 170 k') ∧ ∀ j, j < (rl g p).1 → M' 170 (3070 + 80 * r + (k + j)) = z_en kd (32 * r + ((rl g p).2 j).1) ((rl g p).2 j).2)
theorem mRuns {M : zM} {S : Nat → Nat} {k r kd w : Nat} (hr : r < 4) (hkd : kd ≤ 2) (hw : w ≤ 1) (hk : k ≤ 50) (h4 : w = 1 → M 170 (3390 + r) = nI k) (hf1 : ∀ b, b < 128 → M 170 (2814 + b) = nI (S (2814 + b)) ∧ S (2814 + b) ≤ 2304) (hf2 : ∀ b, b < 128 → M 170 (2942 + b) = nI (S (2942 + b)) ∧ S (2942 + b) ≤ 1) : ∃ M', fX7_runs 169 (nI r) (nI kd) (nI w) M = some (nI (rl (gR S kd r) 33).1, M') ∧ y_mr M k r kd w (gR S kd r) 33 M' := by
  obtain ⟨g, hg⟩ : ∃ g, g = gR S kd r := ⟨_, rfl⟩
  rw [← hg]
  have hgz : ∀ q, 32 ≤ q → g q = 0 := fun q hq => by rw [hg]; exact gR_z hq
  unfold fX7_runs
  obtain ⟨x, e1, e2, e3⟩ := z_loopF (f := fun s : Int32 × Int32 × zM => fX7_runs_L1 169 (nI r) (nI kd) (nI w) s.1 s.2.1 s.2.2) (fun i s => ∃ p M', i ≤ p ∧ p ≤ 33 ∧ trl g p = 0 ∧ s = (nI (rl g p).1, nI (32 * r + p), M') ∧ y_mr M k r kd w g p M') (fun x => x.1 = nI (rl g 33).1 ∧ y_mr M k r kd w g 33 x.2) 33 (s := (nI 0, nI (32 * r), M)) (by decide) (fun i s hi hI9 => by
      obtain ⟨p, M', b1, b2, b3, b4, b5⟩ := hI9
      subst b4
      by_cases q : p < 32
      · obtain ⟨u, u1, u2, u3⟩ := run_ex hgz (32 - p) p (by omega)
        have hlog : ∀ b, b < 128 → fX7_isLogged 169 (nI b) (nI kd) M' = some (nI (gm S kd b)) := fun b hb => by
          have hrow : ∀ k', k' < 3070 → M' 170 k' = M 170 k' := fun k' hk' => by
            by_cases w0 : w = 0
            · rw [b5.2.1 w0]
            · exact (b5.2.2 (by omega)).2.1 k' (by omega) (Or.inl (by omega))
          exact mLog hkd ((hrow _ (by omega)).trans (hf1 b hb).1) ((hrow _ (by omega)).trans (hf2 b hb).1) (hf1 b hb).2 (hf2 b hb).2 hb
        have hin := mInn (p := p) (i := u) hr hlog q (by omega) (by rw [← hg]; exact u2) (fun j hj => by rw [← hg]; exact u3 j hj)
        obtain ⟨t1, t2⟩ := rl_run b3 u3
        have hcnt := rl_cnt (g := g) (p := p)
        obtain ⟨c, hcc⟩ : ∃ c, c = (rl g p).1 := ⟨_, rfl⟩
        have tz : trl g (p + u + 1) = 0 := trl_0 u2
        by_cases q2 : u = 0
        · have t3 : rl g (p + u + 1) = rl g p := by rw [rl_n (Or.inr (by rw [t1, q2])), t2]
          refine Or.inl ⟨by omega, (nI (rl g (p + u + 1)).1, nI (32 * r + (p + u + 1)), M'), ?_, p + u + 1, M', by omega, by omega, tz, rfl, ?_⟩
          · rw [t3, ← hcc]
            rw [q2] at hin ⊢
            have ea : 32 * r + (p + 0 + 1) = 32 * r + p + 1 := by omega
            simp (disch := first | omega | assumption) only [l_0, l_1, l_2, l_3, l_4, l_5, l_6, l_7, l_8, l_11, l_12, l_15, l_16, l_31, l_32, l_66, l_80, l_100, l_127, l_128, l_768, l_2304, l_2310, l_2316, l_2388, l_2394, l_2406, l_2418, l_2430, l_2558, l_2686, l_2814, l_2942, l_3070, l_3390, l_3394, l_3395, l_3396, l_3397, n_leT, n_leF, n_ltT, n_ltF, n_eqT, n_eqF, nI_add, pk_mul, n_sub, z_ldn, z_san, z_bs, z_b2s, z_b3s, z_ocN, z_ocS, z_oxL, z_oxR, z_scL, z_scR, ↓reduceIte, st_170, st_171, st_172, st_173, Nat.zero_add, Nat.add_zero, Nat.zero_lt_succ, true_and, and_true, eq_self, fX7_runs_L1, hin, ea]
          · unfold y_mr
            rw [t3]
            exact b5
        · have t3 : rl g (p + u + 1) = (c + 1, fun j => if j = c then (p, u) else (rl g p).2 j) := by
            rw [rl_y u2 (by rw [t1]; exact q2), t2, t1, ← hcc, Nat.add_sub_cancel]
          have ea : 32 * r + p + (u + 1) = 32 * r + (p + u + 1) := by omega
          by_cases w0 : w = 0
          · refine Or.inl ⟨by omega, (nI (rl g (p + u + 1)).1, nI (32 * r + (p + u + 1)), M'), ?_, p + u + 1, M', by omega, by omega, tz, rfl, b5.1, b5.2.1, fun w1 => by omega⟩
            rw [t3, ← hcc]
            show _ = some (Sum.inl (nI (c + 1), nI (32 * r + (p + u + 1)), M'))
            simp (disch := first | omega | assumption) only [l_0, l_1, l_2, l_3, l_4, l_5, l_6, l_7, l_8, l_11, l_12, l_15, l_16, l_31, l_32, l_66, l_80, l_100, l_127, l_128, l_768, l_2304, l_2310, l_2316, l_2388, l_2394, l_2406, l_2418, l_2430, l_2558, l_2686, l_2814, l_2942, l_3070, l_3390, l_3394, l_3395, l_3396, l_3397, n_leT, n_leF, n_ltT, n_ltF, n_eqT, n_eqF, nI_add, pk_mul, n_sub, z_ldn, z_san, z_bs, z_b2s, z_b3s, z_ocN, z_ocS, z_oxL, z_oxR, z_scL, z_scR, ↓reduceIte, st_170, st_171, st_172, st_173, Nat.zero_add, Nat.add_zero, Nat.zero_lt_succ, true_and, and_true, eq_self, fX7_runs_L1, hin, w0, ea]
          · obtain ⟨v1, v2, v3⟩ := b5.2.2 (by omega)
            have w1 : w = 1 := by omega
            rw [← hcc] at v1 v3
            obtain ⟨Ma, hMa⟩ : ∃ Ma, Ma = z_st M' (169 + 1) (3070 + 80 * r + (k + c)) (z_en kd (32 * r + p) u) := ⟨_, rfl⟩
            have ca : Ma (169 + 1) (3390 + r) = nI (k + c) := by rw [hMa, s_s, u_n (by omega)]; exact v1
            have cv1 : M' (169 + 1) (3390 + r) = nI (k + c) := v1
            obtain ⟨Mb, hMb⟩ : ∃ Mb, Mb = z_st Ma (169 + 1) (3390 + r) (nI (k + c + 1)) := ⟨_, rfl⟩
            have hMb170 : Mb 170 = upd (upd (M' 170) (3070 + 80 * r + (k + c)) (z_en kd (32 * r + p) u)) (3390 + r) (nI (k + c + 1)) := by rw [hMb, show (170 : Nat) = 169 + 1 from rfl, s_s, hMa, s_s]
            refine Or.inl ⟨by omega, (nI (rl g (p + u + 1)).1, nI (32 * r + (p + u + 1)), Mb), ?_, p + u + 1, Mb, by omega, by omega, tz, rfl, fun a ha => by rw [hMb, s_n ha, hMa, s_n ha]; exact b5.1 a ha, fun w1 => by omega, fun _ => ?_⟩
            · rw [t3, ← hcc]
              show _ = some (Sum.inl (nI (c + 1), nI (32 * r + (p + u + 1)), Mb))
              by_cases k0 : kd = 0
              · have hMa' : Ma = z_st M' (169 + 1) (3070 + 80 * r + (k + c)) (-nI (100 * (32 * r + p) + u)) := by rw [hMa]; unfold z_en; rw [if_pos k0]
                subst k0
                simp (disch := first | omega | assumption) only [l_0, l_1, l_2, l_3, l_4, l_5, l_6, l_7, l_8, l_11, l_12, l_15, l_16, l_31, l_32, l_66, l_80, l_100, l_127, l_128, l_768, l_2304, l_2310, l_2316, l_2388, l_2394, l_2406, l_2418, l_2430, l_2558, l_2686, l_2814, l_2942, l_3070, l_3390, l_3394, l_3395, l_3396, l_3397, n_leT, n_leF, n_ltT, n_ltF, n_eqT, n_eqF, nI_add, pk_mul, n_sub, z_ldn, z_san, z_bs, z_b2s, z_b3s, z_ocN, z_ocS, z_oxL, z_oxR, z_scL, z_scR, ↓reduceIte, st_170, st_171, st_172, st_173, Nat.zero_add, Nat.add_zero, Nat.zero_lt_succ, true_and, and_true, eq_self, fX7_runs_L1, hin, w1, cv1, ← hMa', ca, ← hMb, ea]
              · have hMa' : Ma = z_st M' (169 + 1) (3070 + 80 * r + (k + c)) (nI (100 * (32 * r + p) + u)) := by rw [hMa]; unfold z_en; rw [if_neg k0]
                simp (disch := first | omega | assumption) only [l_0, l_1, l_2, l_3, l_4, l_5, l_6, l_7, l_8, l_11, l_12, l_15, l_16, l_31, l_32, l_66, l_80, l_100, l_127, l_128, l_768, l_2304, l_2310, l_2316, l_2388, l_2394, l_2406, l_2418, l_2430, l_2558, l_2686, l_2814, l_2942, l_3070, l_3390, l_3394, l_3395, l_3396, l_3397, n_leT, n_leF, n_ltT, n_ltF, n_eqT, n_eqF, nI_add, pk_mul, n_sub, z_ldn, z_san, z_bs, z_b2s, z_b3s, z_ocN, z_ocS, z_oxL, z_oxR, z_scL, z_scR, ↓reduceIte, st_170, st_171, st_172, st_173, Nat.zero_add, Nat.add_zero, Nat.zero_lt_succ, true_and, and_true, eq_self, fX7_runs_L1, hin, w1, cv1, ← hMa', ca, ← hMb, ea]
            · rw [hMb170, t3]
              refine ⟨by rw [u_s]; rfl, fun k' n1 n2 => by rw [u_n n1, u_n (by omega)]; exact v2 k' n1 n2, fun j hj => ?_⟩
              have hj : j < c + 1 := hj
              rw [u_n (by omega)]
              show _ = z_en kd (32 * r + (if j = c then (p, u) else (rl g p).2 j).1) (if j = c then (p, u) else (rl g p).2 j).2
              by_cases y : j = c
              · rw [if_pos y, y, u_s]
              · rw [if_neg y, u_n (by omega)]
                exact v3 j (by omega)
      · have e33 : rl g 33 = rl g p := by
          have : p = 32 ∨ p = 33 := by omega
          rcases this with y | y
          · rw [y] at b3 ⊢
            exact rl_n (Or.inr b3)
          · rw [y]
        refine Or.inr ⟨(nI (rl g p).1, M'), ?_, by rw [e33], ?_⟩
        · simp (disch := first | omega | assumption) only [l_0, l_1, l_2, l_3, l_4, l_5, l_6, l_7, l_8, l_11, l_12, l_15, l_16, l_31, l_32, l_66, l_80, l_100, l_127, l_128, l_768, l_2304, l_2310, l_2316, l_2388, l_2394, l_2406, l_2418, l_2430, l_2558, l_2686, l_2814, l_2942, l_3070, l_3390, l_3394, l_3395, l_3396, l_3397, n_leT, n_leF, n_ltT, n_ltF, n_eqT, n_eqF, nI_add, pk_mul, n_sub, z_ldn, z_san, z_bs, z_b2s, z_b3s, z_ocN, z_ocS, z_oxL, z_oxR, z_scL, z_scR, ↓reduceIte, st_170, st_171, st_172, st_173, Nat.zero_add, Nat.add_zero, Nat.zero_lt_succ, true_and, and_true, eq_self, fX7_runs_L1]
        · unfold y_mr at b5 ⊢
          rw [e33]
          exact b5) ⟨0, M, Nat.le_refl _, by decide, rfl, rfl, fun _ _ => rfl, fun _ => rfl, fun w1 => ⟨h4 w1, fun _ _ _ => rfl, fun j hj => absurd hj (Nat.not_lt_zero j)⟩⟩
  obtain ⟨x1, M1⟩ := x
  have e2 : x1 = nI (rl g 33).1 := e2
  subst e2
  refine ⟨M1, ?_, e3⟩
  simp (disch := first | omega | assumption) only [l_0, l_1, l_2, l_3, l_4, l_5, l_6, l_7, l_8, l_11, l_12, l_15, l_16, l_31, l_32, l_66, l_80, l_100, l_127, l_128, l_768, l_2304, l_2310, l_2316, l_2388, l_2394, l_2406, l_2418, l_2430, l_2558, l_2686, l_2814, l_2942, l_3070, l_3390, l_3394, l_3395, l_3396, l_3397, n_leT, n_leF, n_ltT, n_ltF, n_eqT, n_eqF, nI_add, pk_mul, n_sub, z_ldn, z_san, z_bs, z_b2s, z_b3s, z_ocN, z_ocS, z_oxL, z_oxR, z_scL, z_scR, ↓reduceIte, st_170, st_171, st_172, st_173, Nat.zero_add, Nat.add_zero, Nat.zero_lt_succ, true_and, and_true, eq_self, e1]
