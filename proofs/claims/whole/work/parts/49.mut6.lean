/-! ===== write ===== -/
def bR (g : Nat → Nat) : Nat → Nat
  | 0 => 0
  | i + 1 => if g (i + 1) ≤ g (bR g i) then bR g i else i + 1
theorem bR_le {g : Nat → Nat} : ∀ {i : Nat}, bR g i ≤ i
  | 0 => Nat.le_refl _
  | i + 1 => by
    have ih := bR_le (g := g) (i := i)
    unfold bR
    split <;> omega
def gF (S : Nat → Nat) (r : Nat) : Nat := sumN (fun j => if z_sta S (32 * r + j) = 0 then 1 else 0) 32
theorem gF_le {S : Nat → Nat} {r : Nat} : gF S r ≤ 32 := by
  have := sumN_le (g := fun j => if z_sta S (32 * r + j) = 0 then 1 else 0) (c := 1) (n := 32) (fun i _ => by
    show (if z_sta S (32 * r + i) = 0 then 1 else 0) ≤ 1
    split <;> omega)
  unfold gF
  omega
theorem n_leN {x : Nat} (hx : x < 2 ^ 31) : (nI x ≤ -nI 1) = False := eq_false (fun q => absurd (Int32.le_trans ((nI_leI (by decide) hx).mpr (Nat.zero_le x) : nI 0 ≤ nI x) q) (by decide))
theorem cFg {sp r : Nat} {M : zM} {S : Nat → Nat} (hst : ∀ b, b < 128 → M (sp + 1) b = nI (z_sta S b)) (hr : r < 4) : fX3_freeInRegion sp (nI r) M = some (nI (gF S r)) := by
  have e := cCt (sp := sp) (c := 0) (lo := 32 * r) (e := 32) hst (fun b _ => z_sta2) (by decide) (by omega)
  unfold fX3_freeInRegion
  rw [show nI r * 32 = nI (32 * r) by rw [show (32 : Int32) = nI 32 from rfl, pk_mul, Nat.mul_comm], show nI (32 * r) + 32 = nI (32 * r + 32) from nI_add _ _, show (0 : Int32) = nI 0 from rfl, e]
  rfl
theorem cNf {sp : Nat} {M : zM} {S : Nat → Nat} (hst : ∀ b, b < 128 → M (sp + 1) b = nI (z_sta S b)) : (∃ i, i < 32 ∧ z_sta S (32 * bR (gF S) 3 + i) = 0 ∧ (∀ j, j < i → ¬ z_sta S (32 * bR (gF S) 3 + j) = 0) ∧ fX3_nextFreeBlock sp M = some (nI (32 * bR (gF S) 3 + i))) ∨ ((∀ i, i < 32 → ¬ z_sta S (32 * bR (gF S) 3 + i) = 0) ∧ fX3_nextFreeBlock sp M = some (-nI 1)) := by
  have hb3 := bR_le (g := gF S) (i := 3)
  obtain ⟨R, hRR⟩ : ∃ R, R = bR (gF S) 3 := ⟨_, rfl⟩
  have he : fX3_emptiestRegion sp M = some (nI R) := by
    unfold fX3_emptiestRegion
    have hl := z_loopC (f := fun s : Int32 × Int32 × Int32 => fX3_emptiestRegion_L1 sp M s.1 s.2.1 s.2.2) (fun i => match i with | 0 => (nI 0, -nI 1, nI 0) | i + 1 => (nI (bR (gF S) i), nI (gF S (bR (gF S) i)), nI (i + 1))) 4 (nI (bR (gF S) 3)) (by decide) (fun i hi => by
      have c1 := cFg (sp := sp) hst hi
      have c2 := gF_le (S := S) (r := i)
      match i, hi, c1, c2 with
      | 0, hi, c1, c2 =>
        show fX3_emptiestRegion_L1 sp M (nI 0) (-nI 1) (nI 0) = some (.inl (nI 0, nI (gF S 0), nI 1))
        simp (disch := first | omega | assumption) only [l_0, l_1, l_2, l_3, l_4, l_5, l_6, l_7, l_8, l_11, l_12, l_15, l_16, l_31, l_32, l_66, l_80, l_100, l_127, l_128, l_768, l_2304, l_2310, l_2316, l_2388, l_2394, l_2406, l_2418, l_2430, l_2558, l_2686, l_2814, l_2942, l_3070, l_3390, l_3394, l_3395, l_3396, l_3397, n_leT, n_leF, n_ltT, n_ltF, n_eqT, n_eqF, nI_add, pk_mul, n_sub, z_ldn, z_san, z_bs, z_b2s, z_b3s, z_ocN, z_ocS, z_oxL, z_oxR, z_scL, z_scR, ↓reduceIte, st_170, st_171, st_172, st_173, Nat.zero_add, Nat.add_zero, Nat.zero_lt_succ, true_and, and_true, eq_self, fX3_emptiestRegion_L1, c1, n_leN]
      | i + 1, hi, c1, c2 =>
        have c3 := gF_le (S := S) (r := bR (gF S) i)
        show fX3_emptiestRegion_L1 sp M (nI (bR (gF S) i)) (nI (gF S (bR (gF S) i))) (nI (i + 1)) = some (.inl (nI (if gF S (i + 1) ≤ gF S (bR (gF S) i) then bR (gF S) i else i + 1), nI (gF S (if gF S (i + 1) ≤ gF S (bR (gF S) i) then bR (gF S) i else i + 1)), nI (i + 1 + 1)))
        by_cases q : gF S (i + 1) ≤ gF S (bR (gF S) i)
        · rw [if_pos q]
          simp (disch := first | omega | assumption) only [l_0, l_1, l_2, l_3, l_4, l_5, l_6, l_7, l_8, l_11, l_12, l_15, l_16, l_31, l_32, l_66, l_80, l_100, l_127, l_128, l_768, l_2304, l_2310, l_2316, l_2388, l_2394, l_2406, l_2418, l_2430, l_2558, l_2686, l_2814, l_2942, l_3070, l_3390, l_3394, l_3395, l_3396, l_3397, n_leT, n_leF, n_ltT, n_ltF, n_eqT, n_eqF, nI_add, pk_mul, n_sub, z_ldn, z_san, z_bs, z_b2s, z_b3s, z_ocN, z_ocS, z_oxL, z_oxR, z_scL, z_scR, ↓reduceIte, st_170, st_171, st_172, st_173, Nat.zero_add, Nat.add_zero, Nat.zero_lt_succ, true_and, and_true, eq_self, fX3_emptiestRegion_L1, c1]
        · rw [if_neg q]
          simp (disch := first | omega | assumption) only [l_0, l_1, l_2, l_3, l_4, l_5, l_6, l_7, l_8, l_11, l_12, l_15, l_16, l_31, l_32, l_66, l_80, l_100, l_127, l_128, l_768, l_2304, l_2310, l_2316, l_2388, l_2394, l_2406, l_2418, l_2430, l_2558, l_2686, l_2814, l_2942, l_3070, l_3390, l_3394, l_3395, l_3396, l_3397, n_leT, n_leF, n_ltT, n_ltF, n_eqT, n_eqF, nI_add, pk_mul, n_sub, z_ldn, z_san, z_bs, z_b2s, z_b3s, z_ocN, z_ocS, z_oxL, z_oxR, z_scL, z_scR, ↓reduceIte, st_170, st_171, st_172, st_173, Nat.zero_add, Nat.add_zero, Nat.zero_lt_succ, true_and, and_true, eq_self, fX3_emptiestRegion_L1, c1]) (by
      show fX3_emptiestRegion_L1 sp M (nI (bR (gF S) 3)) (nI (gF S (bR (gF S) 3))) (nI 4) = _
      simp (disch := first | omega | assumption) only [l_0, l_1, l_2, l_3, l_4, l_5, l_6, l_7, l_8, l_11, l_12, l_15, l_16, l_31, l_32, l_66, l_80, l_100, l_127, l_128, l_768, l_2304, l_2310, l_2316, l_2388, l_2394, l_2406, l_2418, l_2430, l_2558, l_2686, l_2814, l_2942, l_3070, l_3390, l_3394, l_3395, l_3396, l_3397, n_leT, n_leF, n_ltT, n_ltF, n_eqT, n_eqF, nI_add, pk_mul, n_sub, z_ldn, z_san, z_bs, z_b2s, z_b3s, z_ocN, z_ocS, z_oxL, z_oxR, z_scL, z_scR, ↓reduceIte, st_170, st_171, st_172, st_173, Nat.zero_add, Nat.add_zero, Nat.zero_lt_succ, true_and, and_true, eq_self, fX3_emptiestRegion_L1])
    rw [show z_loop _ z_FU ((0 : Int32), (-1 : Int32), (0 : Int32)) = _ from hl, hRR]
    rfl
  rw [← hRR]
  have hR4 : R < 4 := by omega
  unfold fX3_nextFreeBlock
  rw [he, z_bs]
  rcases z_loopW (f := fun s9 : Int32 => fX3_nextFreeBlock_L1 sp M (nI R) s9) (fun i => z_sta S (32 * R + i) = 0) (fun i => (Sum.inr (nI (32 * R + i)) : Unit ⊕ Int32)) (Sum.inl ()) (32 * R) 32 (by decide) (s := nI R * 32) (by rw [show (32 : Int32) = nI 32 from rfl, pk_mul, Nat.mul_comm]) (fun i _ => Classical.em _) (fun i hi hne => by
    have c1 := hst (32 * R + i) (by omega)
    have c2 := z_sta2 (S := S) (b := 32 * R + i)
    have c3 : R * 32 = 32 * R := Nat.mul_comm _ _
    simp (disch := first | omega | assumption) only [l_0, l_1, l_2, l_3, l_4, l_5, l_6, l_7, l_8, l_11, l_12, l_15, l_16, l_31, l_32, l_66, l_80, l_100, l_127, l_128, l_768, l_2304, l_2310, l_2316, l_2388, l_2394, l_2406, l_2418, l_2430, l_2558, l_2686, l_2814, l_2942, l_3070, l_3390, l_3394, l_3395, l_3396, l_3397, n_leT, n_leF, n_ltT, n_ltF, n_eqT, n_eqF, nI_add, pk_mul, n_sub, z_ldn, z_san, z_bs, z_b2s, z_b3s, z_ocN, z_ocS, z_oxL, z_oxR, z_scL, z_scR, ↓reduceIte, st_170, st_171, st_172, st_173, Nat.zero_add, Nat.add_zero, Nat.zero_lt_succ, true_and, and_true, eq_self, fX3_nextFreeBlock_L1, c3, cIb, c1]) (fun i hi hie => by
    have c1 := hst (32 * R + i) (by omega)
    rw [hie] at c1
    have c3 : R * 32 = 32 * R := Nat.mul_comm _ _
    simp (disch := first | omega | assumption) only [l_0, l_1, l_2, l_3, l_4, l_5, l_6, l_7, l_8, l_11, l_12, l_15, l_16, l_31, l_32, l_66, l_80, l_100, l_127, l_128, l_768, l_2304, l_2310, l_2316, l_2388, l_2394, l_2406, l_2418, l_2430, l_2558, l_2686, l_2814, l_2942, l_3070, l_3390, l_3394, l_3395, l_3396, l_3397, n_leT, n_leF, n_ltT, n_ltF, n_eqT, n_eqF, nI_add, pk_mul, n_sub, z_ldn, z_san, z_bs, z_b2s, z_b3s, z_ocN, z_ocS, z_oxL, z_oxR, z_scL, z_scR, ↓reduceIte, st_170, st_171, st_172, st_173, Nat.zero_add, Nat.add_zero, Nat.zero_lt_succ, true_and, and_true, eq_self, fX3_nextFreeBlock_L1, c3, cIb, c1]) (by
    have c3 : R * 32 = 32 * R := Nat.mul_comm _ _
    simp (disch := first | omega | assumption) only [l_0, l_1, l_2, l_3, l_4, l_5, l_6, l_7, l_8, l_11, l_12, l_15, l_16, l_31, l_32, l_66, l_80, l_100, l_127, l_128, l_768, l_2304, l_2310, l_2316, l_2388, l_2394, l_2406, l_2418, l_2430, l_2558, l_2686, l_2814, l_2942, l_3070, l_3390, l_3394, l_3395, l_3396, l_3397, n_leT, n_leF, n_ltT, n_ltF, n_eqT, n_eqF, nI_add, pk_mul, n_sub, z_ldn, z_san, z_bs, z_b2s, z_b3s, z_ocN, z_ocS, z_oxL, z_oxR, z_scL, z_scR, ↓reduceIte, st_170, st_171, st_172, st_173, Nat.zero_add, Nat.add_zero, Nat.zero_lt_succ, true_and, and_true, eq_self, fX3_nextFreeBlock_L1, c3]) with ⟨i, q1, q2, q3, q4⟩ | ⟨q1, q2⟩
  · exact Or.inl ⟨i, q1, q2, q3, by rw [q4]; rfl⟩
  · exact Or.inr ⟨q1, by rw [q2]; rfl⟩
theorem mNf {M : zM} {S : Nat → Nat} (hF : ∀ k, 2558 ≤ k → k < 3070 → M (169 + 1) k = nI (S k)) (hr : ∀ b, b < 128 → S (2814 + b) ≤ 2304) (hp : ∀ b, b < 128 → S (2686 + b) ≤ 1) : (∃ i, i < 32 ∧ z_sta S (32 * bR (gF S) 3 + i) = 0 ∧ (∀ j, j < i → ¬ z_sta S (32 * bR (gF S) 3 + j) = 0) ∧ fX7_nextFree 169 M = some (nI (32 * bR (gF S) 3 + i))) ∨ ((∀ i, i < 32 → ¬ z_sta S (32 * bR (gF S) 3 + i) = 0) ∧ fX7_nextFree 169 M = some (-nI 1)) := by
  have hb3 := bR_le (g := gF S) (i := 3)
  obtain ⟨R, hRR⟩ : ∃ R, R = bR (gF S) 3 := ⟨_, rfl⟩
  have hg : ∀ r, r < 4 → fX7_countFree 169 (nI (32 * r)) (nI (32 * r + 32)) M = some (nI (gF S r)) := fun r hr4 => mCf hF hr hp (by omega)
  have he : z_loop (fun s : Int32 × Int32 => fX7_nextFree_L1 169 M s.1 s.2) z_FU (0, 1) = some (nI R) := by
    have hl := z_loopC (f := fun s : Int32 × Int32 => fX7_nextFree_L1 169 M s.1 s.2) (fun i => (nI (bR (gF S) i), nI (i + 1))) 3 (nI (bR (gF S) 3)) (by decide) (fun i hi => by
      have c4 := bR_le (g := gF S) (i := i)
      have c1 := hg (i + 1) (by omega)
      have c5 := hg (bR (gF S) i) (by omega)
      have c2 := gF_le (S := S) (r := i + 1)
      have c3 := gF_le (S := S) (r := bR (gF S) i)
      show fX7_nextFree_L1 169 M (nI (bR (gF S) i)) (nI (i + 1)) = some (.inl (nI (if gF S (i + 1) ≤ gF S (bR (gF S) i) then bR (gF S) i else i + 1), nI (i + 1 + 1)))
      by_cases q : gF S (i + 1) ≤ gF S (bR (gF S) i)
      · rw [if_pos q]
        simp (disch := first | omega | assumption) only [l_0, l_1, l_2, l_3, l_4, l_5, l_6, l_7, l_8, l_11, l_12, l_15, l_16, l_31, l_32, l_66, l_80, l_100, l_127, l_128, l_768, l_2304, l_2310, l_2316, l_2388, l_2394, l_2406, l_2418, l_2430, l_2558, l_2686, l_2814, l_2942, l_3070, l_3390, l_3394, l_3395, l_3396, l_3397, n_leT, n_leF, n_ltT, n_ltF, n_eqT, n_eqF, nI_add, pk_mul, n_sub, z_ldn, z_san, z_bs, z_b2s, z_b3s, z_ocN, z_ocS, z_oxL, z_oxR, z_scL, z_scR, ↓reduceIte, st_170, st_171, st_172, st_173, Nat.zero_add, Nat.add_zero, Nat.zero_lt_succ, true_and, and_true, eq_self, fX7_nextFree_L1, c1, c5]
      · rw [if_neg q]
        simp (disch := first | omega | assumption) only [l_0, l_1, l_2, l_3, l_4, l_5, l_6, l_7, l_8, l_11, l_12, l_15, l_16, l_31, l_32, l_66, l_80, l_100, l_127, l_128, l_768, l_2304, l_2310, l_2316, l_2388, l_2394, l_2406, l_2418, l_2430, l_2558, l_2686, l_2814, l_2942, l_3070, l_3390, l_3394, l_3395, l_3396, l_3397, n_leT, n_leF, n_ltT, n_ltF, n_eqT, n_eqF, nI_add, pk_mul, n_sub, z_ldn, z_san, z_bs, z_b2s, z_b3s, z_ocN, z_ocS, z_oxL, z_oxR, z_scL, z_scR, ↓reduceIte, st_170, st_171, st_172, st_173, Nat.zero_add, Nat.add_zero, Nat.zero_lt_succ, true_and, and_true, eq_self, fX7_nextFree_L1, c1, c5]) (by
      show fX7_nextFree_L1 169 M (nI (bR (gF S) 3)) (nI 4) = _
      simp (disch := first | omega | assumption) only [l_0, l_1, l_2, l_3, l_4, l_5, l_6, l_7, l_8, l_11, l_12, l_15, l_16, l_31, l_32, l_66, l_80, l_100, l_127, l_128, l_768, l_2304, l_2310, l_2316, l_2388, l_2394, l_2406, l_2418, l_2430, l_2558, l_2686, l_2814, l_2942, l_3070, l_3390, l_3394, l_3395, l_3396, l_3397, n_leT, n_leF, n_ltT, n_ltF, n_eqT, n_eqF, nI_add, pk_mul, n_sub, z_ldn, z_san, z_bs, z_b2s, z_b3s, z_ocN, z_ocS, z_oxL, z_oxR, z_scL, z_scR, ↓reduceIte, st_170, st_171, st_172, st_173, Nat.zero_add, Nat.add_zero, Nat.zero_lt_succ, true_and, and_true, eq_self, fX7_nextFree_L1])
    rw [hRR]
    exact hl
  rw [← hRR]
  have hR4 : R < 4 := by omega
  unfold fX7_nextFree
  rw [he, z_bs]
  rcases z_loopW (f := fun s9 : Int32 => fX7_nextFree_L2 169 M (nI R) s9) (fun i => z_sta S (32 * R + i) = 0) (fun i => (Sum.inr (nI (32 * R + i)) : Unit ⊕ Int32)) (Sum.inl ()) (32 * R) 32 (by decide) (s := 32 * nI R) (by rw [show (32 : Int32) = nI 32 from rfl, pk_mul]) (fun i _ => Classical.em _) (fun i hi hne => by
    have c1 := mFr hF (b := 32 * R + i) (by omega) (hr _ (by omega)) (hp _ (by omega))
    rw [if_neg hne] at c1
    simp (disch := first | omega | assumption) only [l_0, l_1, l_2, l_3, l_4, l_5, l_6, l_7, l_8, l_11, l_12, l_15, l_16, l_31, l_32, l_66, l_80, l_100, l_127, l_128, l_768, l_2304, l_2310, l_2316, l_2388, l_2394, l_2406, l_2418, l_2430, l_2558, l_2686, l_2814, l_2942, l_3070, l_3390, l_3394, l_3395, l_3396, l_3397, n_leT, n_leF, n_ltT, n_ltF, n_eqT, n_eqF, nI_add, pk_mul, n_sub, z_ldn, z_san, z_bs, z_b2s, z_b3s, z_ocN, z_ocS, z_oxL, z_oxR, z_scL, z_scR, ↓reduceIte, st_170, st_171, st_172, st_173, Nat.zero_add, Nat.add_zero, Nat.zero_lt_succ, true_and, and_true, eq_self, fX7_nextFree_L2, c1]) (fun i hi hie => by
    have c1 := mFr hF (b := 32 * R + i) (by omega) (hr _ (by omega)) (hp _ (by omega))
    rw [if_pos hie] at c1
    simp (disch := first | omega | assumption) only [l_0, l_1, l_2, l_3, l_4, l_5, l_6, l_7, l_8, l_11, l_12, l_15, l_16, l_31, l_32, l_66, l_80, l_100, l_127, l_128, l_768, l_2304, l_2310, l_2316, l_2388, l_2394, l_2406, l_2418, l_2430, l_2558, l_2686, l_2814, l_2942, l_3070, l_3390, l_3394, l_3395, l_3396, l_3397, n_leT, n_leF, n_ltT, n_ltF, n_eqT, n_eqF, nI_add, pk_mul, n_sub, z_ldn, z_san, z_bs, z_b2s, z_b3s, z_ocN, z_ocS, z_oxL, z_oxR, z_scL, z_scR, ↓reduceIte, st_170, st_171, st_172, st_173, Nat.zero_add, Nat.add_zero, Nat.zero_lt_succ, true_and, and_true, eq_self, fX7_nextFree_L2, c1]) (by
    simp (disch := first | omega | assumption) only [l_0, l_1, l_2, l_3, l_4, l_5, l_6, l_7, l_8, l_11, l_12, l_15, l_16, l_31, l_32, l_66, l_80, l_100, l_127, l_128, l_768, l_2304, l_2310, l_2316, l_2388, l_2394, l_2406, l_2418, l_2430, l_2558, l_2686, l_2814, l_2942, l_3070, l_3390, l_3394, l_3395, l_3396, l_3397, n_leT, n_leF, n_ltT, n_ltF, n_eqT, n_eqF, nI_add, pk_mul, n_sub, z_ldn, z_san, z_bs, z_b2s, z_b3s, z_ocN, z_ocS, z_oxL, z_oxR, z_scL, z_scR, ↓reduceIte, st_170, st_171, st_172, st_173, Nat.zero_add, Nat.add_zero, Nat.zero_lt_succ, true_and, and_true, eq_self, fX7_nextFree_L2]) with ⟨i, q1, q2, q3, q4⟩ | ⟨q1, q2⟩
  · exact Or.inl ⟨i, q1, q2, q3, by rw [q4]; rfl⟩
  · exact Or.inr ⟨q1, by rw [q2]; rfl⟩
/-- both sides choose the same free block, or none -/
theorem both_nf {sp : Nat} {M : zM} {S : Nat → Nat} (hst : ∀ b, b < 128 → M (sp + 1) b = nI (z_sta S b)) (hr : ∀ b, b < 128 → S (2814 + b) ≤ 2304) (hp : ∀ b, b < 128 → S (2686 + b) ≤ 1) : (∃ x, x < 128 ∧ z_sta S x = 0 ∧ fX3_nextFreeBlock sp M = some (nI x) ∧ ∀ M' : zM, (∀ k, 2558 ≤ k → k < 3070 → M' (169 + 1) k = nI (S k)) → fX7_nextFree 169 M' = some (nI x)) ∨ (fX3_nextFreeBlock sp M = some (-nI 1) ∧ ∀ M' : zM, (∀ k, 2558 ≤ k → k < 3070 → M' (169 + 1) k = nI (S k)) → fX7_nextFree 169 M' = some (-nI 1)) := by
  have hb3 := bR_le (g := gF S) (i := 3)
  rcases cNf hst with ⟨i, q1, q2, q3, q4⟩ | ⟨q1, q2⟩
  · refine Or.inl ⟨_, by omega, q2, q4, fun M' hM => ?_⟩
    rcases mNf hM hr hp with ⟨j, r1, r2, r3, r4⟩ | ⟨r1, r2⟩
    · have : i = j := by
        rcases Nat.lt_trichotomy i j with c | c | c
        · exact absurd q2 (r3 i c)
        · exact c
        · exact absurd r2 (q3 j c)
      rw [this]
      exact r4
    · exact absurd q2 (r1 i q1)
  · refine Or.inr ⟨q2, fun M' hM => ?_⟩
    rcases mNf hM hr hp with ⟨j, r1, r2, r3, r4⟩ | ⟨r1, r2⟩
    · exact absurd r2 (q1 j r1)
    · exact r2
theorem cBn {M : zM} {S : Nat → Nat} {y o : Nat} (hst : ∀ b, b < 128 → M (1 + 3 + 1) b = nI (z_sta S b)) (hbi : ∀ b, b < 128 → M (1 + 3 + 3) b = nI (S (2558 + b))) (hy : y ≤ 128) (hrf : y ≠ 0 → S (2814 + (y - 1)) ≠ 0) (hb : ∀ b, b < 128 → S (2558 + b) < 2 ^ 31) (ho : o < 2 ^ 31) : fX3_bornIn (1 + 3) (nI y - nI 1) (nI o) M = some (nI (if y ≠ 0 ∧ S (2558 + (y - 1)) = o then 1 else 0)) := by
  unfold fX3_bornIn
  by_cases q : y = 0
  · subst q
    rw [if_neg (fun c => c.1 rfl)]
    unfold fX3_isAllocated
    simp (disch := first | omega | assumption) only [l_0, l_1, l_2, l_3, l_4, l_5, l_6, l_7, l_8, l_11, l_12, l_15, l_16, l_31, l_32, l_66, l_80, l_100, l_127, l_128, l_768, l_2304, l_2310, l_2316, l_2388, l_2394, l_2406, l_2418, l_2430, l_2558, l_2686, l_2814, l_2942, l_3070, l_3390, l_3394, l_3395, l_3396, l_3397, n_leT, n_leF, n_ltT, n_ltF, n_eqT, n_eqF, nI_add, pk_mul, n_sub, z_ldn, z_san, z_bs, z_b2s, z_b3s, z_ocN, z_ocS, z_oxL, z_oxR, z_scL, z_scR, ↓reduceIte, st_170, st_171, st_172, st_173, Nat.zero_add, Nat.add_zero, Nat.zero_lt_succ, true_and, and_true, eq_self, cIb0]
  · have c1 := cAl hst (b := y - 1) (by omega)
    rw [if_neg (hrf q)] at c1
    have c2 := hbi (y - 1) (by omega)
    have c3 := hb (y - 1) (by omega)
    by_cases q2 : S (2558 + (y - 1)) = o
    · rw [if_pos ⟨q, q2⟩]
      simp (disch := first | omega | assumption) only [l_0, l_1, l_2, l_3, l_4, l_5, l_6, l_7, l_8, l_11, l_12, l_15, l_16, l_31, l_32, l_66, l_80, l_100, l_127, l_128, l_768, l_2304, l_2310, l_2316, l_2388, l_2394, l_2406, l_2418, l_2430, l_2558, l_2686, l_2814, l_2942, l_3070, l_3390, l_3394, l_3395, l_3396, l_3397, n_leT, n_leF, n_ltT, n_ltF, n_eqT, n_eqF, nI_add, pk_mul, n_sub, z_ldn, z_san, z_bs, z_b2s, z_b3s, z_ocN, z_ocS, z_oxL, z_oxR, z_scL, z_scR, ↓reduceIte, st_170, st_171, st_172, st_173, Nat.zero_add, Nat.add_zero, Nat.zero_lt_succ, true_and, and_true, eq_self, c1, c2, q2]
    · rw [if_neg (fun c => q2 c.2)]
      simp (disch := first | omega | assumption) only [l_0, l_1, l_2, l_3, l_4, l_5, l_6, l_7, l_8, l_11, l_12, l_15, l_16, l_31, l_32, l_66, l_80, l_100, l_127, l_128, l_768, l_2304, l_2310, l_2316, l_2388, l_2394, l_2406, l_2418, l_2430, l_2558, l_2686, l_2814, l_2942, l_3070, l_3390, l_3394, l_3395, l_3396, l_3397, n_leT, n_leF, n_ltT, n_ltF, n_eqT, n_eqF, nI_add, pk_mul, n_sub, z_ldn, z_san, z_bs, z_b2s, z_b3s, z_ocN, z_ocS, z_oxL, z_oxR, z_scL, z_scR, ↓reduceIte, st_170, st_171, st_172, st_173, Nat.zero_add, Nat.add_zero, Nat.zero_lt_succ, true_and, and_true, eq_self, c1, c2]
theorem z_stst {M : zM} {k j : Nat} {v w : Int32} : z_st (z_st M k j v) k j w = z_st M k j w := by
  funext a
  by_cases q : a = k
  · subst q
    rw [s_s, s_s, s_s]
    funext i
    by_cases c : i = j
    · subst c
      rw [u_s, u_s]
    · rw [u_n c, u_n c, u_n c]
  · rw [s_n q, s_n q, s_n q]
theorem z_N_gap {N : Nat → Int32} {S : Nat → Nat} (h : z_N N S) {k : Nat} {v : Int32} (h1 : 2430 ≤ k) (h2 : k < 2558) : z_N (upd N k v) S :=
  ⟨fun j hj => by rw [u_n (by omega)]; exact h.1 j hj, fun j k1 k2 => by rw [u_n (by omega)]; exact h.2.1 j k1 k2, fun j k1 k2 => by rw [u_n (by omega)]; exact h.2.2 j k1 k2⟩
theorem y_mk_id {n : Nat} {S : Nat → Nat} (hI : z_I n S) : y_mk S = S := by
  funext k
  by_cases q1 : 2686 ≤ k ∧ k < 2814
  · have e : k = 2686 + (k - 2686) := by omega
    rw [e, y_mk_pen (by omega), if_neg]
    intro c
    unfold lostN at c
    rw [← I_ref hI (k - 2686) (by omega), if_neg (fun x => x.2 x.1)] at c
    exact absurd c (by decide)
  · by_cases q2 : 2814 ≤ k ∧ k < 2942
    · have e : k = 2814 + (k - 2814) := by omega
      rw [e, y_mk_ref (by omega)]
      exact (I_ref hI (k - 2814) (by omega)).symm
    · exact y_mk_o (by omega)
theorem st_94 {M : zM} {v : Int32} : z_st M 169 4 v 169 4 = v := by rw [s_s, u_s]
/-- the model's write, when its block is x -/
theorem mW {Mm Mw M4 : zM} {S : Nat → Nat} {d f i P y x v : Nat} {a4 : Int32} (k1 : ∀ k, k < 2430 → Mm (169 + 1) k = nI (S k)) (k2 : ∀ k, 2558 ≤ k → k < 3070 → Mm (169 + 1) k = nI (S k)) (k3 : Mm (169 + 1) 3395 = nI (S 3395)) (hd : d < 6) (h1 : S (2304 + d) = 1) (hf : f < 8) (hi : i < 16) (hP : P = 16 * f + i) (hyy : y = S (128 * d + P)) (hy : y ≤ 128) (hb1 : ∀ b, b < 128 → S (2558 + b) < 2 ^ 31 ∧ S (2814 + b) < 2 ^ 31) (ho : S 3395 < 2 ^ 31) (hx : x < 128) (hc : (y ≠ 0 ∧ S (2558 + (y - 1)) = S 3395 ∧ S (2814 + (y - 1)) = 1 ∧ x = y - 1) ∨ ((y = 0 ∨ (y ≠ 0 ∧ S (2558 + (y - 1)) ≠ S 3395) ∨ (y ≠ 0 ∧ S (2558 + (y - 1)) = S 3395 ∧ S (2814 + (y - 1)) ≠ 1)) ∧ fX7_nextFree 169 (z_st Mm 169 4 (nI 0)) = some (nI x))) (hMw : Mw = z_st (z_st (z_st (z_st Mm 169 4 (nI 0)) (169 + 1) (2430 + x) a4) (169 + 1) (2558 + x) (nI (S 3395))) (169 + 1) (128 * d + P) (nI (x + 1))) (o1 : fX7_counts 169 Mw = some (nI v, M4)) (hv : v ≤ 128) : fX7_write 169 (nI d) (nI f) (nI i) a4 Mm = some (nI x, M4) := by
  have t1 : Mm (169 + 1) (128 * d + P) = nI y := by rw [hyy]; exact k1 _ (by omega)
  have cv : z_st (z_st Mm 169 4 (nI 0)) (169 + 1) (2430 + x) a4 (169 + 1) 3395 = nI (S 3395) := by
    rw [s_s, u_n (by omega), st_170]
    exact k3
  have hs := mSet_ok k1 hd h1
  have hp := mSpot_ok (M := Mm) hf hi
  have hsp : fX7_spot (nI d) (nI f) (nI i) (z_st Mm 169 4 (nI 0)) = some (nI (128 * d + P)) := by rw [mSp, hP]
  unfold fX7_write
  clear k1
  rcases hc with ⟨hy0, c1, c2, c3⟩ | ⟨h3, hmo⟩
  · have t2 : Mm (169 + 1) (2558 + (y - 1)) = nI (S 3395) := (k2 _ (by omega) (by omega)).trans (congrArg nI c1)
    have t3 : Mm (169 + 1) (2814 + (y - 1)) = nI 1 := (k2 _ (by omega) (by omega)).trans (congrArg nI c2)
    rw [c3] at cv hMw ⊢
    simp (disch := first | omega | assumption) only [l_0, l_1, l_2, l_3, l_4, l_5, l_6, l_7, l_8, l_11, l_12, l_15, l_16, l_31, l_32, l_66, l_80, l_100, l_127, l_128, l_768, l_2304, l_2310, l_2316, l_2388, l_2394, l_2406, l_2418, l_2430, l_2558, l_2686, l_2814, l_2942, l_3070, l_3390, l_3394, l_3395, l_3396, l_3397, n_leT, n_leF, n_ltT, n_ltF, n_eqT, n_eqF, nI_add, pk_mul, n_sub, z_ldn, z_san, z_bs, z_b2s, z_b3s, z_ocN, z_ocS, z_oxL, z_oxR, z_scL, z_scR, ↓reduceIte, st_170, st_171, st_172, st_173, Nat.zero_add, Nat.add_zero, Nat.zero_lt_succ, true_and, and_true, eq_self, hs, hp, st_94, hsp, t1, t2, t3, k3, z_stst, cv, ← hMw, o1]
  · rcases h3 with q | ⟨q, q2⟩ | ⟨q, q2, q3⟩
    · rw [q] at t1
      simp (disch := first | omega | assumption) only [l_0, l_1, l_2, l_3, l_4, l_5, l_6, l_7, l_8, l_11, l_12, l_15, l_16, l_31, l_32, l_66, l_80, l_100, l_127, l_128, l_768, l_2304, l_2310, l_2316, l_2388, l_2394, l_2406, l_2418, l_2430, l_2558, l_2686, l_2814, l_2942, l_3070, l_3390, l_3394, l_3395, l_3396, l_3397, n_leT, n_leF, n_ltT, n_ltF, n_eqT, n_eqF, nI_add, pk_mul, n_sub, z_ldn, z_san, z_bs, z_b2s, z_b3s, z_ocN, z_ocS, z_oxL, z_oxR, z_scL, z_scR, ↓reduceIte, st_170, st_171, st_172, st_173, Nat.zero_add, Nat.add_zero, Nat.zero_lt_succ, true_and, and_true, eq_self, hs, hp, st_94, hsp, t1, n_m0a, z_stst, hmo, cv, ← hMw, o1]
    · have t2 : Mm (169 + 1) (2558 + (y - 1)) = nI (S (2558 + (y - 1))) := k2 _ (by omega) (by omega)
      have cl := (hb1 (y - 1) (by omega)).1
      simp (disch := first | omega | assumption) only [l_0, l_1, l_2, l_3, l_4, l_5, l_6, l_7, l_8, l_11, l_12, l_15, l_16, l_31, l_32, l_66, l_80, l_100, l_127, l_128, l_768, l_2304, l_2310, l_2316, l_2388, l_2394, l_2406, l_2418, l_2430, l_2558, l_2686, l_2814, l_2942, l_3070, l_3390, l_3394, l_3395, l_3396, l_3397, n_leT, n_leF, n_ltT, n_ltF, n_eqT, n_eqF, nI_add, pk_mul, n_sub, z_ldn, z_san, z_bs, z_b2s, z_b3s, z_ocN, z_ocS, z_oxL, z_oxR, z_scL, z_scR, ↓reduceIte, st_170, st_171, st_172, st_173, Nat.zero_add, Nat.add_zero, Nat.zero_lt_succ, true_and, and_true, eq_self, hs, hp, st_94, hsp, t1, t2, k3, z_stst, hmo, cv, ← hMw, o1]
    · have t2 : Mm (169 + 1) (2558 + (y - 1)) = nI (S 3395) := (k2 _ (by omega) (by omega)).trans (congrArg nI q2)
      have t3 : Mm (169 + 1) (2814 + (y - 1)) = nI (S (2814 + (y - 1))) := k2 _ (by omega) (by omega)
      have cl := (hb1 (y - 1) (by omega)).2
      simp (disch := first | omega | assumption) only [l_0, l_1, l_2, l_3, l_4, l_5, l_6, l_7, l_8, l_11, l_12, l_15, l_16, l_31, l_32, l_66, l_80, l_100, l_127, l_128, l_768, l_2304, l_2310, l_2316, l_2388, l_2394, l_2406, l_2418, l_2430, l_2558, l_2686, l_2814, l_2942, l_3070, l_3390, l_3394, l_3395, l_3396, l_3397, n_leT, n_leF, n_ltT, n_ltF, n_eqT, n_eqF, nI_add, pk_mul, n_sub, z_ldn, z_san, z_bs, z_b2s, z_b3s, z_ocN, z_ocS, z_oxL, z_oxR, z_scL, z_scR, ↓reduceIte, st_170, st_171, st_172, st_173, Nat.zero_add, Nat.add_zero, Nat.zero_lt_succ, true_and, and_true, eq_self, hs, hp, st_94, hsp, t1, t2, t3, k3, z_stst, hmo, cv, ← hMw, o1]
theorem mW_no {Mm : zM} {S : Nat → Nat} {d f i P y : Nat} {a4 : Int32} (k1 : ∀ k, k < 2430 → Mm (169 + 1) k = nI (S k)) (k2 : ∀ k, 2558 ≤ k → k < 3070 → Mm (169 + 1) k = nI (S k)) (k3 : Mm (169 + 1) 3395 = nI (S 3395)) (hd : d < 6) (h1 : S (2304 + d) = 1) (hf : f < 8) (hi : i < 16) (hP : P = 16 * f + i) (hyy : y = S (128 * d + P)) (hy : y ≤ 128) (hb1 : ∀ b, b < 128 → S (2558 + b) < 2 ^ 31 ∧ S (2814 + b) < 2 ^ 31) (ho : S 3395 < 2 ^ 31) (h3 : y = 0 ∨ (y ≠ 0 ∧ S (2558 + (y - 1)) ≠ S 3395) ∨ (y ≠ 0 ∧ S (2558 + (y - 1)) = S 3395 ∧ S (2814 + (y - 1)) ≠ 1)) (hmo : fX7_nextFree 169 (z_st Mm 169 4 (nI 0)) = some (-nI 1)) : fX7_write 169 (nI d) (nI f) (nI i) a4 Mm = some (nI 0, z_st Mm 169 4 (nI 2)) := by
  have t1 : Mm (169 + 1) (128 * d + P) = nI y := by rw [hyy]; exact k1 _ (by omega)
  have hs := mSet_ok k1 hd h1
  have hp := mSpot_ok (M := Mm) hf hi
  have hsp : fX7_spot (nI d) (nI f) (nI i) (z_st Mm 169 4 (nI 0)) = some (nI (128 * d + P)) := by rw [mSp, hP]
  unfold fX7_write
  clear k1
  rcases h3 with q | ⟨q, q2⟩ | ⟨q, q2, q3⟩
  · rw [q] at t1
    simp (disch := first | omega | assumption) only [l_0, l_1, l_2, l_3, l_4, l_5, l_6, l_7, l_8, l_11, l_12, l_15, l_16, l_31, l_32, l_66, l_80, l_100, l_127, l_128, l_768, l_2304, l_2310, l_2316, l_2388, l_2394, l_2406, l_2418, l_2430, l_2558, l_2686, l_2814, l_2942, l_3070, l_3390, l_3394, l_3395, l_3396, l_3397, n_leT, n_leF, n_ltT, n_ltF, n_eqT, n_eqF, nI_add, pk_mul, n_sub, z_ldn, z_san, z_bs, z_b2s, z_b3s, z_ocN, z_ocS, z_oxL, z_oxR, z_scL, z_scR, ↓reduceIte, st_170, st_171, st_172, st_173, Nat.zero_add, Nat.add_zero, Nat.zero_lt_succ, true_and, and_true, eq_self, hs, hp, st_94, hsp, t1, n_m0a, z_stst, hmo, n_ng1]
  · have t2 : Mm (169 + 1) (2558 + (y - 1)) = nI (S (2558 + (y - 1))) := k2 _ (by omega) (by omega)
    have cl := (hb1 (y - 1) (by omega)).1
    simp (disch := first | omega | assumption) only [l_0, l_1, l_2, l_3, l_4, l_5, l_6, l_7, l_8, l_11, l_12, l_15, l_16, l_31, l_32, l_66, l_80, l_100, l_127, l_128, l_768, l_2304, l_2310, l_2316, l_2388, l_2394, l_2406, l_2418, l_2430, l_2558, l_2686, l_2814, l_2942, l_3070, l_3390, l_3394, l_3395, l_3396, l_3397, n_leT, n_leF, n_ltT, n_ltF, n_eqT, n_eqF, nI_add, pk_mul, n_sub, z_ldn, z_san, z_bs, z_b2s, z_b3s, z_ocN, z_ocS, z_oxL, z_oxR, z_scL, z_scR, ↓reduceIte, st_170, st_171, st_172, st_173, Nat.zero_add, Nat.add_zero, Nat.zero_lt_succ, true_and, and_true, eq_self, hs, hp, st_94, hsp, t1, t2, k3, z_stst, hmo, n_ng1]
  · have t2 : Mm (169 + 1) (2558 + (y - 1)) = nI (S 3395) := (k2 _ (by omega) (by omega)).trans (congrArg nI q2)
    have t3 : Mm (169 + 1) (2814 + (y - 1)) = nI (S (2814 + (y - 1))) := k2 _ (by omega) (by omega)
    have cl := (hb1 (y - 1) (by omega)).2
    simp (disch := first | omega | assumption) only [l_0, l_1, l_2, l_3, l_4, l_5, l_6, l_7, l_8, l_11, l_12, l_15, l_16, l_31, l_32, l_66, l_80, l_100, l_127, l_128, l_768, l_2304, l_2310, l_2316, l_2388, l_2394, l_2406, l_2418, l_2430, l_2558, l_2686, l_2814, l_2942, l_3070, l_3390, l_3394, l_3395, l_3396, l_3397, n_leT, n_leF, n_ltT, n_ltF, n_eqT, n_eqF, nI_add, pk_mul, n_sub, z_ldn, z_san, z_bs, z_b2s, z_b3s, z_ocN, z_ocS, z_oxL, z_oxR, z_scL, z_scR, ↓reduceIte, st_170, st_171, st_172, st_173, Nat.zero_add, Nat.add_zero, Nat.zero_lt_succ, true_and, and_true, eq_self, hs, hp, st_94, hsp, t1, t2, t3, k3, z_stst, hmo, n_ng1]
/-- the class's write of a fresh block, or none -/
theorem cW_no {M : zM} {S : Nat → Nat} {d f i P y : Nat} {a4 : Int32} {q0 : Option ((String ⊕ Int32) × zM)} (hR : z_R1 1 M (M 170) S) (hd : d < 6) (h1 : S (2304 + d) = 1) (hf : f < 8) (hi : i < 16) (hP : P = 16 * f + i) (hyy : y = S (128 * d + P)) (hy : y ≤ 128) (hrf : y ≠ 0 → S (2814 + (y - 1)) ≠ 0) (hb1 : ∀ b, b < 128 → S (2558 + b) < 2 ^ 31 ∧ S (2814 + b) < 2 ^ 31) (ho : S 3395 < 2 ^ 31) (h3 : y = 0 ∨ (y ≠ 0 ∧ S (2558 + (y - 1)) ≠ S 3395) ∨ (y ≠ 0 ∧ S (2558 + (y - 1)) = S 3395 ∧ S (2814 + (y - 1)) ≠ 1)) {x : Int32} {Ma Mp M2 : zM} {v : Int32} (hcn : fX3_nextFreeBlock (1 + 3) M = some x) (hx : (x = -nI 1 ∧ q0 = some (.inl "java/lang/IllegalStateException", M)) ∨ ((x = -nI 1) = False ∧ fX3_allocate (1 + 3) x a4 (nI (S 3395)) M = some Ma ∧ fX5_put 1 (1 + 9 + 3 * d + 1) (nI P) x Ma = some Mp ∧ fX5_settle 1 Mp = some (v, M2) ∧ q0 = some (.inr x, M2))) : fX6_write 0 (nI d) (nI f) (nI i) a4 M = q0 := by
  have hst := I_st hR.2.2.2.1
  have hop : M 1 4 = nI (S 3395) := hR.2.2.2.2.2.1
  have ct : M (1 + 9 + 3 * d + 1 + 1) P = nI y - nI 1 := by rw [hyy]; exact hR.1 d (by omega) P (by omega)
  have cb := cBn (S := S) (y := y) (o := S 3395) hst (fun b hb => (hR.2.2.2.1 b hb).2.2.1) hy hrf (fun b hb => (hb1 b hb).1) ho
  have cu : y ≠ 0 → fX3_usesOf (1 + 3) (nI y - nI 1) M = some (nI (S (2814 + (y - 1)))) := fun q => by
    have := (hR.2.2.2.1 (y - 1) (by omega)).2.2.2
    rw [n_pm1 q]
    unfold fX3_usesOf
    simp (disch := first | omega | assumption) only [l_0, l_1, l_2, l_3, l_4, l_5, l_6, l_7, l_8, l_11, l_12, l_15, l_16, l_31, l_32, l_66, l_80, l_100, l_127, l_128, l_768, l_2304, l_2310, l_2316, l_2388, l_2394, l_2406, l_2418, l_2430, l_2558, l_2686, l_2814, l_2942, l_3070, l_3390, l_3394, l_3395, l_3396, l_3397, n_leT, n_leF, n_ltT, n_ltF, n_eqT, n_eqF, nI_add, pk_mul, n_sub, z_ldn, z_san, z_bs, z_b2s, z_b3s, z_ocN, z_ocS, z_oxL, z_oxR, z_scL, z_scR, ↓reduceIte, st_170, st_171, st_172, st_173, Nat.zero_add, Nat.add_zero, Nat.zero_lt_succ, true_and, and_true, eq_self, cIb, this]
  have e1 := cDs_ok hR.2.1 hd h1
  have e2 := cPl_ok (M := M) hf hi
  have e3 := kd1_ds hd
  have e4 : fX4_blockOf (1 + 9 + 3 * d + 1) (nI P) M = some (nI y - nI 1) := by rw [cBo (by omega), ct]
  rw [← hP] at e2
  have hb2 := fun q : y ≠ 0 => hb1 (y - 1) (by omega)
  clear hst hR hb1
  unfold fX6_write
  rcases h3 with q | ⟨q, q2⟩ | ⟨q, q2, q3⟩
  · rw [show (if y ≠ 0 ∧ S (2558 + (y - 1)) = S 3395 then 1 else 0) = 0 from if_neg (fun c => c.1 q)] at cb
    rcases hx with ⟨x1, x2⟩ | ⟨x1, x2, x3, x4, x5⟩
    · subst x1 x2
      simp (disch := first | omega | assumption) only [l_0, l_1, l_2, l_3, l_4, l_5, l_6, l_7, l_8, l_11, l_12, l_15, l_16, l_31, l_32, l_66, l_80, l_100, l_127, l_128, l_768, l_2304, l_2310, l_2316, l_2388, l_2394, l_2406, l_2418, l_2430, l_2558, l_2686, l_2814, l_2942, l_3070, l_3390, l_3394, l_3395, l_3396, l_3397, n_leT, n_leF, n_ltT, n_ltF, n_eqT, n_eqF, nI_add, pk_mul, n_sub, z_ldn, z_san, z_bs, z_b2s, z_b3s, z_ocN, z_ocS, z_oxL, z_oxR, z_scL, z_scR, ↓reduceIte, st_170, st_171, st_172, st_173, Nat.zero_add, Nat.add_zero, Nat.zero_lt_succ, true_and, and_true, eq_self, e1, z_gdp e3, e2, e4, hop, cb, hcn]
    · simp (disch := first | omega | assumption) only [l_0, l_1, l_2, l_3, l_4, l_5, l_6, l_7, l_8, l_11, l_12, l_15, l_16, l_31, l_32, l_66, l_80, l_100, l_127, l_128, l_768, l_2304, l_2310, l_2316, l_2388, l_2394, l_2406, l_2418, l_2430, l_2558, l_2686, l_2814, l_2942, l_3070, l_3390, l_3394, l_3395, l_3396, l_3397, n_leT, n_leF, n_ltT, n_ltF, n_eqT, n_eqF, nI_add, pk_mul, n_sub, z_ldn, z_san, z_bs, z_b2s, z_b3s, z_ocN, z_ocS, z_oxL, z_oxR, z_scL, z_scR, ↓reduceIte, st_170, st_171, st_172, st_173, Nat.zero_add, Nat.add_zero, Nat.zero_lt_succ, true_and, and_true, eq_self, e1, z_gdp e3, e2, e4, hop, cb, hcn, x1, x2, x3, x4, x5]
  · rw [show (if y ≠ 0 ∧ S (2558 + (y - 1)) = S 3395 then 1 else 0) = 0 from if_neg (fun c => q2 c.2)] at cb
    rw [n_pm1 q] at cb e4
    rcases hx with ⟨x1, x2⟩ | ⟨x1, x2, x3, x4, x5⟩
    · subst x1 x2
      simp (disch := first | omega | assumption) only [l_0, l_1, l_2, l_3, l_4, l_5, l_6, l_7, l_8, l_11, l_12, l_15, l_16, l_31, l_32, l_66, l_80, l_100, l_127, l_128, l_768, l_2304, l_2310, l_2316, l_2388, l_2394, l_2406, l_2418, l_2430, l_2558, l_2686, l_2814, l_2942, l_3070, l_3390, l_3394, l_3395, l_3396, l_3397, n_leT, n_leF, n_ltT, n_ltF, n_eqT, n_eqF, nI_add, pk_mul, n_sub, z_ldn, z_san, z_bs, z_b2s, z_b3s, z_ocN, z_ocS, z_oxL, z_oxR, z_scL, z_scR, ↓reduceIte, st_170, st_171, st_172, st_173, Nat.zero_add, Nat.add_zero, Nat.zero_lt_succ, true_and, and_true, eq_self, e1, z_gdp e3, e2, e4, hop, cb, hcn]
    · simp (disch := first | omega | assumption) only [l_0, l_1, l_2, l_3, l_4, l_5, l_6, l_7, l_8, l_11, l_12, l_15, l_16, l_31, l_32, l_66, l_80, l_100, l_127, l_128, l_768, l_2304, l_2310, l_2316, l_2388, l_2394, l_2406, l_2418, l_2430, l_2558, l_2686, l_2814, l_2942, l_3070, l_3390, l_3394, l_3395, l_3396, l_3397, n_leT, n_leF, n_ltT, n_ltF, n_eqT, n_eqF, nI_add, pk_mul, n_sub, z_ldn, z_san, z_bs, z_b2s, z_b3s, z_ocN, z_ocS, z_oxL, z_oxR, z_scL, z_scR, ↓reduceIte, st_170, st_171, st_172, st_173, Nat.zero_add, Nat.add_zero, Nat.zero_lt_succ, true_and, and_true, eq_self, e1, z_gdp e3, e2, e4, hop, cb, hcn, x1, x2, x3, x4, x5]
  · rw [show (if y ≠ 0 ∧ S (2558 + (y - 1)) = S 3395 then 1 else 0) = 1 from if_pos ⟨q, q2⟩] at cb
    have cu := cu q
    have cl := (hb2 q).2
    rw [n_pm1 q] at cb cu e4
    rcases hx with ⟨x1, x2⟩ | ⟨x1, x2, x3, x4, x5⟩
    · subst x1 x2
      simp (disch := first | omega | assumption) only [l_0, l_1, l_2, l_3, l_4, l_5, l_6, l_7, l_8, l_11, l_12, l_15, l_16, l_31, l_32, l_66, l_80, l_100, l_127, l_128, l_768, l_2304, l_2310, l_2316, l_2388, l_2394, l_2406, l_2418, l_2430, l_2558, l_2686, l_2814, l_2942, l_3070, l_3390, l_3394, l_3395, l_3396, l_3397, n_leT, n_leF, n_ltT, n_ltF, n_eqT, n_eqF, nI_add, pk_mul, n_sub, z_ldn, z_san, z_bs, z_b2s, z_b3s, z_ocN, z_ocS, z_oxL, z_oxR, z_scL, z_scR, ↓reduceIte, st_170, st_171, st_172, st_173, Nat.zero_add, Nat.add_zero, Nat.zero_lt_succ, true_and, and_true, eq_self, e1, z_gdp e3, e2, e4, hop, cb, cu, hcn]
    · simp (disch := first | omega | assumption) only [l_0, l_1, l_2, l_3, l_4, l_5, l_6, l_7, l_8, l_11, l_12, l_15, l_16, l_31, l_32, l_66, l_80, l_100, l_127, l_128, l_768, l_2304, l_2310, l_2316, l_2388, l_2394, l_2406, l_2418, l_2430, l_2558, l_2686, l_2814, l_2942, l_3070, l_3390, l_3394, l_3395, l_3396, l_3397, n_leT, n_leF, n_ltT, n_ltF, n_eqT, n_eqF, nI_add, pk_mul, n_sub, z_ldn, z_san, z_bs, z_b2s, z_b3s, z_ocN, z_ocS, z_oxL, z_oxR, z_scL, z_scR, ↓reduceIte, st_170, st_171, st_172, st_173, Nat.zero_add, Nat.add_zero, Nat.zero_lt_succ, true_and, and_true, eq_self, e1, z_gdp e3, e2, e4, hop, cb, cu, hcn, x1, x2, x3, x4, x5]
theorem op_0 {n : Nat} (hn : n < 512) {M : zM} (h : z_P n M) (a1 a2 a3 a4 a5 a6 : Int32) : ∃ M9, fL_c0 a1 a2 a3 a4 a5 a6 M = some (1, M9) ∧ z_P (n + 1) M9 := by
  obtain ⟨S, S0, hN, hN0, hR, hR0, hI, hI0, hB, hB0⟩ := id h
  unfold fL_c0 fL_write
  have hN1 := N1 hN
  have hN2 := N2 hN
  have hN3 := N3 hN
  rcases ds_cases a1 (I_ex hI) with ⟨d, hd, rfl, h1⟩ | h1
  · rcases pl_cases a2 a3 with ⟨f, i, hf, hi, rfl, rfl⟩ | h2
    · obtain ⟨P, hP⟩ : ∃ P, P = 16 * f + i := ⟨_, rfl⟩
      have hP8 : P < 128 := by omega
      have hQ := z_Q_of hR hI
      obtain ⟨y, hyy⟩ : ∃ y, y = S (128 * d + P) := ⟨_, rfl⟩
      have hy : y ≤ 128 := by rw [hyy]; exact I_tab hI _ (by omega)
      have hrf : y ≠ 0 → S (2814 + (y - 1)) ≠ 0 := fun q => by
        rw [I_ref hI _ (by omega)]
        exact cntN_pos.mpr ⟨128 * d + P, by omega, by omega⟩
      have ho := (I_bnd hI).2.1
      have hop : M 1 4 = nI (S 3395) := hR.2.2.2.2.2.1
      have hbi := I_bir hI
      have hr3 := I_r2304 hI
      have hst := I_st hR.2.2.2.1
      have ct : M (1 + 9 + 3 * d + 1 + 1) P = nI y - nI 1 := by rw [hyy]; exact hR.1 d (by omega) P hP8
      have cb := cBn (S := S) (y := y) (o := S 3395) hst (fun b hb => (hR.2.2.2.1 b hb).2.2.1) hy hrf (fun b hb => by have := hbi b hb; omega) (by omega)
      have hb1 : ∀ b, b < 128 → S (2558 + b) < 2 ^ 31 ∧ S (2814 + b) < 2 ^ 31 := fun b hb => ⟨by have := hbi b hb; omega, by have := hr3 b hb; omega⟩
      by_cases hC : y ≠ 0 ∧ S (2558 + (y - 1)) = S 3395 ∧ S (2814 + (y - 1)) = 1
      · -- in its place
        obtain ⟨hy0, hC1, hC2⟩ := hC
        rw [if_pos ⟨hy0, hC1⟩] at cb
        obtain ⟨b, hbb⟩ : ∃ b, b = y - 1 := ⟨_, rfl⟩
        have hb8 : b < 128 := by omega
        rw [← hbb] at hC1 hC2
        have eb : nI y - nI 1 = nI b := by rw [hbb]; exact n_pm1 hy0
        rw [eb] at cb ct
        have cu : fX3_usesOf (1 + 3) (nI b) M = some (nI 1) := by
          have := (hR.2.2.2.1 b hb8).2.2.2
          rw [hC2] at this
          unfold fX3_usesOf
          simp (disch := first | omega | assumption) only [l_0, l_1, l_2, l_3, l_4, l_5, l_6, l_7, l_8, l_11, l_12, l_15, l_16, l_31, l_32, l_66, l_80, l_100, l_127, l_128, l_768, l_2304, l_2310, l_2316, l_2388, l_2394, l_2406, l_2418, l_2430, l_2558, l_2686, l_2814, l_2942, l_3070, l_3390, l_3394, l_3395, l_3396, l_3397, n_leT, n_leF, n_ltT, n_ltF, n_eqT, n_eqF, nI_add, pk_mul, n_sub, z_ldn, z_san, z_bs, z_b2s, z_b3s, z_ocN, z_ocS, z_oxL, z_oxR, z_scL, z_scR, ↓reduceIte, st_170, st_171, st_172, st_173, Nat.zero_add, Nat.add_zero, Nat.zero_lt_succ, true_and, and_true, eq_self, cIb, this]
        have cs : fX3_setValue (1 + 3) (nI b) a4 M = some (z_st M (1 + 3 + 2) b a4) := by
          unfold fX3_setValue
          simp (disch := first | omega | assumption) only [l_0, l_1, l_2, l_3, l_4, l_5, l_6, l_7, l_8, l_11, l_12, l_15, l_16, l_31, l_32, l_66, l_80, l_100, l_127, l_128, l_768, l_2304, l_2310, l_2316, l_2388, l_2394, l_2406, l_2418, l_2430, l_2558, l_2686, l_2814, l_2942, l_3070, l_3390, l_3394, l_3395, l_3396, l_3397, n_leT, n_leF, n_ltT, n_ltF, n_eqT, n_eqF, nI_add, pk_mul, n_sub, z_ldn, z_san, z_bs, z_b2s, z_b3s, z_ocN, z_ocS, z_oxL, z_oxR, z_scL, z_scR, ↓reduceIte, st_170, st_171, st_172, st_173, Nat.zero_add, Nat.add_zero, Nat.zero_lt_succ, true_and, and_true, eq_self, cIb]
        obtain ⟨M2, hM2⟩ : ∃ M2, M2 = z_st M (1 + 3 + 2) b a4 := ⟨_, rfl⟩
        have fM : ∀ a, a ≠ 1 + 3 + 2 → M2 a = M a := fun a ha => by rw [hM2, s_n ha]
        obtain ⟨N', hN'⟩ : ∃ N', N' = upd (M 170) (2430 + b) a4 := ⟨_, rfl⟩
        have hR2 : z_R1 1 M2 N' S := ⟨R_tab_cg hR.1 (fun k k1 k2 => fM k (by omega)), R_ds_cg hR.2.1 (fun k k1 k2 => fM k (by omega)), R_sn_cg hR.2.2.1 (fun k k1 k2 => fM k (by omega)), fun c hc => by
            rw [fM (1 + 3 + 1) (by decide), fM (1 + 3 + 3) (by decide), fM (1 + 3 + 4) (by decide), hM2, s_s, hN']
            refine ⟨(hR.2.2.2.1 c hc).1, ?_, (hR.2.2.2.1 c hc).2.2⟩
            by_cases q : c = b
            · rw [q, u_s, u_s]
            · rw [u_n q, u_n (by omega)]
              exact (hR.2.2.2.1 c hc).2.1, R_lg_N (R_lg_cg hR.2.2.2.2.1 (fun r q k1 k2 => fM _ (by omega))) (fun r hr => by have := I_log hI r hr; omega) (fun k k1 k2 => by rw [hN', u_n (by omega)]), R_sc_cg hR.2.2.2.2.2 (fM _ (by decide))⟩
        -- the model
        have hM170 : M2 170 = M 170 := fM _ (by decide)
        have hc : (z_st M2 174 0 (nI b)) 170 = M 170 := hM170
        have k1 := N1' hN hc
        have k2 := N2' hN hc
        have k3 := N3' hN hc
        obtain ⟨Mo, hMo⟩ : ∃ Mo, Mo = z_st (z_st M2 174 0 (nI b)) 169 4 (nI 0) := ⟨_, rfl⟩
        have hMo170 : Mo (169 + 1) = M 170 := by rw [hMo, st_170]; exact hc
        obtain ⟨Mv, hMv⟩ : ∃ Mv, Mv = z_st Mo (169 + 1) (2430 + b) a4 := ⟨_, rfl⟩
        have hMv170 : Mv (169 + 1) = N' := by rw [hMv, s_s, hMo170, hN']
        have cv : Mv (169 + 1) 3395 = nI (S 3395) := by rw [hMv170, hN', u_n (by omega)]; exact hN3 _ (by omega) (by omega)
        obtain ⟨Mw, hMw⟩ : ∃ Mw, Mw = z_st (z_st Mv (169 + 1) (2558 + b) (nI (S 3395))) (169 + 1) (128 * d + P) (nI (b + 1)) := ⟨_, rfl⟩
        have hMw170 : Mw 170 = upd (upd N' (2558 + b) (nI (S 3395))) (128 * d + P) (nI (b + 1)) := by rw [hMw, show (170 : Nat) = 169 + 1 from rfl, s_s, s_s, hMv170]
        have hSS : updN (updN S (2558 + b) (S 3395)) (128 * d + P) (b + 1) = S := by
          funext k
          by_cases q : k = 128 * d + P
          · rw [q, upN_s, ← hyy]
            omega
          · rw [upN_n q]
            by_cases q2 : k = 2558 + b
            · rw [q2, upN_s, hC1]
            · rw [upN_n q2]
        have hNw : z_N (Mw 170) S := by
          rw [hMw170, hN']
          have := z_N_up (k := 128 * d + P) (v := b + 1) (z_N_up (k := 2558 + b) (v := S 3395) (z_N_gap (k := 2430 + b) (v := a4) hN (by omega) (by omega)))
          rw [hSS] at this
          exact this
        obtain ⟨M4, o1, o2, o3, o4⟩ := m_tabs2 hI hn (fun k k1 k2 => rfl) (by omega) (I_tab hI) hNw
        rw [y_mk_id hI] at o2
        have hl128 := lost128 (S := S)
        have hfr : ∀ a, a ≠ 170 → a ≠ 172 → M4 a = z_st (z_st M2 174 0 (nI b)) 169 4 (nI 0) a := fun a q1 q2 => by rw [o4 a q1 q2, hMw, s_n q1, s_n q1, hMv, s_n q1, hMo]
        have hrw : ∀ k, 2430 ≤ k → k < 2558 ∨ 2942 ≤ k → M4 170 k = N' k := fun k k1 k2 => by rw [o3 k (by omega), hMw170, u_n (by omega), u_n (by omega)]
        refine mutOK (M1 := M2) (v := nI b) (M4 := M4) ?_ ?_ ?_ ?_ (z_fin (N := N') hN0 hR0 hI0 hB0 hR2 o2 (z_I_mono hI) hB ?_ ?_ ?_ ?_ ?_)
        · unfold fX6_write
          simp (disch := first | omega | assumption) only [l_0, l_1, l_2, l_3, l_4, l_5, l_6, l_7, l_8, l_11, l_12, l_15, l_16, l_31, l_32, l_66, l_80, l_100, l_127, l_128, l_768, l_2304, l_2310, l_2316, l_2388, l_2394, l_2406, l_2418, l_2430, l_2558, l_2686, l_2814, l_2942, l_3070, l_3390, l_3394, l_3395, l_3396, l_3397, n_leT, n_leF, n_ltT, n_ltF, n_eqT, n_eqF, nI_add, pk_mul, n_sub, z_ldn, z_san, z_bs, z_b2s, z_b3s, z_ocN, z_ocS, z_oxL, z_oxR, z_scL, z_scR, ↓reduceIte, st_170, st_171, st_172, st_173, Nat.zero_add, Nat.add_zero, Nat.zero_lt_succ, true_and, and_true, eq_self, cDs_ok hR.2.1 hd h1, z_gdp (kd1_ds hd), cPl_ok hf hi, ← hP, cBo, ct, hop, cb, cu, cs, ← hM2]
        · exact mW k1 k2 (k3 _ (by omega) (by omega)) hd h1 hf hi hP hyy hy hb1 (by omega) hb8 (Or.inl ⟨hy0, by rw [← hbb]; exact hC1, by rw [← hbb]; exact hC2, hbb⟩) (by rw [hMw, hMv, hMo]) o1 hl128
        · rw [hfr _ (by decide) (by decide), s_s, u_s]
        · rw [hfr _ (by decide) (by decide), s_n (by decide), s_s, u_s]
        · exact fun k k1 k2 => hrw k k1 (by omega)
        · exact fun k k1 k2 => hrw k (by omega) (by omega)
        · intro a ha
          rw [hfr a (by omega) (by omega), s_n (by omega), s_n (by omega)]
        · exact fM _ (by decide)
        · intro a a1 a2
          exact fM a (by omega)
      · -- a block that is free, or none
        have h3 : y = 0 ∨ (y ≠ 0 ∧ S (2558 + (y - 1)) ≠ S 3395) ∨ (y ≠ 0 ∧ S (2558 + (y - 1)) = S 3395 ∧ S (2814 + (y - 1)) ≠ 1) := by
          by_cases q : y = 0
          · exact Or.inl q
          · by_cases q2 : S (2558 + (y - 1)) = S 3395
            · exact Or.inr (Or.inr ⟨q, q2, fun q3 => hC ⟨q, q2, q3⟩⟩)
            · exact Or.inr (Or.inl ⟨q, q2⟩)
        rcases both_nf hst hr3 (I_p1 hI) with ⟨x, hx, hx0, hcn, hmn⟩ | ⟨hcn, hmn⟩
        · have hx1 : S (2814 + x) = 0 ∧ S (2686 + x) = 0 := by
            unfold z_sta at hx0
            by_cases q : S (2814 + x) = 0
            · rw [if_neg (fun c => c q)] at hx0
              by_cases q2 : S (2686 + x) = 0
              · exact ⟨q, q2⟩
              · rw [if_pos q2] at hx0
                exact absurd hx0 (by decide)
            · rw [if_pos q] at hx0
              exact absurd hx0 (by decide)
          obtain ⟨S1, hS1⟩ : ∃ S1, S1 = updN (updN S (2558 + x) (S 3395)) (128 * d + P) (x + 1) := ⟨_, rfl⟩
          have sA : ∀ k, k ≠ 128 * d + P → k ≠ 2558 + x → S1 k = S k := fun k q1 q2 => by rw [hS1, upN_n q1, upN_n q2]
          have sP : S1 (128 * d + P) = x + 1 := by rw [hS1, upN_s]
          have sX : S1 (2558 + x) = S 3395 := by rw [hS1, upN_n (by omega), upN_s]
          obtain ⟨Ma, hMa⟩ : ∃ Ma, Ma = z_st (z_st (z_st M (1 + 3 + 1) x (nI 1)) (1 + 3 + 2) x a4) (1 + 3 + 3) x (nI (S 3395)) := ⟨_, rfl⟩
          have fMa : ∀ a, a ≠ 1 + 3 + 1 → a ≠ 1 + 3 + 2 → a ≠ 1 + 3 + 3 → Ma a = M a := fun a q1 q2 q3 => by rw [hMa, s_n q3, s_n q2, s_n q1]
          have hal : fX3_allocate (1 + 3) (nI x) a4 (nI (S 3395)) M = some Ma := by
            unfold fX3_allocate
            simp (disch := first | omega | assumption) only [l_0, l_1, l_2, l_3, l_4, l_5, l_6, l_7, l_8, l_11, l_12, l_15, l_16, l_31, l_32, l_66, l_80, l_100, l_127, l_128, l_768, l_2304, l_2310, l_2316, l_2388, l_2394, l_2406, l_2418, l_2430, l_2558, l_2686, l_2814, l_2942, l_3070, l_3390, l_3394, l_3395, l_3396, l_3397, n_leT, n_leF, n_ltT, n_ltF, n_eqT, n_eqF, nI_add, pk_mul, n_sub, z_ldn, z_san, z_bs, z_b2s, z_b3s, z_ocN, z_ocS, z_oxL, z_oxR, z_scL, z_scR, ↓reduceIte, st_170, st_171, st_172, st_173, Nat.zero_add, Nat.add_zero, Nat.zero_lt_succ, true_and, and_true, eq_self, cIb, ← hMa]
          obtain ⟨Mp, e1, e2, e3⟩ := cPut (x := x + 1) (z_T_cg hQ.1 (fMa _ (by decide) (by decide) (by decide)) (fun t ht => fMa _ (by omega) (by omega) (by omega))) (show d < 18 by omega) hP8 (by omega)
          rw [show nI (x + 1) - nI 1 = nI x from n_pm1 (by omega)] at e1
          have fM : ∀ a, a ≠ 1 + 3 + 1 → a ≠ 1 + 3 + 2 → a ≠ 1 + 3 + 3 → a ≠ 1 + 3 + 4 → a ≠ 1 + 9 + 3 * d + 1 + 1 → Mp a = M a := fun a q1 q2 q3 q4 q5 => by rw [e3 a q4 q5, fMa a q1 q2 q3]
          obtain ⟨N', hN'⟩ : ∃ N', N' = upd (M 170) (2430 + x) a4 := ⟨_, rfl⟩
          have hIs1 : z_Is n S1 := z_Is_S hI.1 (fun k k1 k2 => sA k (by omega) (by omega)) (fun k k1 k2 => sA k (by omega) (by omega))
          have hQ1 : y_Q 1 Mp N' S1 (updN (z_sta S) x 1) := by
            refine ⟨z_T_T e2 (fun k hk => ?_), R_ds_S (fun d' hd' => ?_) (fun d hd => (I_ori hI d hd).1) (fun k k1 k2 => sA k (by omega) (by omega)), R_sn_S (R_sn_cg hR.2.2.1 (fun k k1 k2 => fM k (by omega) (by omega) (by omega) (by omega) (by omega))) hI.1.2.2.2.1 (fun d hd => (I_ord hI d hd).1) (fun k k1 k2 => sA k (by omega) (by omega)), fun b hb => ⟨?_, ?_, ?_⟩, R_lg_N (R_lg_S (R_lg_cg hR.2.2.2.2.1 (fun r q k1 k2 => fM _ (by omega) (by omega) (by omega) (by omega) (by omega))) (fun r hr => sA _ (by omega) (by omega))) (fun r hr => by rw [sA _ (by omega) (by omega)]; have := I_log hI r hr; omega) (fun k k1 k2 => by rw [hN', u_n (by omega)]), R_sc_S (R_sc_cg hR.2.2.2.2.2 (fM _ (by decide) (by decide) (by decide) (by decide) (by omega))) (fun k k1 k2 => sA k (by omega) (by omega))⟩
            · unfold updN
              by_cases q : k = 128 * d + P
              · rw [if_pos q, q, sP]
              · rw [if_neg q, sA k q (by omega)]
            · rw [fM _ (by omega) (by omega) (by omega) (by omega) (by omega)]
              exact hR.2.1 d' hd'
            · rw [e3 _ (by decide) (by omega), hMa, s_n (by decide), s_n (by decide), s_s]
              by_cases q : b = x
              · rw [q, u_s, upN_s]
              · rw [u_n q, upN_n q]
                exact hst b hb
            · rw [e3 _ (by decide) (by omega), hMa, s_n (by decide), s_s, s_n (by decide), hN']
              by_cases q : b = x
              · rw [q, u_s, u_s]
              · rw [u_n q, u_n (by omega)]
                exact (hR.2.2.2.1 b hb).2.1
            · rw [e3 _ (by decide) (by omega), hMa, s_s, s_n (by decide), s_n (by decide)]
              by_cases q : b = x
              · rw [q, u_s, sX]
              · rw [u_n q, sA _ (by omega) (by omega)]
                exact (hR.2.2.2.1 b hb).2.2.1
          have hH : z_H S1 (updN (z_sta S) x 1) := fun b hb => by
            have hz : z_sta S1 b = z_sta S b := by
              unfold z_sta
              rw [sA _ (by omega) (by omega), sA (2686 + b) (by omega) (by omega)]
            by_cases q : b = x
            · subst q
              have hc : cntN S1 (b + 1) 2304 ≠ 0 := cntN_pos.mpr ⟨128 * d + P, by omega, sP⟩
              exact ⟨fun c => absurd c hc, fun _ => ⟨upN_s, by rw [sA _ (by omega) (by omega)]; exact hx1.2⟩⟩
            · rw [upN_n q, hz]
              refine ⟨fun _ => rfl, fun c => ?_⟩
              obtain ⟨k, hk, c2⟩ := cntN_pos.mp c
              have hkP : k ≠ 128 * d + P := fun e => by
                rw [e, sP] at c2
                omega
              rw [sA k hkP (by omega)] at c2
              have c3 : S (2814 + b) ≠ 0 := by
                rw [I_ref hI b hb]
                exact cntN_pos.mpr ⟨k, hk, c2⟩
              exact ⟨if_pos c3, by rw [sA _ (by omega) (by omega)]; exact (I_pen hI b hb).2 c3⟩
          have hbi1 : ∀ b, b < 128 → S1 (2558 + b) ≤ n + 1 := fun b hb => by
            by_cases q : b = x
            · rw [q, sX]
              exact ho
            · rw [sA _ (by omega) (by omega)]
              exact hbi b hb
          obtain ⟨M2, g1, g2, g3⟩ := z_settle (n := n) (by omega) hQ1 hH hIs1 hbi1
          have g4 : z_I n (y_mk S1) := z_I_mk hIs1 hH hQ1.1.2.2 (fun d' hd' q p hp => by
              rw [sA _ (by omega) (by omega)] at q
              have hne : d' ≠ d := fun e => by rw [e] at q; omega
              rw [sA _ (by omega) (by omega)]
              exact I_te hI d' hd' q p hp) (fun s hs q p hp => by
              rw [sA _ (by omega) (by omega)] at q
              rw [sA _ (by omega) (by omega)]
              exact I_se hI s hs q p hp) (fun b hb => by rw [sA _ (by omega) (by omega)]; exact I_p1 hI b hb) hbi1
          -- the model
          have fM2 : ∀ a, a ≠ 1 + 3 + 1 → a ≠ 1 + 3 + 2 → a ≠ 1 + 3 + 3 → a ≠ 1 + 3 + 4 → a ≠ 1 + 9 + 3 * d + 1 + 1 → M2 a = M a := fun a q1 q2 q3 q4 q5 => by rw [g3 a q1, fM a q1 q2 q3 q4 q5]
          have hM170 : M2 170 = M 170 := fM2 _ (by decide) (by decide) (by decide) (by decide) (by omega)
          have hc : (z_st M2 174 0 (nI x)) 170 = M 170 := hM170
          have k1 := N1' hN hc
          have k2 := N2' hN hc
          have k3 := N3' hN hc
          obtain ⟨Mo, hMo⟩ : ∃ Mo, Mo = z_st (z_st M2 174 0 (nI x)) 169 4 (nI 0) := ⟨_, rfl⟩
          have hMo170 : Mo (169 + 1) = M 170 := by rw [hMo, st_170]; exact hc
          have hmo : fX7_nextFree 169 Mo = some (nI x) := hmn Mo (fun k k1 k2 => by rw [hMo170]; exact hN2 k k1 k2)
          obtain ⟨Mv, hMv⟩ : ∃ Mv, Mv = z_st Mo (169 + 1) (2430 + x) a4 := ⟨_, rfl⟩
          have hMv170 : Mv (169 + 1) = N' := by rw [hMv, s_s, hMo170, hN']
          have cv : Mv (169 + 1) 3395 = nI (S 3395) := by rw [hMv170, hN', u_n (by omega)]; exact hN3 _ (by omega) (by omega)
          obtain ⟨Mw, hMw⟩ : ∃ Mw, Mw = z_st (z_st Mv (169 + 1) (2558 + x) (nI (S 3395))) (169 + 1) (128 * d + P) (nI (x + 1)) := ⟨_, rfl⟩
          have hMw170 : Mw 170 = upd (upd N' (2558 + x) (nI (S 3395))) (128 * d + P) (nI (x + 1)) := by rw [hMw, show (170 : Nat) = 169 + 1 from rfl, s_s, s_s, hMv170]
          have hNw : z_N (Mw 170) S1 := by
            rw [hMw170, hN', hS1]
            exact z_N_up (z_N_up (z_N_gap hN (by omega) (by omega)))
          obtain ⟨M4, o1, o2, o3, o4⟩ := mCo hNw hQ1.1.2.2 (fun b hb => by rw [sA _ (by omega) (by omega)]; exact hr3 b hb) (fun b hb => by have := hbi1 b hb; omega) (by rw [sA _ (by omega) (by omega)]; omega)
          have hl128 := lost128 (S := S1)
          have hfr : ∀ a, a ≠ 170 → a ≠ 172 → M4 a = z_st (z_st M2 174 0 (nI x)) 169 4 (nI 0) a := fun a q1 q2 => by rw [o4 a q1 q2, hMw, s_n q1, s_n q1, hMv, s_n q1, hMo]
          have hrw : ∀ k, 2430 ≤ k → k < 2558 ∨ 2942 ≤ k → M4 170 k = N' k := fun k k1 k2 => by rw [o3 k (by omega), hMw170, u_n (by omega), u_n (by omega)]
          refine mutOK (M1 := M2) (v := nI x) (M4 := M4) ?_ ?_ ?_ ?_ (z_fin (N := N') hN0 hR0 hI0 hB0 g2 o2 (z_I_mono g4) ?_ ?_ ?_ ?_ ?_ ?_)
          · rw [cW_no (v := nI (sumN (lostN S1) 128)) hR hd h1 hf hi hP hyy hy hrf hb1 (by omega) h3 hcn (Or.inr ⟨n_m1c (by omega), hal, e1, g1, rfl⟩)]
            simp (disch := first | omega | assumption) only [l_0, l_1, l_2, l_3, l_4, l_5, l_6, l_7, l_8, l_11, l_12, l_15, l_16, l_31, l_32, l_66, l_80, l_100, l_127, l_128, l_768, l_2304, l_2310, l_2316, l_2388, l_2394, l_2406, l_2418, l_2430, l_2558, l_2686, l_2814, l_2942, l_3070, l_3390, l_3394, l_3395, l_3396, l_3397, n_leT, n_leF, n_ltT, n_ltF, n_eqT, n_eqF, nI_add, pk_mul, n_sub, z_ldn, z_san, z_bs, z_b2s, z_b3s, z_ocN, z_ocS, z_oxL, z_oxR, z_scL, z_scR, ↓reduceIte, st_170, st_171, st_172, st_173, Nat.zero_add, Nat.add_zero, Nat.zero_lt_succ, true_and, and_true, eq_self]
          · exact mW k1 k2 (k3 _ (by omega) (by omega)) hd h1 hf hi hP hyy hy hb1 (by omega) hx (Or.inr ⟨h3, by rw [← hMo]; exact hmo⟩) (by rw [hMw, hMv, hMo]) o1 hl128
          · rw [hfr _ (by decide) (by decide), s_s, u_s]
          · rw [hfr _ (by decide) (by decide), s_n (by decide), s_s, u_s]
          · intro b hb
            rw [y_mk_o (by omega), sA _ (by omega) (by omega)]
            exact hB b hb
          · exact fun k k1 k2 => hrw k k1 (by omega)
          · exact fun k k1 k2 => hrw k (by omega) (by omega)
          · intro a ha
            rw [hfr a (by omega) (by omega), s_n (by omega), s_n (by omega)]
          · exact fM2 _ (by decide) (by decide) (by decide) (by decide) (by omega)
          · intro a a1 a2
            exact fM2 a (by omega) (by omega) (by omega) (by omega) (by omega)
        · have hmo : fX7_nextFree 169 (z_st M 169 4 (nI 0)) = some (-nI 1) := hmn _ (fun k k1 k2 => by rw [st_170]; exact hN2 k k1 k2)
          refine mutNo h (k := nI 2) (b := nI 0) (by decide) ?_ ?_
          · rw [cW_no (Ma := M) (Mp := M) (M2 := M) (v := nI 0) hR hd h1 hf hi hP hyy hy hrf hb1 (by omega) h3 hcn (Or.inl ⟨rfl, rfl⟩)]
            rfl
          · exact mW_no hN1 hN2 (hN3 _ (by omega) (by omega)) hd h1 hf hi hP hyy hy hb1 (by omega) h3 hmo
    · refine mutNo h (k := nI 1) (b := nI 0) (by decide) ?_ ?_
      · unfold fX6_write
        simp (disch := first | omega | assumption) only [l_0, l_1, l_2, l_3, l_4, l_5, l_6, l_7, l_8, l_11, l_12, l_15, l_16, l_31, l_32, l_66, l_80, l_100, l_127, l_128, l_768, l_2304, l_2310, l_2316, l_2388, l_2394, l_2406, l_2418, l_2430, l_2558, l_2686, l_2814, l_2942, l_3070, l_3390, l_3394, l_3395, l_3396, l_3397, n_leT, n_leF, n_ltT, n_ltF, n_eqT, n_eqF, nI_add, pk_mul, n_sub, z_ldn, z_san, z_bs, z_b2s, z_b3s, z_ocN, z_ocS, z_oxL, z_oxR, z_scL, z_scR, ↓reduceIte, st_170, st_171, st_172, st_173, Nat.zero_add, Nat.add_zero, Nat.zero_lt_succ, true_and, and_true, eq_self, cDs_ok hR.2.1 hd h1, z_gdp (kd1_ds hd), cPl_no h2]
      · unfold fX7_write
        simp (disch := first | omega | assumption) only [l_0, l_1, l_2, l_3, l_4, l_5, l_6, l_7, l_8, l_11, l_12, l_15, l_16, l_31, l_32, l_66, l_80, l_100, l_127, l_128, l_768, l_2304, l_2310, l_2316, l_2388, l_2394, l_2406, l_2418, l_2430, l_2558, l_2686, l_2814, l_2942, l_3070, l_3390, l_3394, l_3395, l_3396, l_3397, n_leT, n_leF, n_ltT, n_ltF, n_eqT, n_eqF, nI_add, pk_mul, n_sub, z_ldn, z_san, z_bs, z_b2s, z_b3s, z_ocN, z_ocS, z_oxL, z_oxR, z_scL, z_scR, ↓reduceIte, st_170, st_171, st_172, st_173, Nat.zero_add, Nat.add_zero, Nat.zero_lt_succ, true_and, and_true, eq_self, mSet_ok hN1 hd h1, mSpot_no h2, st_94]
  · refine mutNo h (k := nI 1) (b := nI 0) (by decide) ?_ ?_
    · unfold fX6_write
      simp (disch := first | omega | assumption) only [l_0, l_1, l_2, l_3, l_4, l_5, l_6, l_7, l_8, l_11, l_12, l_15, l_16, l_31, l_32, l_66, l_80, l_100, l_127, l_128, l_768, l_2304, l_2310, l_2316, l_2388, l_2394, l_2406, l_2418, l_2430, l_2558, l_2686, l_2814, l_2942, l_3070, l_3390, l_3394, l_3395, l_3396, l_3397, n_leT, n_leF, n_ltT, n_ltF, n_eqT, n_eqF, nI_add, pk_mul, n_sub, z_ldn, z_san, z_bs, z_b2s, z_b3s, z_ocN, z_ocS, z_oxL, z_oxR, z_scL, z_scR, ↓reduceIte, st_170, st_171, st_172, st_173, Nat.zero_add, Nat.add_zero, Nat.zero_lt_succ, true_and, and_true, eq_self, cDs_no hR.2.1 h1]
    · unfold fX7_write
      simp (disch := first | omega | assumption) only [l_0, l_1, l_2, l_3, l_4, l_5, l_6, l_7, l_8, l_11, l_12, l_15, l_16, l_31, l_32, l_66, l_80, l_100, l_127, l_128, l_768, l_2304, l_2310, l_2316, l_2388, l_2394, l_2406, l_2418, l_2430, l_2558, l_2686, l_2814, l_2942, l_3070, l_3390, l_3394, l_3395, l_3396, l_3397, n_leT, n_leF, n_ltT, n_ltF, n_eqT, n_eqF, nI_add, pk_mul, n_sub, z_ldn, z_san, z_bs, z_b2s, z_b3s, z_ocN, z_ocS, z_oxL, z_oxR, z_scL, z_scR, ↓reduceIte, st_170, st_171, st_172, st_173, Nat.zero_add, Nat.add_zero, Nat.zero_lt_succ, true_and, and_true, eq_self, mSet_no hN1 h1, st_94]
