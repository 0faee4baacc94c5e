/-! ===== the model's counts; both sides after a change of tables ===== -/
def lostN (S : Nat → Nat) (b : Nat) : Nat := if cntN S (b + 1) 2304 = 0 ∧ S (2814 + b) ≠ 0 then 1 else 0
/-- what the counts make of S, whose tables have changed -/
def y_mk (S : Nat → Nat) : Nat → Nat := fun k => if 2686 ≤ k ∧ k < 2814 then (if lostN S (k - 2686) = 1 then (if S (k - 128) = S 3395 then 0 else 1) else S k) else if 2814 ≤ k ∧ k < 2942 then cntN S (k - 2814 + 1) 2304 else S k
theorem y_mk_pen {S : Nat → Nat} {b : Nat} (hb : b < 128) : y_mk S (2686 + b) = if lostN S b = 1 then (if S (2558 + b) = S 3395 then 0 else 1) else S (2686 + b) := by
  unfold y_mk
  rw [if_pos ⟨by omega, by omega⟩, Nat.add_sub_cancel_left, show 2686 + b - 128 = 2558 + b by omega]
theorem y_mk_ref {S : Nat → Nat} {b : Nat} (hb : b < 128) : y_mk S (2814 + b) = cntN S (b + 1) 2304 := by
  unfold y_mk
  rw [if_neg (by omega), if_pos ⟨by omega, by omega⟩, Nat.add_sub_cancel_left]
theorem y_mk_o {S : Nat → Nat} {k : Nat} (h : k < 2686 ∨ 2942 ≤ k) : y_mk S k = S k := by
  unfold y_mk
  rw [if_neg (by omega), if_neg (by omega)]
theorem mCo {M : zM} {S : Nat → Nat} (hN : z_N (M 170) S) (ht : ∀ k, k < 2304 → S k ≤ 128) (hr : ∀ b, b < 128 → S (2814 + b) ≤ 2304) (hb0 : ∀ b, b < 128 → S (2558 + b) < 2 ^ 30) (ho0 : S 3395 < 2 ^ 30) : ∃ M', fX7_counts 169 M = some (nI (sumN (lostN S) 128), M') ∧ z_N (M' 170) (y_mk S) ∧ (∀ k, k < 2686 ∨ 2942 ≤ k → M' 170 k = M 170 k) ∧ ∀ a, a ≠ 170 → a ≠ 172 → M' a = M a := by
  have hN1 := N1 hN
  have hN2 := N2 hN
  have hN3 := N3 hN
  unfold fX7_counts
  obtain ⟨M1, g1, g2, g3⟩ := z_loopR (f := fun s : Int32 × zM => fX7_counts_L1 169 s.1 s.2) 172 0 0 128 (fun _ => nI 0) (by decide) (s := 0) (M := M) rfl (fun i M' hi _ _ => by simp (disch := first | omega | assumption) only [l_0, l_1, l_2, l_3, l_4, l_5, l_6, l_7, l_8, l_11, l_12, l_15, l_16, l_31, l_32, l_66, l_80, l_100, l_127, l_128, l_768, l_2304, l_2310, l_2316, l_2388, l_2394, l_2406, l_2418, l_2430, l_2558, l_2686, l_2814, l_2942, l_3070, l_3390, l_3394, l_3395, l_3396, l_3397, n_leT, n_leF, n_ltT, n_ltF, n_eqT, n_eqF, nI_add, pk_mul, n_sub, z_ldn, z_san, z_bs, z_b2s, z_b3s, z_ocN, z_ocS, z_oxL, z_oxR, z_scL, z_scR, ↓reduceIte, st_170, st_171, st_172, st_173, Nat.zero_add, Nat.add_zero, Nat.zero_lt_succ, true_and, and_true, eq_self, fX7_counts_L1]) (fun M' => by simp (disch := first | omega | assumption) only [l_0, l_1, l_2, l_3, l_4, l_5, l_6, l_7, l_8, l_11, l_12, l_15, l_16, l_31, l_32, l_66, l_80, l_100, l_127, l_128, l_768, l_2304, l_2310, l_2316, l_2388, l_2394, l_2406, l_2418, l_2430, l_2558, l_2686, l_2814, l_2942, l_3070, l_3390, l_3394, l_3395, l_3396, l_3397, n_leT, n_leF, n_ltT, n_ltF, n_eqT, n_eqF, nI_add, pk_mul, n_sub, z_ldn, z_san, z_bs, z_b2s, z_b3s, z_ocN, z_ocS, z_oxL, z_oxR, z_scL, z_scR, ↓reduceIte, st_170, st_171, st_172, st_173, Nat.zero_add, Nat.add_zero, Nat.zero_lt_succ, true_and, and_true, eq_self, fX7_counts_L1])
  obtain ⟨M2, h1, h2, h3⟩ := z_loopM (f := fun s : Int32 × zM => fX7_counts_L2 169 s.1 s.2) (fun i M' => (∀ a, a ≠ 172 → M' a = M a) ∧ ∀ b, b < 128 → M' 172 b = nI (cntN S (b + 1) i)) (fun M' => (∀ a, a ≠ 172 → M' a = M a) ∧ ∀ b, b < 128 → M' 172 b = nI (cntN S (b + 1) 2304)) 0 2304 (by decide) (s := 0) (M := M1) rfl ⟨g2, fun b hb => by rw [g3 b, if_pos ⟨Nat.zero_le b, by omega⟩]; rfl⟩ (fun i M' hi hI => by
    obtain ⟨hc, hb⟩ := hI
    have hb' : ∀ b, b < 128 → M' (169 + 3) b = nI (cntN S (b + 1) i) := hb
    have hp := hN1 i (by omega)
    rw [← hc _ (by decide)] at hp
    have hx1 := ht i hi
    by_cases q : S i = 0
    · refine ⟨M', ?_, hc, fun b hb2 => ?_⟩
      · simp (disch := first | omega | assumption) only [l_0, l_1, l_2, l_3, l_4, l_5, l_6, l_7, l_8, l_11, l_12, l_15, l_16, l_31, l_32, l_66, l_80, l_100, l_127, l_128, l_768, l_2304, l_2310, l_2316, l_2388, l_2394, l_2406, l_2418, l_2430, l_2558, l_2686, l_2814, l_2942, l_3070, l_3390, l_3394, l_3395, l_3396, l_3397, n_leT, n_leF, n_ltT, n_ltF, n_eqT, n_eqF, nI_add, pk_mul, n_sub, z_ldn, z_san, z_bs, z_b2s, z_b3s, z_ocN, z_ocS, z_oxL, z_oxR, z_scL, z_scR, ↓reduceIte, st_170, st_171, st_172, st_173, Nat.zero_add, Nat.add_zero, Nat.zero_lt_succ, true_and, and_true, eq_self, fX7_counts_L2, hp, q]
      · rw [hb b hb2, cn1 (by omega)]
    · refine ⟨z_st M' (169 + 3) (S i - 1) (nI (cntN S (S i - 1 + 1) i + 1)), ?_, fun a ha => by rw [s_n ha]; exact hc a ha, fun b hb2 => ?_⟩
      · simp (disch := first | omega | assumption) only [l_0, l_1, l_2, l_3, l_4, l_5, l_6, l_7, l_8, l_11, l_12, l_15, l_16, l_31, l_32, l_66, l_80, l_100, l_127, l_128, l_768, l_2304, l_2310, l_2316, l_2388, l_2394, l_2406, l_2418, l_2430, l_2558, l_2686, l_2814, l_2942, l_3070, l_3390, l_3394, l_3395, l_3396, l_3397, n_leT, n_leF, n_ltT, n_ltF, n_eqT, n_eqF, nI_add, pk_mul, n_sub, z_ldn, z_san, z_bs, z_b2s, z_b3s, z_ocN, z_ocS, z_oxL, z_oxR, z_scL, z_scR, ↓reduceIte, st_170, st_171, st_172, st_173, Nat.zero_add, Nat.add_zero, Nat.zero_lt_succ, true_and, and_true, eq_self, fX7_counts_L2, hp, hb']
      · rw [show (169 : Nat) + 3 = 172 from rfl, s_s]
        by_cases q2 : S i = b + 1
        · rw [cn2 (T := S) q2, show b = S i - 1 by omega, u_s]
        · rw [cn1 (T := S) q2, u_n (by omega), hb b hb2]) (fun M' hI => ⟨M', by simp (disch := first | omega | assumption) only [l_0, l_1, l_2, l_3, l_4, l_5, l_6, l_7, l_8, l_11, l_12, l_15, l_16, l_31, l_32, l_66, l_80, l_100, l_127, l_128, l_768, l_2304, l_2310, l_2316, l_2388, l_2394, l_2406, l_2418, l_2430, l_2558, l_2686, l_2814, l_2942, l_3070, l_3390, l_3394, l_3395, l_3396, l_3397, n_leT, n_leF, n_ltT, n_ltF, n_eqT, n_eqF, nI_add, pk_mul, n_sub, z_ldn, z_san, z_bs, z_b2s, z_b3s, z_ocN, z_ocS, z_oxL, z_oxR, z_scL, z_scR, ↓reduceIte, st_170, st_171, st_172, st_173, Nat.zero_add, Nat.add_zero, Nat.zero_lt_succ, true_and, and_true, eq_self, fX7_counts_L2], hI⟩)
  obtain ⟨r, q1, q2⟩ := z_loopA (f := fun s : Int32 × Int32 × zM => fX7_counts_L3 169 s.1 s.2.1 s.2.2) (fun i x M' => x = nI (sumN (lostN S) i) ∧ (∀ a, a ≠ 170 → M' a = M2 a) ∧ ∀ k, M' (169 + 1) k = if (2686 ≤ k ∧ k < 2686 + i) ∨ (2814 ≤ k ∧ k < 2814 + i) then nI (y_mk S k) else M (169 + 1) k) (fun r => r.1 = nI (sumN (lostN S) 128) ∧ (∀ a, a ≠ 170 → r.2 a = M2 a) ∧ ∀ k, r.2 (169 + 1) k = if (2686 ≤ k ∧ k < 2686 + 128) ∨ (2814 ≤ k ∧ k < 2814 + 128) then nI (y_mk S k) else M (169 + 1) k) 0 128 (by decide) (x := 0) (s := 0) (M := M2) rfl ⟨rfl, fun _ _ => rfl, fun k => by rw [if_neg (by omega), h2 _ (by decide)]⟩ (fun i x M' hi hI => by
    obtain ⟨a1, a2, a3⟩ := hI
    subst a1
    have e1 : M' (169 + 3) i = nI (cntN S (i + 1) 2304) := by rw [a2 _ (by decide)]; exact h3 i hi
    have e2 : M' (169 + 1) (2814 + i) = nI (S (2814 + i)) := by rw [a3, if_neg (by omega)]; exact hN2 _ (by omega) (by omega)
    have e3 : M' (169 + 1) (2558 + i) = nI (S (2558 + i)) := by rw [a3, if_neg (by omega)]; exact hN2 _ (by omega) (by omega)
    have e4 : M' (169 + 1) 3395 = nI (S 3395) := by rw [a3, if_neg (by omega)]; exact hN3 _ (by omega) (by omega)
    have e5 : M (169 + 1) (2686 + i) = nI (S (2686 + i)) := hN2 _ (by omega) (by omega)
    have f1 := hr i hi
    have f2 := hb0 i hi
    have f3 : cntN S (i + 1) 2304 ≤ 2304 := cntN_le
    have hrow : ∀ v : Nat, v = y_mk S (2686 + i) → ∀ k, upd (upd (M' (169 + 1)) (2686 + i) (nI v)) (2814 + i) (nI (cntN S (i + 1) 2304)) k = if (2686 ≤ k ∧ k < 2686 + (i + 1)) ∨ (2814 ≤ k ∧ k < 2814 + (i + 1)) then nI (y_mk S k) else M (169 + 1) k := fun v hv k => by
      by_cases p1 : k = 2814 + i
      · subst p1
        rw [u_s, if_pos (by omega), y_mk_ref hi]
      · rw [u_n p1]
        by_cases p2 : k = 2686 + i
        · subst p2
          rw [u_s, if_pos (by omega), hv]
        · rw [u_n p2, a3 k]
          by_cases p3 : (2686 ≤ k ∧ k < 2686 + i) ∨ (2814 ≤ k ∧ k < 2814 + i)
          · rw [if_pos p3, if_pos (by omega)]
          · rw [if_neg p3, if_neg (by omega)]
    have hrow2 : y_mk S (2686 + i) = S (2686 + i) → ∀ k, upd (M' (169 + 1)) (2814 + i) (nI (cntN S (i + 1) 2304)) k = if (2686 ≤ k ∧ k < 2686 + (i + 1)) ∨ (2814 ≤ k ∧ k < 2814 + (i + 1)) then nI (y_mk S k) else M (169 + 1) k := fun hv k => by
      by_cases p1 : k = 2814 + i
      · subst p1
        rw [u_s, if_pos (by omega), y_mk_ref hi]
      · rw [u_n p1, a3 k]
        by_cases p2 : k = 2686 + i
        · subst p2
          rw [if_neg (by omega), if_pos (by omega), e5, hv]
        · by_cases p3 : (2686 ≤ k ∧ k < 2686 + i) ∨ (2814 ≤ k ∧ k < 2814 + i)
          · rw [if_pos p3, if_pos (by omega)]
          · rw [if_neg p3, if_neg (by omega)]
    by_cases p1 : cntN S (i + 1) 2304 = 0 ∧ S (2814 + i) ≠ 0
    · have hl : lostN S i = 1 := if_pos p1
      have hs : sumN (lostN S) (i + 1) = sumN (lostN S) i + 1 := by
        show _ + lostN S i = _
        rw [hl]
      have p3 := p1.2
      have p4 := p1.1
      by_cases p2 : S (2558 + i) = S 3395
      · have hz : 0 = y_mk S (2686 + i) := by rw [y_mk_pen hi, if_pos hl, if_pos p2]
        refine ⟨_, z_st (z_st M' (169 + 1) (2686 + i) (nI 0)) (169 + 1) (2814 + i) (nI (cntN S (i + 1) 2304)), ?_, congrArg nI hs.symm, fun a ha => by rw [s_n ha, s_n ha]; exact a2 a ha, fun k => ?_⟩
        · simp (disch := first | omega | assumption) only [l_0, l_1, l_2, l_3, l_4, l_5, l_6, l_7, l_8, l_11, l_12, l_15, l_16, l_31, l_32, l_66, l_80, l_100, l_127, l_128, l_768, l_2304, l_2310, l_2316, l_2388, l_2394, l_2406, l_2418, l_2430, l_2558, l_2686, l_2814, l_2942, l_3070, l_3390, l_3394, l_3395, l_3396, l_3397, n_leT, n_leF, n_ltT, n_ltF, n_eqT, n_eqF, nI_add, pk_mul, n_sub, z_ldn, z_san, z_bs, z_b2s, z_b3s, z_ocN, z_ocS, z_oxL, z_oxR, z_scL, z_scR, ↓reduceIte, st_170, st_171, st_172, st_173, Nat.zero_add, Nat.add_zero, Nat.zero_lt_succ, true_and, and_true, eq_self, fX7_counts_L3, e1, p4, e2, e3, e4, p2, s_n]
        · rw [s_s, s_s]
          exact hrow 0 hz k
      · have hz : 1 = y_mk S (2686 + i) := by rw [y_mk_pen hi, if_pos hl, if_neg p2]
        refine ⟨_, z_st (z_st M' (169 + 1) (2686 + i) (nI 1)) (169 + 1) (2814 + i) (nI (cntN S (i + 1) 2304)), ?_, congrArg nI hs.symm, fun a ha => by rw [s_n ha, s_n ha]; exact a2 a ha, fun k => ?_⟩
        · simp (disch := first | omega | assumption) only [l_0, l_1, l_2, l_3, l_4, l_5, l_6, l_7, l_8, l_11, l_12, l_15, l_16, l_31, l_32, l_66, l_80, l_100, l_127, l_128, l_768, l_2304, l_2310, l_2316, l_2388, l_2394, l_2406, l_2418, l_2430, l_2558, l_2686, l_2814, l_2942, l_3070, l_3390, l_3394, l_3395, l_3396, l_3397, n_leT, n_leF, n_ltT, n_ltF, n_eqT, n_eqF, nI_add, pk_mul, n_sub, z_ldn, z_san, z_bs, z_b2s, z_b3s, z_ocN, z_ocS, z_oxL, z_oxR, z_scL, z_scR, ↓reduceIte, st_170, st_171, st_172, st_173, Nat.zero_add, Nat.add_zero, Nat.zero_lt_succ, true_and, and_true, eq_self, fX7_counts_L3, e1, p4, e2, e3, e4, s_n]
        · rw [s_s, s_s]
          exact hrow 1 hz k
    · have hl : lostN S i = 0 := if_neg p1
      have hs : sumN (lostN S) (i + 1) = sumN (lostN S) i := by
        show _ + lostN S i = _
        rw [hl]
        rfl
      have hz : y_mk S (2686 + i) = S (2686 + i) := by rw [y_mk_pen hi, if_neg (by omega)]
      refine ⟨_, z_st M' (169 + 1) (2814 + i) (nI (cntN S (i + 1) 2304)), ?_, congrArg nI hs.symm, fun a ha => by rw [s_n ha]; exact a2 a ha, fun k => ?_⟩
      · by_cases p2 : cntN S (i + 1) 2304 = 0
        · have p3 : S (2814 + i) = 0 := by
            by_cases q : S (2814 + i) = 0
            · exact q
            · exact absurd ⟨p2, q⟩ p1
          simp (disch := first | omega | assumption) only [l_0, l_1, l_2, l_3, l_4, l_5, l_6, l_7, l_8, l_11, l_12, l_15, l_16, l_31, l_32, l_66, l_80, l_100, l_127, l_128, l_768, l_2304, l_2310, l_2316, l_2388, l_2394, l_2406, l_2418, l_2430, l_2558, l_2686, l_2814, l_2942, l_3070, l_3390, l_3394, l_3395, l_3396, l_3397, n_leT, n_leF, n_ltT, n_ltF, n_eqT, n_eqF, nI_add, pk_mul, n_sub, z_ldn, z_san, z_bs, z_b2s, z_b3s, z_ocN, z_ocS, z_oxL, z_oxR, z_scL, z_scR, ↓reduceIte, st_170, st_171, st_172, st_173, Nat.zero_add, Nat.add_zero, Nat.zero_lt_succ, true_and, and_true, eq_self, fX7_counts_L3, e1, p2, e2, p3]
        · simp (disch := first | omega | assumption) only [l_0, l_1, l_2, l_3, l_4, l_5, l_6, l_7, l_8, l_11, l_12, l_15, l_16, l_31, l_32, l_66, l_80, l_100, l_127, l_128, l_768, l_2304, l_2310, l_2316, l_2388, l_2394, l_2406, l_2418, l_2430, l_2558, l_2686, l_2814, l_2942, l_3070, l_3390, l_3394, l_3395, l_3396, l_3397, n_leT, n_leF, n_ltT, n_ltF, n_eqT, n_eqF, nI_add, pk_mul, n_sub, z_ldn, z_san, z_bs, z_b2s, z_b3s, z_ocN, z_ocS, z_oxL, z_oxR, z_scL, z_scR, ↓reduceIte, st_170, st_171, st_172, st_173, Nat.zero_add, Nat.add_zero, Nat.zero_lt_succ, true_and, and_true, eq_self, fX7_counts_L3, e1]
      · rw [s_s]
        exact hrow2 hz k) (fun x M' hI => ⟨(x, M'), by simp (disch := first | omega | assumption) only [l_0, l_1, l_2, l_3, l_4, l_5, l_6, l_7, l_8, l_11, l_12, l_15, l_16, l_31, l_32, l_66, l_80, l_100, l_127, l_128, l_768, l_2304, l_2310, l_2316, l_2388, l_2394, l_2406, l_2418, l_2430, l_2558, l_2686, l_2814, l_2942, l_3070, l_3390, l_3394, l_3395, l_3396, l_3397, n_leT, n_leF, n_ltT, n_ltF, n_eqT, n_eqF, nI_add, pk_mul, n_sub, z_ldn, z_san, z_bs, z_b2s, z_b3s, z_ocN, z_ocS, z_oxL, z_oxR, z_scL, z_scR, ↓reduceIte, st_170, st_171, st_172, st_173, Nat.zero_add, Nat.add_zero, Nat.zero_lt_succ, true_and, and_true, eq_self, fX7_counts_L3], hI⟩)
  obtain ⟨r1, r2⟩ := r
  obtain ⟨b1, b2, b3⟩ := q2
  have b1 : r1 = _ := b1
  subst b1
  have b3 : ∀ k, r2 170 k = if (2686 ≤ k ∧ k < 2686 + 128) ∨ (2814 ≤ k ∧ k < 2814 + 128) then nI (y_mk S k) else M 170 k := b3
  refine ⟨r2, ?_, ⟨fun k hk => ?_, fun k k1 k2 => ?_, fun k k1 k2 => ?_⟩, fun k hk => by rw [b3 k, if_neg (by omega)], fun a q3 q4 => (b2 a q3).trans (h2 a q4)⟩
  · rw [g1, z_bs, h1, z_bs, q1]
    rfl
  · rw [b3 k, if_neg (by omega), y_mk_o (by omega)]
    exact hN1 k hk
  · rw [b3 k]
    by_cases p : (2686 ≤ k ∧ k < 2686 + 128) ∨ (2814 ≤ k ∧ k < 2814 + 128)
    · rw [if_pos p]
    · rw [if_neg p, y_mk_o (by omega)]
      exact hN2 k k1 k2
  · rw [b3 k, if_neg (by omega), y_mk_o (by omega)]
    exact hN3 k k1 k2
/-- the class before its settling: states st, that fit S but for what the tables' change did -/
def y_Q (V : Nat) (M : zM) (N : Nat → Int32) (S st : Nat → Nat) : Prop := z_T V M S ∧ R_ds V M S ∧ R_sn V M S ∧ (∀ b, b < 128 → M (V + 3 + 1) b = nI (st b) ∧ M (V + 3 + 2) b = N (2430 + b) ∧ M (V + 3 + 3) b = nI (S (2558 + b))) ∧ R_lg V M N S ∧ R_sc V M S
def z_H (S st : Nat → Nat) : Prop := ∀ b, b < 128 → (cntN S (b + 1) 2304 = 0 → st b = z_sta S b) ∧ (cntN S (b + 1) 2304 ≠ 0 → st b = 1 ∧ S (2686 + b) = 0)
theorem z_Q_of {V n : Nat} {M : zM} {N : Nat → Int32} {S : Nat → Nat} (hR : z_R1 V M N S) (hI : z_I n S) : y_Q V M N S (z_sta S) :=
  ⟨⟨hR.1, fun b hb => by rw [← I_ref hI b hb]; exact (hR.2.2.2.1 b hb).2.2.2, I_tab hI⟩, hR.2.1, hR.2.2.1, fun b hb => ⟨(hR.2.2.2.1 b hb).1, (hR.2.2.2.1 b hb).2.1, (hR.2.2.2.1 b hb).2.2.1⟩, hR.2.2.2.2.1, hR.2.2.2.2.2⟩
theorem R_lg_S {V : Nat} {M : zM} {N : Nat → Int32} {S S' : Nat → Nat} (h : R_lg V M N S) (hc : ∀ r, r < 4 → S' (3390 + r) = S (3390 + r)) : R_lg V M N S' := fun r hr => by
  rw [hc r hr]
  exact h r hr
theorem R_lg_N {V : Nat} {M : zM} {N N' : Nat → Int32} {S : Nat → Nat} (h : R_lg V M N S) (hl : ∀ r, r < 4 → S (3390 + r) ≤ 80) (hc : ∀ k, 3070 ≤ k → k < 3390 → N' k = N k) : R_lg V M N' S := fun r hr => by
  obtain ⟨h1, h2, h3⟩ := h r hr
  have hl2 := hl r hr
  refine ⟨h1, h2, fun j hj => ?_⟩
  unfold R_lg1
  rw [hc _ (by omega) (by omega)]
  exact h3 j hj
theorem R_sc_S {V : Nat} {M : zM} {S S' : Nat → Nat} (h : R_sc V M S) (hc : ∀ k, 3394 ≤ k → k < 3397 → S' k = S k) : R_sc V M S' := by
  unfold R_sc
  rw [hc 3395 (by omega) (by omega), hc 3394 (by omega) (by omega), hc 3396 (by omega) (by omega)]
  exact h
theorem R_sp_N {V : Nat} {M : zM} {N N' : Nat → Int32} {S : Nat → Nat} (h : R_sp V M N S) (hc : ∀ k, 2430 ≤ k → k < 2558 → N' k = N k) : R_sp V M N' S := fun b hb => by
  rw [hc _ (by omega) (by omega)]
  exact h b hb
/-- states after settling -/
theorem z_sta_mk {S st : Nat → Nat} (hH : z_H S st) {b : Nat} (hb : b < 128) : z_sta (y_mk S) b = if st b = 1 ∧ cntN S (b + 1) 2304 = 0 then (if S (2558 + b) = S 3395 then 0 else 2) else st b := by
  obtain ⟨h1, h2⟩ := hH b hb
  unfold z_sta
  rw [y_mk_ref hb, y_mk_pen hb]
  by_cases c : cntN S (b + 1) 2304 = 0
  · have e := h1 c
    rw [if_neg (show ¬ cntN S (b + 1) 2304 ≠ 0 from fun q => q c)]
    unfold z_sta at e
    by_cases r : S (2814 + b) = 0
    · rw [if_neg (show ¬ S (2814 + b) ≠ 0 from fun q => q r)] at e
      have hl : lostN S b = 0 := if_neg (fun q => q.2 r)
      rw [if_neg (show ¬ lostN S b = 1 by omega)]
      have e1 : st b ≠ 1 := by
        rw [e]
        split <;> omega
      rw [if_neg (show ¬ (st b = 1 ∧ cntN S (b + 1) 2304 = 0) from fun q => e1 q.1), e]
    · rw [if_pos r] at e
      have hl : lostN S b = 1 := if_pos ⟨c, r⟩
      rw [if_pos hl, if_pos (show st b = 1 ∧ cntN S (b + 1) 2304 = 0 from ⟨e, c⟩)]
      by_cases p : S (2558 + b) = S 3395
      · rw [if_pos p, if_pos p, if_neg (by decide)]
      · rw [if_neg p, if_neg p, if_pos (by decide)]
  · rw [if_pos c, if_neg (show ¬ (st b = 1 ∧ cntN S (b + 1) 2304 = 0) from fun q => c q.2), (h2 c).1]
theorem z_lost_st {S st : Nat → Nat} (hH : z_H S st) {b : Nat} (hb : b < 128) : lostN S b = if st b = 1 ∧ cntN S (b + 1) 2304 = 0 then 1 else 0 := by
  obtain ⟨h1, h2⟩ := hH b hb
  unfold lostN
  by_cases c : cntN S (b + 1) 2304 = 0
  · have e := h1 c
    unfold z_sta at e
    by_cases r : S (2814 + b) = 0
    · rw [if_neg (show ¬ S (2814 + b) ≠ 0 from fun q => q r)] at e
      have e1 : st b ≠ 1 := by
        rw [e]
        split <;> omega
      rw [if_neg (fun q => q.2 r), if_neg (fun q => e1 q.1)]
    · rw [if_pos r] at e
      rw [if_pos ⟨c, r⟩, if_pos ⟨e, c⟩]
  · rw [if_neg (fun q => c q.1), if_neg (fun q => c q.2)]
/-- the rest of the relation, when the states fit -/
theorem z_R1_mk {V n : Nat} {M : zM} {N : Nat → Int32} {S st : Nat → Nat} (hQ : y_Q V M N S st) (hIs : z_Is n S) (hst : ∀ b, b < 128 → M (V + 3 + 1) b = nI (z_sta (y_mk S) b)) : z_R1 V M N (y_mk S) := by
  obtain ⟨q1, q2, q3, q4, q5, q6⟩ := hQ
  refine ⟨fun t ht p hp => by rw [y_mk_o (by omega)]; exact q1.1 t ht p hp, R_ds_S q2 (fun d hd => (hIs.2.2.2.2.2.2.2.1 d hd).1) (fun k k1 k2 => y_mk_o (by omega)), R_sn_S q3 hIs.2.2.2.1 (fun d hd => (hIs.2.2.2.2.2.1 d hd).1) (fun k k1 k2 => y_mk_o (by omega)), fun b hb => ⟨hst b hb, (q4 b hb).2.1, by rw [y_mk_o (by omega)]; exact (q4 b hb).2.2, by rw [y_mk_ref hb]; exact q1.2.1 b hb⟩, R_lg_S q5 (fun r hr => y_mk_o (by omega)), R_sc_S q6 (fun k k1 k2 => y_mk_o (by omega))⟩
theorem z_settle {V n : Nat} {M : zM} {N : Nat → Int32} {S st : Nat → Nat} (hn : n < 520) (hQ : y_Q V M N S st) (hH : z_H S st) (hIs : z_Is n S) (hbi : ∀ b, b < 128 → S (2558 + b) ≤ n + 1) : ∃ M', fX5_settle V M = some (nI (sumN (lostN S) 128), M') ∧ z_R1 V M' N (y_mk S) ∧ ∀ a, a ≠ V + 3 + 1 → M' a = M a := by
  have hst2 : ∀ b, b < 128 → st b ≤ 2 := fun b hb => by
    obtain ⟨h1, h2⟩ := hH b hb
    by_cases c : cntN S (b + 1) 2304 = 0
    · rw [h1 c]
      exact z_sta2
    · rw [(h2 c).1]
      decide
  have ho := hIs.2.2.2.2.2.2.2.2.2.2.1
  obtain ⟨M', s1, s2, s3⟩ := cSet (V := V) (o := S 3395) (M := M) (st := st) (c := fun b => cntN S (b + 1) 2304) (bi := fun b => S (2558 + b)) (fun b hb => ⟨(hQ.2.2.2.1 b hb).1, hst2 b hb⟩) (fun b hb => ⟨hQ.1.2.1 b hb, cntN_le⟩) (fun b hb => ⟨(hQ.2.2.2.1 b hb).2.2, by have := hbi b hb; show S (2558 + b) < 2 ^ 30; omega⟩) hQ.2.2.2.2.2.1 (by omega)
  refine ⟨M', ?_, ?_, s2⟩
  · rw [s1, sumN_cg (g := lostN S) (fun b hb => z_lost_st hH hb)]
  · have hQ2 : y_Q V M' N S (fun b => if st b = 1 ∧ cntN S (b + 1) 2304 = 0 then (if S (2558 + b) = S 3395 then 0 else 2) else st b) := by
      obtain ⟨q1, q2, q3, q4, q5, q6⟩ := hQ
      refine ⟨z_T_cg q1 (s2 _ (by omega)) (fun t ht => s2 _ (by omega)), R_ds_cg q2 (fun k k1 k2 => s2 k (by omega)), R_sn_cg q3 (fun k k1 k2 => s2 k (by omega)), fun b hb => ⟨s3 b hb, ?_, ?_⟩, R_lg_cg q5 (fun r q k1 k2 => s2 _ (by omega)), R_sc_cg q6 (s2 _ (by omega))⟩
      · rw [s2 _ (by omega)]
        exact (q4 b hb).2.1
      · rw [s2 _ (by omega)]
        exact (q4 b hb).2.2
    exact z_R1_mk hQ2 hIs (fun b hb => by rw [z_sta_mk hH hb]; exact s3 b hb)
theorem z_I_mk {n : Nat} {S st : Nat → Nat} (hIs : z_Is n S) (hH : z_H S st) (h1 : ∀ k, k < 2304 → S k ≤ 128) (h2 : ∀ d, d < 6 → S (2304 + d) = 0 → ∀ p, p < 128 → S (128 * d + p) = 0) (h3 : ∀ s, s < 12 → S (2394 + s) = 0 → ∀ p, p < 128 → S (768 + 128 * s + p) = 0) (h4 : ∀ b, b < 128 → S (2686 + b) ≤ 1) (h5 : ∀ b, b < 128 → S (2558 + b) ≤ n + 1) : z_I n (y_mk S) := by
  refine ⟨z_Is_S hIs (fun k k1 k2 => y_mk_o (by omega)) (fun k k1 k2 => y_mk_o (by omega)), fun k hk => by rw [y_mk_o (by omega)]; exact h1 k hk, fun d hd => ?_, fun s hs => ?_, fun b hb => ?_, fun b hb => ?_, fun b hb => by rw [y_mk_o (by omega)]; exact h5 b hb⟩
  · rw [y_mk_o (by omega)]
    intro q p hp
    rw [y_mk_o (by omega)]
    exact h2 d hd q p hp
  · rw [y_mk_o (by omega)]
    intro q p hp
    rw [y_mk_o (by omega)]
    exact h3 s hs q p hp
  · rw [y_mk_ref hb, cntN_cg (T := y_mk S) (T' := S) (fun i hi => y_mk_o (by omega))]
  · rw [y_mk_ref hb, y_mk_pen hb]
    have := h4 b hb
    refine ⟨by split <;> (try split) <;> omega, fun c => ?_⟩
    have hl : lostN S b = 0 := if_neg (fun q => c q.1)
    rw [if_neg (by omega), ((hH b hb).2 c).2]
/-- blocks of the new tables all stood in the old ones -/
theorem z_H_of {n : Nat} {S S1 : Nat → Nat} (hI : z_I n S) (ht : ∀ k, k < 2304 → S1 k = 0 ∨ ∃ j, j < 2304 ∧ S j = S1 k) (hr : ∀ k, 2686 ≤ k → k < 2942 → S1 k = S k) : z_H S1 (z_sta S) := fun b hb => by
  have e : z_sta S1 b = z_sta S b := by
    unfold z_sta
    rw [hr _ (by omega) (by omega), hr (2686 + b) (by omega) (by omega)]
  refine ⟨fun _ => e.symm, fun c => ?_⟩
  obtain ⟨k, hk, q⟩ := cntN_pos.mp c
  rcases ht k hk with h1 | ⟨j, hj, h1⟩
  · omega
  · have h2 : S (2814 + b) ≠ 0 := by
      rw [I_ref hI b hb]
      exact cntN_pos.mpr ⟨j, hj, h1.trans q⟩
    refine ⟨if_pos h2, ?_⟩
    rw [hr _ (by omega) (by omega)]
    exact (I_pen hI b hb).2 h2
