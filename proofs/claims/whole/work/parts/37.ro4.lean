/-! ===== the calls that change nothing: blocks ===== -/
/-- how often block b stands in the 128 places from k on -/
def z_in1 (S : Nat → Nat) (k b : Nat) : Nat := cntN (fun p => S (k + p)) (b + 1) 128
theorem z_in1_le {S : Nat → Nat} {k b : Nat} : z_in1 S k b ≤ 128 := cntN_le
theorem cn1 {T : Nat → Nat} {x i : Nat} (h : ¬ T i = x) : cntN T x (i + 1) = cntN T x i := by
  show cntN T x i + (if T i = x then 1 else 0) = _
  rw [if_neg h]
  rfl
theorem cn2 {T : Nat → Nat} {x i : Nat} (h : T i = x) : cntN T x (i + 1) = cntN T x i + 1 := by
  show cntN T x i + (if T i = x then 1 else 0) = _
  rw [if_pos h]
/-- the class: the uses of each block in a table -/
theorem cCu {M : zM} {S : Nat → Nat} {T k : Nat} (hT : ∀ p, p < 128 → M (T + 1) p = nI (S (k + p)) - nI 1) (hx : ∀ p, p < 128 → S (k + p) ≤ 128) (hT1 : T + 1 ≠ 168) : ∃ M', fX6_countUses 0 T M = some M' ∧ (∀ a, a ≠ 168 → M' a = M a) ∧ ∀ b, b < 128 → M' 168 b = nI (z_in1 S k b) := by
  unfold fX6_countUses
  have hq := z_loopM (f := fun s : Int32 × zM => fX6_countUses_L1 0 T s.1 s.2) (fun i M' => (∀ a, a ≠ 168 → M' a = M a) ∧ ∀ b, b < 128 → M' 168 b = nI (cntN (fun p => S (k + p)) (b + 1) i)) (fun M' => (∀ a, a ≠ 168 → M' a = M a) ∧ ∀ b, b < 128 → M' 168 b = nI (z_in1 S k b)) 0 128 (by decide) (s := 0) (M := z_fill M (0 + 168) 0) rfl ⟨fun a ha => by unfold z_fill; exact if_neg ha, fun b _ => by unfold z_fill; rw [if_pos rfl]; rfl⟩ (fun i M' hi hI => by
    obtain ⟨hc, hb⟩ := hI
    have hp := hT i hi
    rw [← hc _ hT1] at hp
    have hx1 := hx i hi
    by_cases q : S (k + i) = 0
    · refine ⟨M', ?_, hc, fun b hb2 => ?_⟩
      · simp (disch := first | omega | assumption) only [l_0, l_1, l_2, l_3, l_4, l_5, l_6, l_7, l_8, l_11, l_12, l_15, l_16, l_31, l_32, l_66, l_80, l_100, l_127, l_128, l_768, l_2304, l_2310, l_2316, l_2388, l_2394, l_2406, l_2418, l_2430, l_2558, l_2686, l_2814, l_2942, l_3070, l_3390, l_3394, l_3395, l_3396, l_3397, n_leT, n_leF, n_ltT, n_ltF, n_eqT, n_eqF, nI_add, pk_mul, n_sub, z_ldn, z_san, z_bs, z_b2s, z_b3s, z_ocN, z_ocS, z_oxL, z_oxR, z_scL, z_scR, ↓reduceIte, st_170, st_171, st_172, st_173, Nat.zero_add, Nat.add_zero, Nat.zero_lt_succ, true_and, and_true, eq_self, fX6_countUses_L1, cBo, hp, q, n_m0a]
      · rw [hb b hb2]
        rw [cn1 (by omega)]
    · have hb1 := hb (S (k + i) - 1) (by omega)
      refine ⟨z_st M' 168 (S (k + i) - 1) (nI (cntN (fun p => S (k + p)) (S (k + i) - 1 + 1) i + 1)), ?_, fun a ha => by rw [s_n ha]; exact hc a ha, fun b hb2 => ?_⟩
      · simp (disch := first | omega | assumption) only [l_0, l_1, l_2, l_3, l_4, l_5, l_6, l_7, l_8, l_11, l_12, l_15, l_16, l_31, l_32, l_66, l_80, l_100, l_127, l_128, l_768, l_2304, l_2310, l_2316, l_2388, l_2394, l_2406, l_2418, l_2430, l_2558, l_2686, l_2814, l_2942, l_3070, l_3390, l_3394, l_3395, l_3396, l_3397, n_leT, n_leF, n_ltT, n_ltF, n_eqT, n_eqF, nI_add, pk_mul, n_sub, z_ldn, z_san, z_bs, z_b2s, z_b3s, z_ocN, z_ocS, z_oxL, z_oxR, z_scL, z_scR, ↓reduceIte, st_170, st_171, st_172, st_173, Nat.zero_add, Nat.add_zero, Nat.zero_lt_succ, true_and, and_true, eq_self, fX6_countUses_L1, cBo, hp, hb1]
      · rw [s_s]
        by_cases q2 : S (k + i) = b + 1
        · rw [cn2 (T := fun p => S (k + p)) q2, show b = S (k + i) - 1 by omega, u_s]
        · rw [cn1 (T := fun p => S (k + p)) q2, u_n (by omega), hb b hb2]) (fun M' hI => ⟨M', by simp (disch := first | omega | assumption) only [l_0, l_1, l_2, l_3, l_4, l_5, l_6, l_7, l_8, l_11, l_12, l_15, l_16, l_31, l_32, l_66, l_80, l_100, l_127, l_128, l_768, l_2304, l_2310, l_2316, l_2388, l_2394, l_2406, l_2418, l_2430, l_2558, l_2686, l_2814, l_2942, l_3070, l_3390, l_3394, l_3395, l_3396, l_3397, n_leT, n_leF, n_ltT, n_ltF, n_eqT, n_eqF, nI_add, pk_mul, n_sub, z_ldn, z_san, z_bs, z_b2s, z_b3s, z_ocN, z_ocS, z_oxL, z_oxR, z_scL, z_scR, ↓reduceIte, st_170, st_171, st_172, st_173, Nat.zero_add, Nat.add_zero, Nat.zero_lt_succ, true_and, and_true, eq_self, fX6_countUses_L1], hI⟩)
  obtain ⟨M', h1, h2⟩ := hq
  refine ⟨M', ?_, h2⟩
  rw [z_bs, h1, z_bs]
/-- the model: the same, in its own row -/
theorem mBi {M : zM} {S : Nat → Nat} {k : Nat} {wh : Nat} (hwh : wh ≤ 1) (hN : ∀ j, j < 2430 → M (169 + 1) j = nI (S j)) (hF : ∀ b, b < 128 → M (169 + 1) (2814 + b) = nI (S (2814 + b))) (hr : ∀ b, b < 128 → S (2814 + b) ≤ 2304) (hk : k + 128 ≤ 2304) (hx : ∀ p, p < 128 → S (k + p) ≤ 128) : ∃ M', fX7_blocksIn 169 (nI k) (nI wh) M = some (nI (sumN (fun b => if z_in1 S k b = 0 then 0 else if wh = 0 then 1 else if z_in1 S k b = S (2814 + b) then 1 else 0) 128), M') ∧ (∀ a, a ≠ 172 → M' a = M a) := by
  unfold fX7_blocksIn
  obtain ⟨M1, g1, g2, g3⟩ := z_loopR (f := fun s : Int32 × zM => fX7_blocksIn_L1 169 s.1 s.2) 172 0 0 128 (fun _ => nI 0) (by decide) (s := 0) (M := M) rfl (fun i M' hi _ _ => by simp (disch := first | omega | assumption) only [l_0, l_1, l_2, l_3, l_4, l_5, l_6, l_7, l_8, l_11, l_12, l_15, l_16, l_31, l_32, l_66, l_80, l_100, l_127, l_128, l_768, l_2304, l_2310, l_2316, l_2388, l_2394, l_2406, l_2418, l_2430, l_2558, l_2686, l_2814, l_2942, l_3070, l_3390, l_3394, l_3395, l_3396, l_3397, n_leT, n_leF, n_ltT, n_ltF, n_eqT, n_eqF, nI_add, pk_mul, n_sub, z_ldn, z_san, z_bs, z_b2s, z_b3s, z_ocN, z_ocS, z_oxL, z_oxR, z_scL, z_scR, ↓reduceIte, st_170, st_171, st_172, st_173, Nat.zero_add, Nat.add_zero, Nat.zero_lt_succ, true_and, and_true, eq_self, fX7_blocksIn_L1]) (fun M' => by simp (disch := first | omega | assumption) only [l_0, l_1, l_2, l_3, l_4, l_5, l_6, l_7, l_8, l_11, l_12, l_15, l_16, l_31, l_32, l_66, l_80, l_100, l_127, l_128, l_768, l_2304, l_2310, l_2316, l_2388, l_2394, l_2406, l_2418, l_2430, l_2558, l_2686, l_2814, l_2942, l_3070, l_3390, l_3394, l_3395, l_3396, l_3397, n_leT, n_leF, n_ltT, n_ltF, n_eqT, n_eqF, nI_add, pk_mul, n_sub, z_ldn, z_san, z_bs, z_b2s, z_b3s, z_ocN, z_ocS, z_oxL, z_oxR, z_scL, z_scR, ↓reduceIte, st_170, st_171, st_172, st_173, Nat.zero_add, Nat.add_zero, Nat.zero_lt_succ, true_and, and_true, eq_self, fX7_blocksIn_L1])
  have hq := z_loopM (f := fun s : Int32 × zM => fX7_blocksIn_L2 169 (nI k) s.1 s.2) (fun i M' => (∀ a, a ≠ 172 → M' a = M a) ∧ ∀ b, b < 128 → M' 172 b = nI (cntN (fun p => S (k + p)) (b + 1) i)) (fun M' => (∀ a, a ≠ 172 → M' a = M a) ∧ ∀ b, b < 128 → M' 172 b = nI (z_in1 S k b)) k 128 (by decide) (s := nI k) (M := M1) rfl ⟨g2, fun b hb => by rw [g3 b, if_pos ⟨Nat.zero_le b, by omega⟩]; rfl⟩ (fun i M' hi hI => by
    obtain ⟨hc, hb⟩ := hI
    have hb' : ∀ b, b < 128 → M' (169 + 3) b = nI (cntN (fun p => S (k + p)) (b + 1) i) := hb
    have hp := hN (k + i) (by omega)
    rw [← hc _ (by decide)] at hp
    have hx1 := hx i hi
    by_cases q : S (k + i) = 0
    · refine ⟨M', ?_, hc, fun b hb2 => ?_⟩
      · simp (disch := first | omega | assumption) only [l_0, l_1, l_2, l_3, l_4, l_5, l_6, l_7, l_8, l_11, l_12, l_15, l_16, l_31, l_32, l_66, l_80, l_100, l_127, l_128, l_768, l_2304, l_2310, l_2316, l_2388, l_2394, l_2406, l_2418, l_2430, l_2558, l_2686, l_2814, l_2942, l_3070, l_3390, l_3394, l_3395, l_3396, l_3397, n_leT, n_leF, n_ltT, n_ltF, n_eqT, n_eqF, nI_add, pk_mul, n_sub, z_ldn, z_san, z_bs, z_b2s, z_b3s, z_ocN, z_ocS, z_oxL, z_oxR, z_scL, z_scR, ↓reduceIte, st_170, st_171, st_172, st_173, Nat.zero_add, Nat.add_zero, Nat.zero_lt_succ, true_and, and_true, eq_self, fX7_blocksIn_L2, hp, q]
      · rw [hb b hb2]
        rw [cn1 (by omega)]
    · refine ⟨z_st M' (169 + 3) (S (k + i) - 1) (nI (cntN (fun p => S (k + p)) (S (k + i) - 1 + 1) i + 1)), ?_, fun a ha => by rw [s_n ha]; exact hc a ha, fun b hb2 => ?_⟩
      · simp (disch := first | omega | assumption) only [l_0, l_1, l_2, l_3, l_4, l_5, l_6, l_7, l_8, l_11, l_12, l_15, l_16, l_31, l_32, l_66, l_80, l_100, l_127, l_128, l_768, l_2304, l_2310, l_2316, l_2388, l_2394, l_2406, l_2418, l_2430, l_2558, l_2686, l_2814, l_2942, l_3070, l_3390, l_3394, l_3395, l_3396, l_3397, n_leT, n_leF, n_ltT, n_ltF, n_eqT, n_eqF, nI_add, pk_mul, n_sub, z_ldn, z_san, z_bs, z_b2s, z_b3s, z_ocN, z_ocS, z_oxL, z_oxR, z_scL, z_scR, ↓reduceIte, st_170, st_171, st_172, st_173, Nat.zero_add, Nat.add_zero, Nat.zero_lt_succ, true_and, and_true, eq_self, fX7_blocksIn_L2, hp, hb']
      · rw [show (169 : Nat) + 3 = 172 from rfl, s_s]
        by_cases q2 : S (k + i) = b + 1
        · rw [cn2 (T := fun p => S (k + p)) q2, show b = S (k + i) - 1 by omega, u_s]
        · rw [cn1 (T := fun p => S (k + p)) q2, u_n (by omega), hb b hb2]) (fun M' hI => ⟨M', by simp (disch := first | omega | assumption) only [l_0, l_1, l_2, l_3, l_4, l_5, l_6, l_7, l_8, l_11, l_12, l_15, l_16, l_31, l_32, l_66, l_80, l_100, l_127, l_128, l_768, l_2304, l_2310, l_2316, l_2388, l_2394, l_2406, l_2418, l_2430, l_2558, l_2686, l_2814, l_2942, l_3070, l_3390, l_3394, l_3395, l_3396, l_3397, n_leT, n_leF, n_ltT, n_ltF, n_eqT, n_eqF, nI_add, pk_mul, n_sub, z_ldn, z_san, z_bs, z_b2s, z_b3s, z_ocN, z_ocS, z_oxL, z_oxR, z_scL, z_scR, ↓reduceIte, st_170, st_171, st_172, st_173, Nat.zero_add, Nat.add_zero, Nat.zero_lt_succ, true_and, and_true, eq_self, fX7_blocksIn_L2], hI⟩)
  obtain ⟨M2, h1, h2, h3⟩ := hq
  refine ⟨M2, ?_, h2⟩
  rw [g1, z_bs, h1, z_bs]
  have h3' : ∀ b, b < 128 → M2 (169 + 3) b = nI (z_in1 S k b) := h3
  have hF2 : ∀ b, b < 128 → M2 (169 + 1) (2814 + b) = nI (S (2814 + b)) := fun b hb => by rw [h2 _ (by decide)]; exact hF b hb
  rw [z_loopS (f := fun s : Int32 × Int32 => fX7_blocksIn_L3 169 (nI wh) M2 s.1 s.2) (fun b => if z_in1 S k b = 0 then 0 else if wh = 0 then 1 else if z_in1 S k b = S (2814 + b) then 1 else 0) 0 128 (by decide) (s := (0, 0)) rfl (fun b x hb => by
    have hz := z_in1_le (S := S) (k := k) (b := b)
    have hr2 := hr b hb
    by_cases q : z_in1 S k b = 0
    · simp (disch := first | omega | assumption) only [l_0, l_1, l_2, l_3, l_4, l_5, l_6, l_7, l_8, l_11, l_12, l_15, l_16, l_31, l_32, l_66, l_80, l_100, l_127, l_128, l_768, l_2304, l_2310, l_2316, l_2388, l_2394, l_2406, l_2418, l_2430, l_2558, l_2686, l_2814, l_2942, l_3070, l_3390, l_3394, l_3395, l_3396, l_3397, n_leT, n_leF, n_ltT, n_ltF, n_eqT, n_eqF, nI_add, pk_mul, n_sub, z_ldn, z_san, z_bs, z_b2s, z_b3s, z_ocN, z_ocS, z_oxL, z_oxR, z_scL, z_scR, ↓reduceIte, st_170, st_171, st_172, st_173, Nat.zero_add, Nat.add_zero, Nat.zero_lt_succ, true_and, and_true, eq_self, fX7_blocksIn_L3, h3', q]
    · by_cases q2 : wh = 0
      · simp (disch := first | omega | assumption) only [l_0, l_1, l_2, l_3, l_4, l_5, l_6, l_7, l_8, l_11, l_12, l_15, l_16, l_31, l_32, l_66, l_80, l_100, l_127, l_128, l_768, l_2304, l_2310, l_2316, l_2388, l_2394, l_2406, l_2418, l_2430, l_2558, l_2686, l_2814, l_2942, l_3070, l_3390, l_3394, l_3395, l_3396, l_3397, n_leT, n_leF, n_ltT, n_ltF, n_eqT, n_eqF, nI_add, pk_mul, n_sub, z_ldn, z_san, z_bs, z_b2s, z_b3s, z_ocN, z_ocS, z_oxL, z_oxR, z_scL, z_scR, ↓reduceIte, st_170, st_171, st_172, st_173, Nat.zero_add, Nat.add_zero, Nat.zero_lt_succ, true_and, and_true, eq_self, fX7_blocksIn_L3, h3', if_neg q, q2]
      · by_cases q3 : z_in1 S k b = S (2814 + b)
        · have q4 : S (2814 + b) ≠ 0 := by omega
          simp (disch := first | omega | assumption) only [l_0, l_1, l_2, l_3, l_4, l_5, l_6, l_7, l_8, l_11, l_12, l_15, l_16, l_31, l_32, l_66, l_80, l_100, l_127, l_128, l_768, l_2304, l_2310, l_2316, l_2388, l_2394, l_2406, l_2418, l_2430, l_2558, l_2686, l_2814, l_2942, l_3070, l_3390, l_3394, l_3395, l_3396, l_3397, n_leT, n_leF, n_ltT, n_ltF, n_eqT, n_eqF, nI_add, pk_mul, n_sub, z_ldn, z_san, z_bs, z_b2s, z_b3s, z_ocN, z_ocS, z_oxL, z_oxR, z_scL, z_scR, ↓reduceIte, st_170, st_171, st_172, st_173, Nat.zero_add, Nat.add_zero, Nat.zero_lt_succ, true_and, and_true, eq_self, fX7_blocksIn_L3, h3', hF2, q3, if_neg q4, if_neg q2]
        · simp (disch := first | omega | assumption) only [l_0, l_1, l_2, l_3, l_4, l_5, l_6, l_7, l_8, l_11, l_12, l_15, l_16, l_31, l_32, l_66, l_80, l_100, l_127, l_128, l_768, l_2304, l_2310, l_2316, l_2388, l_2394, l_2406, l_2418, l_2430, l_2558, l_2686, l_2814, l_2942, l_3070, l_3390, l_3394, l_3395, l_3396, l_3397, n_leT, n_leF, n_ltT, n_ltF, n_eqT, n_eqF, nI_add, pk_mul, n_sub, z_ldn, z_san, z_bs, z_b2s, z_b3s, z_ocN, z_ocS, z_oxL, z_oxR, z_scL, z_scR, ↓reduceIte, st_170, st_171, st_172, st_173, Nat.zero_add, Nat.add_zero, Nat.zero_lt_succ, true_and, and_true, eq_self, fX7_blocksIn_L3, h3', hF2, if_neg q, if_neg q2, if_neg q3]) (fun x => by simp (disch := first | omega | assumption) only [l_0, l_1, l_2, l_3, l_4, l_5, l_6, l_7, l_8, l_11, l_12, l_15, l_16, l_31, l_32, l_66, l_80, l_100, l_127, l_128, l_768, l_2304, l_2310, l_2316, l_2388, l_2394, l_2406, l_2418, l_2430, l_2558, l_2686, l_2814, l_2942, l_3070, l_3390, l_3394, l_3395, l_3396, l_3397, n_leT, n_leF, n_ltT, n_ltF, n_eqT, n_eqF, nI_add, pk_mul, n_sub, z_ldn, z_san, z_bs, z_b2s, z_b3s, z_ocN, z_ocS, z_oxL, z_oxR, z_scL, z_scR, ↓reduceIte, st_170, st_171, st_172, st_173, Nat.zero_add, Nat.add_zero, Nat.zero_lt_succ, true_and, and_true, eq_self, fX7_blocksIn_L3])]
  simp (disch := first | omega | assumption) only [l_0, l_1, l_2, l_3, l_4, l_5, l_6, l_7, l_8, l_11, l_12, l_15, l_16, l_31, l_32, l_66, l_80, l_100, l_127, l_128, l_768, l_2304, l_2310, l_2316, l_2388, l_2394, l_2406, l_2418, l_2430, l_2558, l_2686, l_2814, l_2942, l_3070, l_3390, l_3394, l_3395, l_3396, l_3397, n_leT, n_leF, n_ltT, n_ltF, n_eqT, n_eqF, nI_add, pk_mul, n_sub, z_ldn, z_san, z_bs, z_b2s, z_b3s, z_ocN, z_ocS, z_oxL, z_oxR, z_scL, z_scR, ↓reduceIte, st_170, st_171, st_172, st_173, Nat.zero_add, Nat.add_zero, Nat.zero_lt_succ, true_and, and_true, eq_self]
theorem I_r2304 {n : Nat} {S : Nat → Nat} (hI : z_I n S) : ∀ b, b < 128 → S (2814 + b) ≤ 2304 := fun b hb => by
  rw [I_ref hI b hb]
  exact cntN_le
theorem ref170 {M : zM} {S : Nat → Nat} (h : z_N (M 170) S) : ∀ b, b < 128 → M (169 + 1) (2814 + b) = nI (S (2814 + b)) := fun b hb => N2 h _ (by omega) (by omega)
theorem z_same_168 {M M' : zM} (h : ∀ a, a ≠ 168 → M' a = M a) : z_same M M' := fun k _ q _ _ _ _ _ => h k q
theorem op_24 {n : Nat} {M : zM} (h : z_P n M) (a1 a2 a3 a4 a5 a6 : Int32) : ∃ M9, fL_c24 a1 a2 a3 a4 a5 a6 M = some (1, M9) ∧ z_P (n + 1) M9 := by
  obtain ⟨S, S0, hN, _, hR, _, hI, _⟩ := id h
  unfold fL_c24 fL_referenced
  refine ro3 h ?_
  have hN1 := N1 hN
  rcases ds_cases a1 (I_ex hI) with ⟨d, hd, rfl, h1⟩ | h1
  · have hx := fun p (hp : p < 128) => I_tab hI (128 * d + p) (by omega)
    obtain ⟨M2, e1, e2, e3⟩ := cCu (M := M) (S := S) (T := 1 + 9 + 3 * d + 1) (k := 128 * d) (hR.1 d (by omega)) hx (by omega)
    obtain ⟨v, hv⟩ : ∃ v, v = nI (sumN (fun b => if z_in1 S (128 * d) b = 0 then 0 else 1) 128) := ⟨_, rfl⟩
    have hc : (z_st M2 174 0 v) 170 = M 170 := by rw [s_n (by decide)]; exact e2 170 (by decide)
    obtain ⟨M4, f1, f2⟩ := mBi (M := z_st (z_st M2 174 0 v) 169 4 (nI 0)) (S := S) (k := 128 * d) (wh := 0) (by decide) (N1' hN hc) (fun b hb => N2' hN hc _ (by omega) (by omega)) (I_r2304 hI) (by omega) hx
    refine Or.inr ⟨v, M2, M4, ?_, ?_, ?_, ?_, ?_⟩
    · unfold fX6_referenced
      simp (disch := first | omega | assumption) only [l_0, l_1, l_2, l_3, l_4, l_5, l_6, l_7, l_8, l_11, l_12, l_15, l_16, l_31, l_32, l_66, l_80, l_100, l_127, l_128, l_768, l_2304, l_2310, l_2316, l_2388, l_2394, l_2406, l_2418, l_2430, l_2558, l_2686, l_2814, l_2942, l_3070, l_3390, l_3394, l_3395, l_3396, l_3397, n_leT, n_leF, n_ltT, n_ltF, n_eqT, n_eqF, nI_add, pk_mul, n_sub, z_ldn, z_san, z_bs, z_b2s, z_b3s, z_ocN, z_ocS, z_oxL, z_oxR, z_scL, z_scR, ↓reduceIte, st_170, st_171, st_172, st_173, Nat.zero_add, Nat.add_zero, Nat.zero_lt_succ, true_and, and_true, eq_self, cDs_ok hR.2.1 hd h1, z_gdp (kd1_ds hd), e1]
      rw [z_loopS (f := fun s : Int32 × Int32 => fX6_referenced_L1 0 M2 s.1 s.2) (fun b => if z_in1 S (128 * d) b = 0 then 0 else 1) 0 128 (by decide) (s := (nI 0, nI 0)) rfl (fun b x hb => by
        have hz := z_in1_le (S := S) (k := 128 * d) (b := b)
        by_cases q : z_in1 S (128 * d) b = 0
        · simp (disch := first | omega | assumption) only [l_0, l_1, l_2, l_3, l_4, l_5, l_6, l_7, l_8, l_11, l_12, l_15, l_16, l_31, l_32, l_66, l_80, l_100, l_127, l_128, l_768, l_2304, l_2310, l_2316, l_2388, l_2394, l_2406, l_2418, l_2430, l_2558, l_2686, l_2814, l_2942, l_3070, l_3390, l_3394, l_3395, l_3396, l_3397, n_leT, n_leF, n_ltT, n_ltF, n_eqT, n_eqF, nI_add, pk_mul, n_sub, z_ldn, z_san, z_bs, z_b2s, z_b3s, z_ocN, z_ocS, z_oxL, z_oxR, z_scL, z_scR, ↓reduceIte, st_170, st_171, st_172, st_173, Nat.zero_add, Nat.add_zero, Nat.zero_lt_succ, true_and, and_true, eq_self, fX6_referenced_L1, e3, q]
        · simp (disch := first | omega | assumption) only [l_0, l_1, l_2, l_3, l_4, l_5, l_6, l_7, l_8, l_11, l_12, l_15, l_16, l_31, l_32, l_66, l_80, l_100, l_127, l_128, l_768, l_2304, l_2310, l_2316, l_2388, l_2394, l_2406, l_2418, l_2430, l_2558, l_2686, l_2814, l_2942, l_3070, l_3390, l_3394, l_3395, l_3396, l_3397, n_leT, n_leF, n_ltT, n_ltF, n_eqT, n_eqF, nI_add, pk_mul, n_sub, z_ldn, z_san, z_bs, z_b2s, z_b3s, z_ocN, z_ocS, z_oxL, z_oxR, z_scL, z_scR, ↓reduceIte, st_170, st_171, st_172, st_173, Nat.zero_add, Nat.add_zero, Nat.zero_lt_succ, true_and, and_true, eq_self, fX6_referenced_L1, e3, if_neg q]) (fun x => by simp (disch := first | omega | assumption) only [l_0, l_1, l_2, l_3, l_4, l_5, l_6, l_7, l_8, l_11, l_12, l_15, l_16, l_31, l_32, l_66, l_80, l_100, l_127, l_128, l_768, l_2304, l_2310, l_2316, l_2388, l_2394, l_2406, l_2418, l_2430, l_2558, l_2686, l_2814, l_2942, l_3070, l_3390, l_3394, l_3395, l_3396, l_3397, n_leT, n_leF, n_ltT, n_ltF, n_eqT, n_eqF, nI_add, pk_mul, n_sub, z_ldn, z_san, z_bs, z_b2s, z_b3s, z_ocN, z_ocS, z_oxL, z_oxR, z_scL, z_scR, ↓reduceIte, st_170, st_171, st_172, st_173, Nat.zero_add, Nat.add_zero, Nat.zero_lt_succ, true_and, and_true, eq_self, fX6_referenced_L1])]
      simp (disch := first | omega | assumption) only [l_0, l_1, l_2, l_3, l_4, l_5, l_6, l_7, l_8, l_11, l_12, l_15, l_16, l_31, l_32, l_66, l_80, l_100, l_127, l_128, l_768, l_2304, l_2310, l_2316, l_2388, l_2394, l_2406, l_2418, l_2430, l_2558, l_2686, l_2814, l_2942, l_3070, l_3390, l_3394, l_3395, l_3396, l_3397, n_leT, n_leF, n_ltT, n_ltF, n_eqT, n_eqF, nI_add, pk_mul, n_sub, z_ldn, z_san, z_bs, z_b2s, z_b3s, z_ocN, z_ocS, z_oxL, z_oxR, z_scL, z_scR, ↓reduceIte, st_170, st_171, st_172, st_173, Nat.zero_add, Nat.add_zero, Nat.zero_lt_succ, true_and, and_true, eq_self, hv]
    · unfold fX7_referenced
      rw [mSet_ok (N1' hN hc) hd h1, z_bs, show (1 : Int32) = nI 1 from rfl, mFits0, z_b2s]
      simp (disch := first | omega | assumption) only [l_0, l_1, l_2, l_3, l_4, l_5, l_6, l_7, l_8, l_11, l_12, l_15, l_16, l_31, l_32, l_66, l_80, l_100, l_127, l_128, l_768, l_2304, l_2310, l_2316, l_2388, l_2394, l_2406, l_2418, l_2430, l_2558, l_2686, l_2814, l_2942, l_3070, l_3390, l_3394, l_3395, l_3396, l_3397, n_leT, n_leF, n_ltT, n_ltF, n_eqT, n_eqF, nI_add, pk_mul, n_sub, z_ldn, z_san, z_bs, z_b2s, z_b3s, z_ocN, z_ocS, z_oxL, z_oxR, z_scL, z_scR, ↓reduceIte, st_170, st_171, st_172, st_173, Nat.zero_add, Nat.add_zero, Nat.zero_lt_succ, true_and, and_true, eq_self]
      rw [f1]
      simp (disch := first | omega | assumption) only [l_0, l_1, l_2, l_3, l_4, l_5, l_6, l_7, l_8, l_11, l_12, l_15, l_16, l_31, l_32, l_66, l_80, l_100, l_127, l_128, l_768, l_2304, l_2310, l_2316, l_2388, l_2394, l_2406, l_2418, l_2430, l_2558, l_2686, l_2814, l_2942, l_3070, l_3390, l_3394, l_3395, l_3396, l_3397, n_leT, n_leF, n_ltT, n_ltF, n_eqT, n_eqF, nI_add, pk_mul, n_sub, z_ldn, z_san, z_bs, z_b2s, z_b3s, z_ocN, z_ocS, z_oxL, z_oxR, z_scL, z_scR, ↓reduceIte, st_170, st_171, st_172, st_173, Nat.zero_add, Nat.add_zero, Nat.zero_lt_succ, true_and, and_true, eq_self, hv]
    · rw [f2 _ (by decide), s_s, u_s]
      rfl
    · rw [f2 _ (by decide), s_n (by decide), s_s, u_s]
    · intro a q1 q2 q3 q4 q5 q6 q7
      rw [f2 a q4, s_n q3, s_n q6, e2 a q2]
  · refine Or.inl ⟨nI 1, nI 0, M, z_st M 169 4 (nI 1), by decide, ?_, ?_, by rw [s_s, u_s], z_same_st z_same_rfl (by omega)⟩
    · unfold fX6_referenced
      simp (disch := first | omega | assumption) only [l_0, l_1, l_2, l_3, l_4, l_5, l_6, l_7, l_8, l_11, l_12, l_15, l_16, l_31, l_32, l_66, l_80, l_100, l_127, l_128, l_768, l_2304, l_2310, l_2316, l_2388, l_2394, l_2406, l_2418, l_2430, l_2558, l_2686, l_2814, l_2942, l_3070, l_3390, l_3394, l_3395, l_3396, l_3397, n_leT, n_leF, n_ltT, n_ltF, n_eqT, n_eqF, nI_add, pk_mul, n_sub, z_ldn, z_san, z_bs, z_b2s, z_b3s, z_ocN, z_ocS, z_oxL, z_oxR, z_scL, z_scR, ↓reduceIte, st_170, st_171, st_172, st_173, Nat.zero_add, Nat.add_zero, Nat.zero_lt_succ, true_and, and_true, eq_self, cDs_no hR.2.1 h1]
    · unfold fX7_referenced
      rw [mSet_no hN1 h1, z_bs, mFits1, z_b2s]
      simp (disch := first | omega | assumption) only [l_0, l_1, l_2, l_3, l_4, l_5, l_6, l_7, l_8, l_11, l_12, l_15, l_16, l_31, l_32, l_66, l_80, l_100, l_127, l_128, l_768, l_2304, l_2310, l_2316, l_2388, l_2394, l_2406, l_2418, l_2430, l_2558, l_2686, l_2814, l_2942, l_3070, l_3390, l_3394, l_3395, l_3396, l_3397, n_leT, n_leF, n_ltT, n_ltF, n_eqT, n_eqF, nI_add, pk_mul, n_sub, z_ldn, z_san, z_bs, z_b2s, z_b3s, z_ocN, z_ocS, z_oxL, z_oxR, z_scL, z_scR, ↓reduceIte, st_170, st_171, st_172, st_173, Nat.zero_add, Nat.add_zero, Nat.zero_lt_succ, true_and, and_true, eq_self]
/-- the class: a table's own blocks -/
theorem cOw {M : zM} {S : Nat → Nat} {T k : Nat} (hT : ∀ p, p < 128 → M (T + 1) p = nI (S (k + p)) - nI 1) (hx : ∀ p, p < 128 → S (k + p) ≤ 128) (hT1 : T + 1 ≠ 168) (hF : ∀ b, b < 128 → M (1 + 3 + 4) b = nI (S (2814 + b))) (hr : ∀ b, b < 128 → S (2814 + b) ≤ 2304) : ∃ M', fX6_countOwn 0 T M = some (nI (sumN (fun b => if z_in1 S k b = 0 then 0 else if z_in1 S k b = S (2814 + b) then 1 else 0) 128), M') ∧ ∀ a, a ≠ 168 → M' a = M a := by
  obtain ⟨M2, e1, e2, e3⟩ := cCu hT hx hT1
  refine ⟨M2, ?_, e2⟩
  unfold fX6_countOwn
  rw [e1, z_bs]
  have hF2 : ∀ b, b < 128 → M2 (1 + 3 + 4) b = nI (S (2814 + b)) := fun b hb => by rw [e2 _ (by decide)]; exact hF b hb
  rw [z_loopS (f := fun s : Int32 × Int32 => fX6_countOwn_L1 0 M2 s.1 s.2) (fun b => if z_in1 S k b = 0 then 0 else if z_in1 S k b = S (2814 + b) then 1 else 0) 0 128 (by decide) (s := (0, 0)) rfl (fun b x hb => by
    have hz := z_in1_le (S := S) (k := k) (b := b)
    have hr2 := hr b hb
    by_cases q : z_in1 S k b = 0
    · simp (disch := first | omega | assumption) only [l_0, l_1, l_2, l_3, l_4, l_5, l_6, l_7, l_8, l_11, l_12, l_15, l_16, l_31, l_32, l_66, l_80, l_100, l_127, l_128, l_768, l_2304, l_2310, l_2316, l_2388, l_2394, l_2406, l_2418, l_2430, l_2558, l_2686, l_2814, l_2942, l_3070, l_3390, l_3394, l_3395, l_3396, l_3397, n_leT, n_leF, n_ltT, n_ltF, n_eqT, n_eqF, nI_add, pk_mul, n_sub, z_ldn, z_san, z_bs, z_b2s, z_b3s, z_ocN, z_ocS, z_oxL, z_oxR, z_scL, z_scR, ↓reduceIte, st_170, st_171, st_172, st_173, Nat.zero_add, Nat.add_zero, Nat.zero_lt_succ, true_and, and_true, eq_self, fX6_countOwn_L1, e3, q]
    · by_cases q3 : z_in1 S k b = S (2814 + b)
      · have q4 : S (2814 + b) ≠ 0 := by omega
        simp (disch := first | omega | assumption) only [l_0, l_1, l_2, l_3, l_4, l_5, l_6, l_7, l_8, l_11, l_12, l_15, l_16, l_31, l_32, l_66, l_80, l_100, l_127, l_128, l_768, l_2304, l_2310, l_2316, l_2388, l_2394, l_2406, l_2418, l_2430, l_2558, l_2686, l_2814, l_2942, l_3070, l_3390, l_3394, l_3395, l_3396, l_3397, n_leT, n_leF, n_ltT, n_ltF, n_eqT, n_eqF, nI_add, pk_mul, n_sub, z_ldn, z_san, z_bs, z_b2s, z_b3s, z_ocN, z_ocS, z_oxL, z_oxR, z_scL, z_scR, ↓reduceIte, st_170, st_171, st_172, st_173, Nat.zero_add, Nat.add_zero, Nat.zero_lt_succ, true_and, and_true, eq_self, fX6_countOwn_L1, fX3_usesOf, cIb, e3, hF2, q3, if_neg q4]
      · simp (disch := first | omega | assumption) only [l_0, l_1, l_2, l_3, l_4, l_5, l_6, l_7, l_8, l_11, l_12, l_15, l_16, l_31, l_32, l_66, l_80, l_100, l_127, l_128, l_768, l_2304, l_2310, l_2316, l_2388, l_2394, l_2406, l_2418, l_2430, l_2558, l_2686, l_2814, l_2942, l_3070, l_3390, l_3394, l_3395, l_3396, l_3397, n_leT, n_leF, n_ltT, n_ltF, n_eqT, n_eqF, nI_add, pk_mul, n_sub, z_ldn, z_san, z_bs, z_b2s, z_b3s, z_ocN, z_ocS, z_oxL, z_oxR, z_scL, z_scR, ↓reduceIte, st_170, st_171, st_172, st_173, Nat.zero_add, Nat.add_zero, Nat.zero_lt_succ, true_and, and_true, eq_self, fX6_countOwn_L1, fX3_usesOf, cIb, e3, hF2, if_neg q, if_neg q3]) (fun x => by simp (disch := first | omega | assumption) only [l_0, l_1, l_2, l_3, l_4, l_5, l_6, l_7, l_8, l_11, l_12, l_15, l_16, l_31, l_32, l_66, l_80, l_100, l_127, l_128, l_768, l_2304, l_2310, l_2316, l_2388, l_2394, l_2406, l_2418, l_2430, l_2558, l_2686, l_2814, l_2942, l_3070, l_3390, l_3394, l_3395, l_3396, l_3397, n_leT, n_leF, n_ltT, n_ltF, n_eqT, n_eqF, nI_add, pk_mul, n_sub, z_ldn, z_san, z_bs, z_b2s, z_b3s, z_ocN, z_ocS, z_oxL, z_oxR, z_scL, z_scR, ↓reduceIte, st_170, st_171, st_172, st_173, Nat.zero_add, Nat.add_zero, Nat.zero_lt_succ, true_and, and_true, eq_self, fX6_countOwn_L1])]
  simp (disch := first | omega | assumption) only [l_0, l_1, l_2, l_3, l_4, l_5, l_6, l_7, l_8, l_11, l_12, l_15, l_16, l_31, l_32, l_66, l_80, l_100, l_127, l_128, l_768, l_2304, l_2310, l_2316, l_2388, l_2394, l_2406, l_2418, l_2430, l_2558, l_2686, l_2814, l_2942, l_3070, l_3390, l_3394, l_3395, l_3396, l_3397, n_leT, n_leF, n_ltT, n_ltF, n_eqT, n_eqF, nI_add, pk_mul, n_sub, z_ldn, z_san, z_bs, z_b2s, z_b3s, z_ocN, z_ocS, z_oxL, z_oxR, z_scL, z_scR, ↓reduceIte, st_170, st_171, st_172, st_173, Nat.zero_add, Nat.add_zero, Nat.zero_lt_succ, true_and, and_true, eq_self]
theorem op_25 {n : Nat} {M : zM} (h : z_P n M) (a1 a2 a3 a4 a5 a6 : Int32) : ∃ M9, fL_c25 a1 a2 a3 a4 a5 a6 M = some (1, M9) ∧ z_P (n + 1) M9 := by
  obtain ⟨S, S0, hN, _, hR, _, hI, _⟩ := id h
  unfold fL_c25 fL_unique
  refine ro3 h ?_
  have hN1 := N1 hN
  rcases ds_cases a1 (I_ex hI) with ⟨d, hd, rfl, h1⟩ | h1
  · have hx := fun p (hp : p < 128) => I_tab hI (128 * d + p) (by omega)
    obtain ⟨M2, e1, e2⟩ := cOw (M := M) (S := S) (T := 1 + 9 + 3 * d + 1) (k := 128 * d) (hR.1 d (by omega)) hx (by omega) (fun b hb => (hR.2.2.2.1 b hb).2.2.2) (I_r2304 hI)
    obtain ⟨v, hv⟩ : ∃ v, v = nI (sumN (fun b => if z_in1 S (128 * d) b = 0 then 0 else if z_in1 S (128 * d) b = S (2814 + b) then 1 else 0) 128) := ⟨_, rfl⟩
    have hc : (z_st M2 174 0 v) 170 = M 170 := by rw [s_n (by decide)]; exact e2 170 (by decide)
    obtain ⟨M4, f1, f2⟩ := mBi (M := z_st (z_st M2 174 0 v) 169 4 (nI 0)) (S := S) (k := 128 * d) (wh := 1) (by decide) (N1' hN hc) (fun b hb => N2' hN hc _ (by omega) (by omega)) (I_r2304 hI) (by omega) hx
    refine Or.inr ⟨v, M2, M4, ?_, ?_, ?_, ?_, ?_⟩
    · unfold fX6_unique
      simp (disch := first | omega | assumption) only [l_0, l_1, l_2, l_3, l_4, l_5, l_6, l_7, l_8, l_11, l_12, l_15, l_16, l_31, l_32, l_66, l_80, l_100, l_127, l_128, l_768, l_2304, l_2310, l_2316, l_2388, l_2394, l_2406, l_2418, l_2430, l_2558, l_2686, l_2814, l_2942, l_3070, l_3390, l_3394, l_3395, l_3396, l_3397, n_leT, n_leF, n_ltT, n_ltF, n_eqT, n_eqF, nI_add, pk_mul, n_sub, z_ldn, z_san, z_bs, z_b2s, z_b3s, z_ocN, z_ocS, z_oxL, z_oxR, z_scL, z_scR, ↓reduceIte, st_170, st_171, st_172, st_173, Nat.zero_add, Nat.add_zero, Nat.zero_lt_succ, true_and, and_true, eq_self, cDs_ok hR.2.1 hd h1, z_gdp (kd1_ds hd), e1, hv]
    · unfold fX7_unique
      rw [mSet_ok (N1' hN hc) hd h1, z_bs, show (1 : Int32) = nI 1 from rfl, mFits0, z_b2s]
      simp (disch := first | omega | assumption) only [l_0, l_1, l_2, l_3, l_4, l_5, l_6, l_7, l_8, l_11, l_12, l_15, l_16, l_31, l_32, l_66, l_80, l_100, l_127, l_128, l_768, l_2304, l_2310, l_2316, l_2388, l_2394, l_2406, l_2418, l_2430, l_2558, l_2686, l_2814, l_2942, l_3070, l_3390, l_3394, l_3395, l_3396, l_3397, n_leT, n_leF, n_ltT, n_ltF, n_eqT, n_eqF, nI_add, pk_mul, n_sub, z_ldn, z_san, z_bs, z_b2s, z_b3s, z_ocN, z_ocS, z_oxL, z_oxR, z_scL, z_scR, ↓reduceIte, st_170, st_171, st_172, st_173, Nat.zero_add, Nat.add_zero, Nat.zero_lt_succ, true_and, and_true, eq_self]
      rw [f1]
      simp (disch := first | omega | assumption) only [l_0, l_1, l_2, l_3, l_4, l_5, l_6, l_7, l_8, l_11, l_12, l_15, l_16, l_31, l_32, l_66, l_80, l_100, l_127, l_128, l_768, l_2304, l_2310, l_2316, l_2388, l_2394, l_2406, l_2418, l_2430, l_2558, l_2686, l_2814, l_2942, l_3070, l_3390, l_3394, l_3395, l_3396, l_3397, n_leT, n_leF, n_ltT, n_ltF, n_eqT, n_eqF, nI_add, pk_mul, n_sub, z_ldn, z_san, z_bs, z_b2s, z_b3s, z_ocN, z_ocS, z_oxL, z_oxR, z_scL, z_scR, ↓reduceIte, st_170, st_171, st_172, st_173, Nat.zero_add, Nat.add_zero, Nat.zero_lt_succ, true_and, and_true, eq_self, hv, if_neg Nat.one_ne_zero]
    · rw [f2 _ (by decide), s_s, u_s]
      rfl
    · rw [f2 _ (by decide), s_n (by decide), s_s, u_s]
    · intro a q1 q2 q3 q4 q5 q6 q7
      rw [f2 a q4, s_n q3, s_n q6, e2 a q2]
  · refine Or.inl ⟨nI 1, nI 0, M, z_st M 169 4 (nI 1), by decide, ?_, ?_, by rw [s_s, u_s], z_same_st z_same_rfl (by omega)⟩
    · unfold fX6_unique
      simp (disch := first | omega | assumption) only [l_0, l_1, l_2, l_3, l_4, l_5, l_6, l_7, l_8, l_11, l_12, l_15, l_16, l_31, l_32, l_66, l_80, l_100, l_127, l_128, l_768, l_2304, l_2310, l_2316, l_2388, l_2394, l_2406, l_2418, l_2430, l_2558, l_2686, l_2814, l_2942, l_3070, l_3390, l_3394, l_3395, l_3396, l_3397, n_leT, n_leF, n_ltT, n_ltF, n_eqT, n_eqF, nI_add, pk_mul, n_sub, z_ldn, z_san, z_bs, z_b2s, z_b3s, z_ocN, z_ocS, z_oxL, z_oxR, z_scL, z_scR, ↓reduceIte, st_170, st_171, st_172, st_173, Nat.zero_add, Nat.add_zero, Nat.zero_lt_succ, true_and, and_true, eq_self, cDs_no hR.2.1 h1]
    · unfold fX7_unique
      rw [mSet_no hN1 h1, z_bs, mFits1, z_b2s]
      simp (disch := first | omega | assumption) only [l_0, l_1, l_2, l_3, l_4, l_5, l_6, l_7, l_8, l_11, l_12, l_15, l_16, l_31, l_32, l_66, l_80, l_100, l_127, l_128, l_768, l_2304, l_2310, l_2316, l_2388, l_2394, l_2406, l_2418, l_2430, l_2558, l_2686, l_2814, l_2942, l_3070, l_3390, l_3394, l_3395, l_3396, l_3397, n_leT, n_leF, n_ltT, n_ltF, n_eqT, n_eqF, nI_add, pk_mul, n_sub, z_ldn, z_san, z_bs, z_b2s, z_b3s, z_ocN, z_ocS, z_oxL, z_oxR, z_scL, z_scR, ↓reduceIte, st_170, st_171, st_172, st_173, Nat.zero_add, Nat.add_zero, Nat.zero_lt_succ, true_and, and_true, eq_self]
theorem op_26 {n : Nat} (hn : n < 512) {M : zM} (h : z_P n M) (a1 a2 a3 a4 a5 a6 : Int32) : ∃ M9, fL_c26 a1 a2 a3 a4 a5 a6 M = some (1, M9) ∧ z_P (n + 1) M9 := by
  obtain ⟨S, S0, hN, _, hR, _, hI, _⟩ := id h
  unfold fL_c26 fL_uniqueOfSnapshot
  refine ro3 h ?_
  have hN1 := N1 hN
  have hb := hb30 hI hn
  rcases sn_cases (S := S) a1 with ⟨s, hs, h1, rfl⟩ | h1
  · have hx := fun p (hp : p < 128) => I_tab hI (768 + 128 * s + p) (by omega)
    have e0 : 1 + 27 + 3 * s = 1 + 9 + 3 * (6 + s) := by omega
    have hT : ∀ p, p < 128 → M (1 + 27 + 3 * s + 1 + 1) p = nI (S (768 + 128 * s + p)) - nI 1 := fun p hp => by
      rw [e0, hR.1 (6 + s) (by omega) p hp, show 128 * (6 + s) + p = 768 + 128 * s + p by omega]
    obtain ⟨M2, e1, e2⟩ := cOw (M := M) (S := S) (T := 1 + 27 + 3 * s + 1) (k := 768 + 128 * s) hT hx (by omega) (fun b hb => (hR.2.2.2.1 b hb).2.2.2) (I_r2304 hI)
    obtain ⟨v, hv⟩ : ∃ v, v = nI (sumN (fun b => if z_in1 S (768 + 128 * s) b = 0 then 0 else if z_in1 S (768 + 128 * s) b = S (2814 + b) then 1 else 0) 128) := ⟨_, rfl⟩
    have hc : (z_st M2 174 0 v) 170 = M 170 := by rw [s_n (by decide)]; exact e2 170 (by decide)
    obtain ⟨M4, f1, f2⟩ := mBi (M := z_st (z_st M2 174 0 v) 169 4 (nI 0)) (S := S) (k := 768 + 128 * s) (wh := 1) (by decide) (N1' hN hc) (fun b hb => N2' hN hc _ (by omega) (by omega)) (I_r2304 hI) (by omega) hx
    refine Or.inr ⟨v, M2, M4, ?_, ?_, ?_, ?_, ?_⟩
    · unfold fX6_uniqueOfSnapshot
      simp (disch := first | omega | assumption) only [l_0, l_1, l_2, l_3, l_4, l_5, l_6, l_7, l_8, l_11, l_12, l_15, l_16, l_31, l_32, l_66, l_80, l_100, l_127, l_128, l_768, l_2304, l_2310, l_2316, l_2388, l_2394, l_2406, l_2418, l_2430, l_2558, l_2686, l_2814, l_2942, l_3070, l_3390, l_3394, l_3395, l_3396, l_3397, n_leT, n_leF, n_ltT, n_ltF, n_eqT, n_eqF, nI_add, pk_mul, n_sub, z_ldn, z_san, z_bs, z_b2s, z_b3s, z_ocN, z_ocS, z_oxL, z_oxR, z_scL, z_scR, ↓reduceIte, st_170, st_171, st_172, st_173, Nat.zero_add, Nat.add_zero, Nat.zero_lt_succ, true_and, and_true, eq_self, cSn_ok hR.2.2.1 (I_num hI) hb hs h1, z_gdp (kd1_sn hs), e1, hv]
    · unfold fX7_uniqueOfSnapshot
      rw [show (0 : Int32) = nI 0 from rfl, mSh_ok (N1' hN hc) (I_num hI) hb hs h1 (by decide) (by decide), z_b2s, if_neg (by decide), mSlot_ok (M := z_st (z_st M2 174 0 v) 169 4 (nI 0)) (N1' hN hc) (I_num hI) hb hs h1]
      simp (disch := first | omega | assumption) only [l_0, l_1, l_2, l_3, l_4, l_5, l_6, l_7, l_8, l_11, l_12, l_15, l_16, l_31, l_32, l_66, l_80, l_100, l_127, l_128, l_768, l_2304, l_2310, l_2316, l_2388, l_2394, l_2406, l_2418, l_2430, l_2558, l_2686, l_2814, l_2942, l_3070, l_3390, l_3394, l_3395, l_3396, l_3397, n_leT, n_leF, n_ltT, n_ltF, n_eqT, n_eqF, nI_add, pk_mul, n_sub, z_ldn, z_san, z_bs, z_b2s, z_b3s, z_ocN, z_ocS, z_oxL, z_oxR, z_scL, z_scR, ↓reduceIte, st_170, st_171, st_172, st_173, Nat.zero_add, Nat.add_zero, Nat.zero_lt_succ, true_and, and_true, eq_self]
      rw [f1]
      simp (disch := first | omega | assumption) only [l_0, l_1, l_2, l_3, l_4, l_5, l_6, l_7, l_8, l_11, l_12, l_15, l_16, l_31, l_32, l_66, l_80, l_100, l_127, l_128, l_768, l_2304, l_2310, l_2316, l_2388, l_2394, l_2406, l_2418, l_2430, l_2558, l_2686, l_2814, l_2942, l_3070, l_3390, l_3394, l_3395, l_3396, l_3397, n_leT, n_leF, n_ltT, n_ltF, n_eqT, n_eqF, nI_add, pk_mul, n_sub, z_ldn, z_san, z_bs, z_b2s, z_b3s, z_ocN, z_ocS, z_oxL, z_oxR, z_scL, z_scR, ↓reduceIte, st_170, st_171, st_172, st_173, Nat.zero_add, Nat.add_zero, Nat.zero_lt_succ, true_and, and_true, eq_self, hv, if_neg Nat.one_ne_zero]
    · rw [f2 _ (by decide), s_s, u_s]
      rfl
    · rw [f2 _ (by decide), s_n (by decide), s_s, u_s]
    · intro a q1 q2 q3 q4 q5 q6 q7
      rw [f2 a q4, s_n q3, s_n q6, e2 a q2]
  · refine Or.inl ⟨nI 1, nI 0, M, z_st M 169 4 (nI 1), by decide, ?_, ?_, by rw [s_s, u_s], z_same_st z_same_rfl (by omega)⟩
    · unfold fX6_uniqueOfSnapshot
      simp (disch := first | omega | assumption) only [l_0, l_1, l_2, l_3, l_4, l_5, l_6, l_7, l_8, l_11, l_12, l_15, l_16, l_31, l_32, l_66, l_80, l_100, l_127, l_128, l_768, l_2304, l_2310, l_2316, l_2388, l_2394, l_2406, l_2418, l_2430, l_2558, l_2686, l_2814, l_2942, l_3070, l_3390, l_3394, l_3395, l_3396, l_3397, n_leT, n_leF, n_ltT, n_ltF, n_eqT, n_eqF, nI_add, pk_mul, n_sub, z_ldn, z_san, z_bs, z_b2s, z_b3s, z_ocN, z_ocS, z_oxL, z_oxR, z_scL, z_scR, ↓reduceIte, st_170, st_171, st_172, st_173, Nat.zero_add, Nat.add_zero, Nat.zero_lt_succ, true_and, and_true, eq_self, cSn_no hR.2.2.1 h1]
    · unfold fX7_uniqueOfSnapshot
      rw [mSh_no1 hN1 hb h1, z_b2s]
      simp (disch := first | omega | assumption) only [l_0, l_1, l_2, l_3, l_4, l_5, l_6, l_7, l_8, l_11, l_12, l_15, l_16, l_31, l_32, l_66, l_80, l_100, l_127, l_128, l_768, l_2304, l_2310, l_2316, l_2388, l_2394, l_2406, l_2418, l_2430, l_2558, l_2686, l_2814, l_2942, l_3070, l_3390, l_3394, l_3395, l_3396, l_3397, n_leT, n_leF, n_ltT, n_ltF, n_eqT, n_eqF, nI_add, pk_mul, n_sub, z_ldn, z_san, z_bs, z_b2s, z_b3s, z_ocN, z_ocS, z_oxL, z_oxR, z_scL, z_scR, ↓reduceIte, st_170, st_171, st_172, st_173, Nat.zero_add, Nat.add_zero, Nat.zero_lt_succ, true_and, and_true, eq_self]
