/-! ===== replay ===== -/
theorem z_sb0 {M : zM} {k n i : Nat} (h : i < n) (hn : n < 2 ^ 31) : z_sb M k n (nI i) (nI 0) = some (z_st M k i (nI 0)) := z_sbn h hn (Or.inl rfl)
theorem z_sb1 {M : zM} {k n i : Nat} (h : i < n) (hn : n < 2 ^ 31) : z_sb M k n (nI i) (nI 1) = some (z_st M k i (nI 1)) := z_sbn h hn (Or.inr rfl)
/-- what the first j entries leave marked: F lists first block, blocks, mark -/
def repN (F : Nat → Nat × Nat × Nat) : Nat → Nat → Nat
  | 0, _ => 0
  | j + 1, p => if (F j).1 ≤ p ∧ p < (F j).1 + (F j).2.1 then (F j).2.2 else repN F j p
theorem repN_1 {F : Nat → Nat × Nat × Nat} (hF : ∀ j, (F j).2.2 ≤ 1) : ∀ {j p : Nat}, repN F j p ≤ 1
  | 0, _ => Nat.zero_le _
  | j + 1, p => by
    have h1 := hF j
    have h2 := repN_1 hF (j := j) (p := p)
    show (if (F j).1 ≤ p ∧ p < (F j).1 + (F j).2.1 then (F j).2.2 else repN F j p) ≤ 1
    split <;> omega
/-- the class: one entry -/
theorem cRe1 {X j f l m r : Nat} {M : zM} (hj : j < 66) (hl : f + l ≤ 32) (hm : m ≤ 1) (hr : r < 4) (e0 : M X 0 = nI (32 * r)) (e1 : M (X + 1) j = nI (32 * r + f)) (e2 : M (X + 2) j = nI l) (e3 : M (X + 3) j = nI m) : ∃ M', fX1_replayEntry X (nI j) M = some M' ∧ (∀ a, a ≠ X + 4 → M' a = M a) ∧ ∀ p, M' (X + 4) p = if f ≤ p ∧ p < f + l then nI m else M (X + 4) p := by
  unfold fX1_replayEntry fX1_firstOf fX1_blocksOf
  have hf : 32 * r + f - 32 * r = f := by omega
  have hm2 : m = 0 ∨ m = 1 := by omega
  obtain ⟨M', g1, g2, g3⟩ := z_loopR (f := fun s : Int32 × zM => fX1_replayEntry_L1 X (nI j) M (nI (32 * r + f)) (nI l) s.1 s.2) (X + 4) f f l (fun _ => nI m) (by omega) (s := nI f) (M := M) rfl (fun i M' hi hc _ => by
    have e3' : M' (X + 3) j = nI m := by rw [hc _ (by omega)]; exact e3
    rcases hm2 with rfl | rfl
    · simp (disch := first | omega | assumption) only [l_0, l_1, l_2, l_3, l_4, l_5, l_6, l_7, l_8, l_11, l_12, l_15, l_16, l_31, l_32, l_66, l_80, l_100, l_127, l_128, l_768, l_2304, l_2310, l_2316, l_2388, l_2394, l_2406, l_2418, l_2430, l_2558, l_2686, l_2814, l_2942, l_3070, l_3390, l_3394, l_3395, l_3396, l_3397, n_leT, n_leF, n_ltT, n_ltF, n_eqT, n_eqF, nI_add, pk_mul, n_sub, z_ldn, z_san, z_bs, z_b2s, z_b3s, z_ocN, z_ocS, z_oxL, z_oxR, z_scL, z_scR, ↓reduceIte, st_170, st_171, st_172, st_173, Nat.zero_add, Nat.add_zero, Nat.zero_lt_succ, true_and, and_true, eq_self, fX1_replayEntry_L1, fX1_isAllocation, fX1_isEntry, e0, hf, e3', z_sb0]
    · simp (disch := first | omega | assumption) only [l_0, l_1, l_2, l_3, l_4, l_5, l_6, l_7, l_8, l_11, l_12, l_15, l_16, l_31, l_32, l_66, l_80, l_100, l_127, l_128, l_768, l_2304, l_2310, l_2316, l_2388, l_2394, l_2406, l_2418, l_2430, l_2558, l_2686, l_2814, l_2942, l_3070, l_3390, l_3394, l_3395, l_3396, l_3397, n_leT, n_leF, n_ltT, n_ltF, n_eqT, n_eqF, nI_add, pk_mul, n_sub, z_ldn, z_san, z_bs, z_b2s, z_b3s, z_ocN, z_ocS, z_oxL, z_oxR, z_scL, z_scR, ↓reduceIte, st_170, st_171, st_172, st_173, Nat.zero_add, Nat.add_zero, Nat.zero_lt_succ, true_and, and_true, eq_self, fX1_replayEntry_L1, fX1_isAllocation, fX1_isEntry, e0, hf, e3', z_sb1]) (fun M' => by simp (disch := first | omega | assumption) only [l_0, l_1, l_2, l_3, l_4, l_5, l_6, l_7, l_8, l_11, l_12, l_15, l_16, l_31, l_32, l_66, l_80, l_100, l_127, l_128, l_768, l_2304, l_2310, l_2316, l_2388, l_2394, l_2406, l_2418, l_2430, l_2558, l_2686, l_2814, l_2942, l_3070, l_3390, l_3394, l_3395, l_3396, l_3397, n_leT, n_leF, n_ltT, n_ltF, n_eqT, n_eqF, nI_add, pk_mul, n_sub, z_ldn, z_san, z_bs, z_b2s, z_b3s, z_ocN, z_ocS, z_oxL, z_oxR, z_scL, z_scR, ↓reduceIte, st_170, st_171, st_172, st_173, Nat.zero_add, Nat.add_zero, Nat.zero_lt_succ, true_and, and_true, eq_self, fX1_replayEntry_L1, e0, hf])
  refine ⟨M', ?_, g2, g3⟩
  simp (disch := first | omega | assumption) only [l_0, l_1, l_2, l_3, l_4, l_5, l_6, l_7, l_8, l_11, l_12, l_15, l_16, l_31, l_32, l_66, l_80, l_100, l_127, l_128, l_768, l_2304, l_2310, l_2316, l_2388, l_2394, l_2406, l_2418, l_2430, l_2558, l_2686, l_2814, l_2942, l_3070, l_3390, l_3394, l_3395, l_3396, l_3397, n_leT, n_leF, n_ltT, n_ltF, n_eqT, n_eqF, nI_add, pk_mul, n_sub, z_ldn, z_san, z_bs, z_b2s, z_b3s, z_ocN, z_ocS, z_oxL, z_oxR, z_scL, z_scR, ↓reduceIte, st_170, st_171, st_172, st_173, Nat.zero_add, Nat.add_zero, Nat.zero_lt_succ, true_and, and_true, eq_self, fX1_isEntry, e1, e2, e0, hf, g1]
theorem cRp {X k r : Nat} {M : zM} {F : Nat → Nat × Nat × Nat} (hk : k ≤ 66) (hr : r < 4) (hm : ∀ j, (F j).2.2 ≤ 1) (hF : ∀ j, j < k → (F j).1 + (F j).2.1 ≤ 32 ∧ M (X + 1) j = nI (32 * r + (F j).1) ∧ M (X + 2) j = nI (F j).2.1 ∧ M (X + 3) j = nI (F j).2.2) (e0 : M X 0 = nI (32 * r)) (e4 : M X 4 = nI k) : ∃ M', fX1_countReplayed X M = some (nI (sumN (repN F k) 32), M') ∧ ∀ a, a ≠ X + 4 → M' a = M a := by
  unfold fX1_countReplayed
  obtain ⟨M1, g1, g2, g3⟩ := z_loopR (f := fun s : Int32 × zM => fX1_countReplayed_L1 X s.1 s.2) (X + 4) 0 0 32 (fun _ => nI 0) (by decide) (s := 0) (M := M) rfl (fun i M' hi _ _ => by simp (disch := first | omega | assumption) only [l_0, l_1, l_2, l_3, l_4, l_5, l_6, l_7, l_8, l_11, l_12, l_15, l_16, l_31, l_32, l_66, l_80, l_100, l_127, l_128, l_768, l_2304, l_2310, l_2316, l_2388, l_2394, l_2406, l_2418, l_2430, l_2558, l_2686, l_2814, l_2942, l_3070, l_3390, l_3394, l_3395, l_3396, l_3397, n_leT, n_leF, n_ltT, n_ltF, n_eqT, n_eqF, nI_add, pk_mul, n_sub, z_ldn, z_san, z_bs, z_b2s, z_b3s, z_ocN, z_ocS, z_oxL, z_oxR, z_scL, z_scR, ↓reduceIte, st_170, st_171, st_172, st_173, Nat.zero_add, Nat.add_zero, Nat.zero_lt_succ, true_and, and_true, eq_self, fX1_countReplayed_L1, z_sb0]) (fun M' => by simp (disch := first | omega | assumption) only [l_0, l_1, l_2, l_3, l_4, l_5, l_6, l_7, l_8, l_11, l_12, l_15, l_16, l_31, l_32, l_66, l_80, l_100, l_127, l_128, l_768, l_2304, l_2310, l_2316, l_2388, l_2394, l_2406, l_2418, l_2430, l_2558, l_2686, l_2814, l_2942, l_3070, l_3390, l_3394, l_3395, l_3396, l_3397, n_leT, n_leF, n_ltT, n_ltF, n_eqT, n_eqF, nI_add, pk_mul, n_sub, z_ldn, z_san, z_bs, z_b2s, z_b3s, z_ocN, z_ocS, z_oxL, z_oxR, z_scL, z_scR, ↓reduceIte, st_170, st_171, st_172, st_173, Nat.zero_add, Nat.add_zero, Nat.zero_lt_succ, true_and, and_true, eq_self, fX1_countReplayed_L1])
  obtain ⟨M2, h1, h2, h3⟩ := z_loopM (f := fun s : Int32 × zM => fX1_countReplayed_L2 X s.1 s.2) (fun j M' => (∀ a, a ≠ X + 4 → M' a = M a) ∧ ∀ p, p < 32 → M' (X + 4) p = nI (repN F j p)) (fun M' => (∀ a, a ≠ X + 4 → M' a = M a) ∧ ∀ p, p < 32 → M' (X + 4) p = nI (repN F k p)) 0 k (by omega) (s := 0) (M := M1) rfl ⟨g2, fun p hp => by rw [g3 p, if_pos ⟨Nat.zero_le p, by omega⟩]; rfl⟩ (fun j M' hj hI => by
    obtain ⟨hc, hp⟩ := hI
    obtain ⟨f1, f2, f3, f4⟩ := hF j hj
    obtain ⟨M3, q1, q2, q3⟩ := cRe1 (X := X) (M := M') (show j < 66 by omega) f1 (hm j) hr (by rw [hc _ (by omega)]; exact e0) (by rw [hc _ (by omega)]; exact f2) (by rw [hc _ (by omega)]; exact f3) (by rw [hc _ (by omega)]; exact f4)
    have e4' : M' X 4 = nI k := by rw [hc _ (by omega)]; exact e4
    refine ⟨M3, by simp (disch := first | omega | assumption) only [l_0, l_1, l_2, l_3, l_4, l_5, l_6, l_7, l_8, l_11, l_12, l_15, l_16, l_31, l_32, l_66, l_80, l_100, l_127, l_128, l_768, l_2304, l_2310, l_2316, l_2388, l_2394, l_2406, l_2418, l_2430, l_2558, l_2686, l_2814, l_2942, l_3070, l_3390, l_3394, l_3395, l_3396, l_3397, n_leT, n_leF, n_ltT, n_ltF, n_eqT, n_eqF, nI_add, pk_mul, n_sub, z_ldn, z_san, z_bs, z_b2s, z_b3s, z_ocN, z_ocS, z_oxL, z_oxR, z_scL, z_scR, ↓reduceIte, st_170, st_171, st_172, st_173, Nat.zero_add, Nat.add_zero, Nat.zero_lt_succ, true_and, and_true, eq_self, fX1_countReplayed_L2, e4', q1], fun a ha => (q2 a ha).trans (hc a ha), fun p hp2 => ?_⟩
    rw [q3 p, hp p hp2]
    show _ = nI (if (F j).1 ≤ p ∧ p < (F j).1 + (F j).2.1 then (F j).2.2 else repN F j p)
    split <;> rfl) (fun M' hI => by
    have e4' : M' X 4 = nI k := by rw [hI.1 _ (by omega)]; exact e4
    exact ⟨M', by simp (disch := first | omega | assumption) only [l_0, l_1, l_2, l_3, l_4, l_5, l_6, l_7, l_8, l_11, l_12, l_15, l_16, l_31, l_32, l_66, l_80, l_100, l_127, l_128, l_768, l_2304, l_2310, l_2316, l_2388, l_2394, l_2406, l_2418, l_2430, l_2558, l_2686, l_2814, l_2942, l_3070, l_3390, l_3394, l_3395, l_3396, l_3397, n_leT, n_leF, n_ltT, n_ltF, n_eqT, n_eqF, nI_add, pk_mul, n_sub, z_ldn, z_san, z_bs, z_b2s, z_b3s, z_ocN, z_ocS, z_oxL, z_oxR, z_scL, z_scR, ↓reduceIte, st_170, st_171, st_172, st_173, Nat.zero_add, Nat.add_zero, Nat.zero_lt_succ, true_and, and_true, eq_self, fX1_countReplayed_L2, e4'], hI⟩)
  refine ⟨M2, ?_, h2⟩
  rw [g1, z_bs, h1, z_bs]
  rw [z_loopS (f := fun s : Int32 × Int32 => fX1_countReplayed_L3 X M2 s.1 s.2) (repN F k) 0 32 (by decide) (s := (0, 0)) rfl (fun p x hp => by
    have q0 := h3 p hp
    have q1 := repN_1 hm (j := k) (p := p)
    have q2 : repN F k p = 0 ∨ repN F k p = 1 := by omega
    rcases q2 with q2 | q2
    · simp (disch := first | omega | assumption) only [l_0, l_1, l_2, l_3, l_4, l_5, l_6, l_7, l_8, l_11, l_12, l_15, l_16, l_31, l_32, l_66, l_80, l_100, l_127, l_128, l_768, l_2304, l_2310, l_2316, l_2388, l_2394, l_2406, l_2418, l_2430, l_2558, l_2686, l_2814, l_2942, l_3070, l_3390, l_3394, l_3395, l_3396, l_3397, n_leT, n_leF, n_ltT, n_ltF, n_eqT, n_eqF, nI_add, pk_mul, n_sub, z_ldn, z_san, z_bs, z_b2s, z_b3s, z_ocN, z_ocS, z_oxL, z_oxR, z_scL, z_scR, ↓reduceIte, st_170, st_171, st_172, st_173, Nat.zero_add, Nat.add_zero, Nat.zero_lt_succ, true_and, and_true, eq_self, fX1_countReplayed_L3, q0, q2]
    · simp (disch := first | omega | assumption) only [l_0, l_1, l_2, l_3, l_4, l_5, l_6, l_7, l_8, l_11, l_12, l_15, l_16, l_31, l_32, l_66, l_80, l_100, l_127, l_128, l_768, l_2304, l_2310, l_2316, l_2388, l_2394, l_2406, l_2418, l_2430, l_2558, l_2686, l_2814, l_2942, l_3070, l_3390, l_3394, l_3395, l_3396, l_3397, n_leT, n_leF, n_ltT, n_ltF, n_eqT, n_eqF, nI_add, pk_mul, n_sub, z_ldn, z_san, z_bs, z_b2s, z_b3s, z_ocN, z_ocS, z_oxL, z_oxR, z_scL, z_scR, ↓reduceIte, st_170, st_171, st_172, st_173, Nat.zero_add, Nat.add_zero, Nat.zero_lt_succ, true_and, and_true, eq_self, fX1_countReplayed_L3, q0, q2]) (fun x => by simp (disch := first | omega | assumption) only [l_0, l_1, l_2, l_3, l_4, l_5, l_6, l_7, l_8, l_11, l_12, l_15, l_16, l_31, l_32, l_66, l_80, l_100, l_127, l_128, l_768, l_2304, l_2310, l_2316, l_2388, l_2394, l_2406, l_2418, l_2430, l_2558, l_2686, l_2814, l_2942, l_3070, l_3390, l_3394, l_3395, l_3396, l_3397, n_leT, n_leF, n_ltT, n_ltF, n_eqT, n_eqF, nI_add, pk_mul, n_sub, z_ldn, z_san, z_bs, z_b2s, z_b3s, z_ocN, z_ocS, z_oxL, z_oxR, z_scL, z_scR, ↓reduceIte, st_170, st_171, st_172, st_173, Nat.zero_add, Nat.add_zero, Nat.zero_lt_succ, true_and, and_true, eq_self, fX1_countReplayed_L3])]
  simp (disch := first | omega | assumption) only [l_0, l_1, l_2, l_3, l_4, l_5, l_6, l_7, l_8, l_11, l_12, l_15, l_16, l_31, l_32, l_66, l_80, l_100, l_127, l_128, l_768, l_2304, l_2310, l_2316, l_2388, l_2394, l_2406, l_2418, l_2430, l_2558, l_2686, l_2814, l_2942, l_3070, l_3390, l_3394, l_3395, l_3396, l_3397, n_leT, n_leF, n_ltT, n_ltF, n_eqT, n_eqF, nI_add, pk_mul, n_sub, z_ldn, z_san, z_bs, z_b2s, z_b3s, z_ocN, z_ocS, z_oxL, z_oxR, z_scL, z_scR, ↓reduceIte, st_170, st_171, st_172, st_173, Nat.zero_add, Nat.add_zero, Nat.zero_lt_succ, true_and, and_true, eq_self]
theorem mRp {k r : Nat} {M : zM} {F : Nat → Nat × Nat × Nat} (hk : k ≤ 66) (hr : r < 4) (hm : ∀ j, (F j).2.2 ≤ 1) (hF : ∀ j, j < k → 1 ≤ (F j).2.1 ∧ (F j).1 + (F j).2.1 ≤ 32 ∧ z_entry (M (169 + 1) (3070 + 80 * r + j)) (32 * r + (F j).1) (F j).2.1 (nI (F j).2.2)) (e4 : M (169 + 1) (3390 + r) = nI k) : ∃ M', fX7_replay 169 (nI r) M = some (nI (sumN (repN F k) 32), M') ∧ ∀ a, a ≠ 172 → M' a = z_st M 169 4 (nI 0) a := by
  unfold fX7_replay
  rw [mRe_ok hr, z_b2s, if_neg (by decide)]
  obtain ⟨M1, g1, g2, g3⟩ := z_loopR (f := fun s : Int32 × zM => fX7_replay_L1 169 s.1 s.2) 172 0 0 32 (fun _ => nI 0) (by decide) (s := 0) (M := z_st M 169 4 (nI 0)) rfl (fun i M' hi _ _ => by simp (disch := first | omega | assumption) only [l_0, l_1, l_2, l_3, l_4, l_5, l_6, l_7, l_8, l_11, l_12, l_15, l_16, l_31, l_32, l_66, l_80, l_100, l_127, l_128, l_768, l_2304, l_2310, l_2316, l_2388, l_2394, l_2406, l_2418, l_2430, l_2558, l_2686, l_2814, l_2942, l_3070, l_3390, l_3394, l_3395, l_3396, l_3397, n_leT, n_leF, n_ltT, n_ltF, n_eqT, n_eqF, nI_add, pk_mul, n_sub, z_ldn, z_san, z_bs, z_b2s, z_b3s, z_ocN, z_ocS, z_oxL, z_oxR, z_scL, z_scR, ↓reduceIte, st_170, st_171, st_172, st_173, Nat.zero_add, Nat.add_zero, Nat.zero_lt_succ, true_and, and_true, eq_self, fX7_replay_L1]) (fun M' => by simp (disch := first | omega | assumption) only [l_0, l_1, l_2, l_3, l_4, l_5, l_6, l_7, l_8, l_11, l_12, l_15, l_16, l_31, l_32, l_66, l_80, l_100, l_127, l_128, l_768, l_2304, l_2310, l_2316, l_2388, l_2394, l_2406, l_2418, l_2430, l_2558, l_2686, l_2814, l_2942, l_3070, l_3390, l_3394, l_3395, l_3396, l_3397, n_leT, n_leF, n_ltT, n_ltF, n_eqT, n_eqF, nI_add, pk_mul, n_sub, z_ldn, z_san, z_bs, z_b2s, z_b3s, z_ocN, z_ocS, z_oxL, z_oxR, z_scL, z_scR, ↓reduceIte, st_170, st_171, st_172, st_173, Nat.zero_add, Nat.add_zero, Nat.zero_lt_succ, true_and, and_true, eq_self, fX7_replay_L1])
  obtain ⟨M2, h1, h2, h3⟩ := z_loopM (f := fun s : Int32 × zM => fX7_replay_L2 169 (nI r) s.1 s.2) (fun j M' => (∀ a, a ≠ 172 → M' a = z_st M 169 4 (nI 0) a) ∧ ∀ p, p < 32 → M' 172 p = nI (repN F j p)) (fun M' => (∀ a, a ≠ 172 → M' a = z_st M 169 4 (nI 0) a) ∧ ∀ p, p < 32 → M' 172 p = nI (repN F k p)) 0 k (by omega) (s := 0) (M := M1) rfl ⟨g2, fun p hp => by rw [g3 p, if_pos ⟨Nat.zero_le p, by omega⟩]; rfl⟩ (fun j M' hj hI => by
    obtain ⟨hc, hp⟩ := hI
    obtain ⟨f0, f1, f2⟩ := hF j hj
    have hN : M' (169 + 1) = M (169 + 1) := (hc 170 (by decide)).trans rfl
    have hm3 := hm j
    generalize hf : (F j).1 = f at *
    generalize hl : (F j).2.1 = l at *
    generalize hmm : (F j).2.2 = m at *
    have x1 : (100 * (32 * r + f) + l) / 100 = 32 * r + f := by omega
    have x2 : 100 * (32 * r + f) + l - (32 * r + f) * 100 = l := by omega
    have x3 : 32 * r + f - 32 * r = f := by omega
    have key : ∃ x20 : Int32, M' (169 + 1) (3070 + 80 * r + j) = x20 ∧ ((m = 1 ∧ nI 0 ≤ x20 ∧ nI (100 * (32 * r + f) + l) = x20) ∨ (m = 0 ∧ ¬ nI 0 ≤ x20 ∧ nI (100 * (32 * r + f) + l) = -x20)) := by
      rcases f2 with ⟨b7, b6⟩ | ⟨b7, b6⟩
      · have hm1 : m = 1 := (nI_eq (by omega) (by decide)).mp b7
        have q : nI 0 ≤ nI (100 * (32 * r + f) + l) := (nI_leI (by decide) (by omega)).mpr (Nat.zero_le _)
        exact ⟨_, by rw [hN]; exact b6, Or.inl ⟨hm1, q, rfl⟩⟩
      · have hm1 : m = 0 := (nI_eq (by omega) (by decide)).mp b7
        have q : ¬ nI 0 ≤ -nI (100 * (32 * r + f) + l) := of_eq_false (n_ng1 (by omega) (by omega))
        exact ⟨_, by rw [hN]; exact b6, Or.inr ⟨hm1, q, n_nn.symm⟩⟩
    obtain ⟨x20, k1, k3⟩ := key
    obtain ⟨M3, q1, q2, q3⟩ := z_loopR (f := fun s : Int32 × zM => fX7_replay_L4 169 (nI r) x20 (nI (100 * (32 * r + f) + l)) s.1 s.2) 172 f 0 l (fun _ => nI m) (by omega) (s := nI 0) (M := M') rfl (fun i M4 hi _ _ => by
      rcases k3 with ⟨rfl, k4, _⟩ | ⟨rfl, k4, _⟩
      · simp (disch := first | omega | assumption) only [l_0, l_1, l_2, l_3, l_4, l_5, l_6, l_7, l_8, l_11, l_12, l_15, l_16, l_31, l_32, l_66, l_80, l_100, l_127, l_128, l_768, l_2304, l_2310, l_2316, l_2388, l_2394, l_2406, l_2418, l_2430, l_2558, l_2686, l_2814, l_2942, l_3070, l_3390, l_3394, l_3395, l_3396, l_3397, n_leT, n_leF, n_ltT, n_ltF, n_eqT, n_eqF, nI_add, pk_mul, n_sub, z_ldn, z_san, z_bs, z_b2s, z_b3s, z_ocN, z_ocS, z_oxL, z_oxR, z_scL, z_scR, ↓reduceIte, st_170, st_171, st_172, st_173, Nat.zero_add, Nat.add_zero, Nat.zero_lt_succ, true_and, and_true, eq_self, fX7_replay_L4, pk_div, x1, x2, x3, k4]
      · simp (disch := first | omega | assumption) only [l_0, l_1, l_2, l_3, l_4, l_5, l_6, l_7, l_8, l_11, l_12, l_15, l_16, l_31, l_32, l_66, l_80, l_100, l_127, l_128, l_768, l_2304, l_2310, l_2316, l_2388, l_2394, l_2406, l_2418, l_2430, l_2558, l_2686, l_2814, l_2942, l_3070, l_3390, l_3394, l_3395, l_3396, l_3397, n_leT, n_leF, n_ltT, n_ltF, n_eqT, n_eqF, nI_add, pk_mul, n_sub, z_ldn, z_san, z_bs, z_b2s, z_b3s, z_ocN, z_ocS, z_oxL, z_oxR, z_scL, z_scR, ↓reduceIte, st_170, st_171, st_172, st_173, Nat.zero_add, Nat.add_zero, Nat.zero_lt_succ, true_and, and_true, eq_self, fX7_replay_L4, pk_div, x1, x2, x3, k4]) (fun M4 => by simp (disch := first | omega | assumption) only [l_0, l_1, l_2, l_3, l_4, l_5, l_6, l_7, l_8, l_11, l_12, l_15, l_16, l_31, l_32, l_66, l_80, l_100, l_127, l_128, l_768, l_2304, l_2310, l_2316, l_2388, l_2394, l_2406, l_2418, l_2430, l_2558, l_2686, l_2814, l_2942, l_3070, l_3390, l_3394, l_3395, l_3396, l_3397, n_leT, n_leF, n_ltT, n_ltF, n_eqT, n_eqF, nI_add, pk_mul, n_sub, z_ldn, z_san, z_bs, z_b2s, z_b3s, z_ocN, z_ocS, z_oxL, z_oxR, z_scL, z_scR, ↓reduceIte, st_170, st_171, st_172, st_173, Nat.zero_add, Nat.add_zero, Nat.zero_lt_succ, true_and, and_true, eq_self, fX7_replay_L4, pk_div, x1, x2, x3])
    have e4' : M' (169 + 1) (3390 + r) = nI k := by rw [hN]; exact e4
    refine ⟨M3, by
      rcases k3 with ⟨_, k4, k5⟩ | ⟨_, k4, k5⟩
      · rw [k5] at q1
        simp (disch := first | omega | assumption) only [l_0, l_1, l_2, l_3, l_4, l_5, l_6, l_7, l_8, l_11, l_12, l_15, l_16, l_31, l_32, l_66, l_80, l_100, l_127, l_128, l_768, l_2304, l_2310, l_2316, l_2388, l_2394, l_2406, l_2418, l_2430, l_2558, l_2686, l_2814, l_2942, l_3070, l_3390, l_3394, l_3395, l_3396, l_3397, n_leT, n_leF, n_ltT, n_ltF, n_eqT, n_eqF, nI_add, pk_mul, n_sub, z_ldn, z_san, z_bs, z_b2s, z_b3s, z_ocN, z_ocS, z_oxL, z_oxR, z_scL, z_scR, ↓reduceIte, st_170, st_171, st_172, st_173, Nat.zero_add, Nat.add_zero, Nat.zero_lt_succ, true_and, and_true, eq_self, fX7_replay_L2, e4', k1, k4, q1]
      · rw [k5] at q1
        simp (disch := first | omega | assumption) only [l_0, l_1, l_2, l_3, l_4, l_5, l_6, l_7, l_8, l_11, l_12, l_15, l_16, l_31, l_32, l_66, l_80, l_100, l_127, l_128, l_768, l_2304, l_2310, l_2316, l_2388, l_2394, l_2406, l_2418, l_2430, l_2558, l_2686, l_2814, l_2942, l_3070, l_3390, l_3394, l_3395, l_3396, l_3397, n_leT, n_leF, n_ltT, n_ltF, n_eqT, n_eqF, nI_add, pk_mul, n_sub, z_ldn, z_san, z_bs, z_b2s, z_b3s, z_ocN, z_ocS, z_oxL, z_oxR, z_scL, z_scR, ↓reduceIte, st_170, st_171, st_172, st_173, Nat.zero_add, Nat.add_zero, Nat.zero_lt_succ, true_and, and_true, eq_self, fX7_replay_L2, e4', k1, k4, q1], fun a ha => (q2 a ha).trans (hc a ha), fun p hp2 => ?_⟩
    rw [q3 p, hp p hp2]
    show _ = nI (if (F j).1 ≤ p ∧ p < (F j).1 + (F j).2.1 then (F j).2.2 else repN F j p)
    rw [hf, hl, hmm]
    split <;> rfl) (fun M' hI => by
    have e4' : M' (169 + 1) (3390 + r) = nI k := by rw [show M' (169 + 1) = M (169 + 1) from (hI.1 170 (by decide)).trans rfl]; exact e4
    exact ⟨M', by simp (disch := first | omega | assumption) only [l_0, l_1, l_2, l_3, l_4, l_5, l_6, l_7, l_8, l_11, l_12, l_15, l_16, l_31, l_32, l_66, l_80, l_100, l_127, l_128, l_768, l_2304, l_2310, l_2316, l_2388, l_2394, l_2406, l_2418, l_2430, l_2558, l_2686, l_2814, l_2942, l_3070, l_3390, l_3394, l_3395, l_3396, l_3397, n_leT, n_leF, n_ltT, n_ltF, n_eqT, n_eqF, nI_add, pk_mul, n_sub, z_ldn, z_san, z_bs, z_b2s, z_b3s, z_ocN, z_ocS, z_oxL, z_oxR, z_scL, z_scR, ↓reduceIte, st_170, st_171, st_172, st_173, Nat.zero_add, Nat.add_zero, Nat.zero_lt_succ, true_and, and_true, eq_self, fX7_replay_L2, e4'], hI⟩)
  refine ⟨M2, ?_, h2⟩
  rw [g1, z_bs, h1, z_bs]
  have h3' : ∀ p, p < 32 → M2 (169 + 3) p = nI (repN F k p) := h3
  rw [z_loopS (f := fun s : Int32 × Int32 => fX7_replay_L3 169 M2 s.1 s.2) (repN F k) 0 32 (by decide) (s := (0, 0)) rfl (fun p x hp => by
    simp (disch := first | omega | assumption) only [l_0, l_1, l_2, l_3, l_4, l_5, l_6, l_7, l_8, l_11, l_12, l_15, l_16, l_31, l_32, l_66, l_80, l_100, l_127, l_128, l_768, l_2304, l_2310, l_2316, l_2388, l_2394, l_2406, l_2418, l_2430, l_2558, l_2686, l_2814, l_2942, l_3070, l_3390, l_3394, l_3395, l_3396, l_3397, n_leT, n_leF, n_ltT, n_ltF, n_eqT, n_eqF, nI_add, pk_mul, n_sub, z_ldn, z_san, z_bs, z_b2s, z_b3s, z_ocN, z_ocS, z_oxL, z_oxR, z_scL, z_scR, ↓reduceIte, st_170, st_171, st_172, st_173, Nat.zero_add, Nat.add_zero, Nat.zero_lt_succ, true_and, and_true, eq_self, fX7_replay_L3, h3']) (fun x => by simp (disch := first | omega | assumption) only [l_0, l_1, l_2, l_3, l_4, l_5, l_6, l_7, l_8, l_11, l_12, l_15, l_16, l_31, l_32, l_66, l_80, l_100, l_127, l_128, l_768, l_2304, l_2310, l_2316, l_2388, l_2394, l_2406, l_2418, l_2430, l_2558, l_2686, l_2814, l_2942, l_3070, l_3390, l_3394, l_3395, l_3396, l_3397, n_leT, n_leF, n_ltT, n_ltF, n_eqT, n_eqF, nI_add, pk_mul, n_sub, z_ldn, z_san, z_bs, z_b2s, z_b3s, z_ocN, z_ocS, z_oxL, z_oxR, z_scL, z_scR, ↓reduceIte, st_170, st_171, st_172, st_173, Nat.zero_add, Nat.add_zero, Nat.zero_lt_succ, true_and, and_true, eq_self, fX7_replay_L3])]
  simp (disch := first | omega | assumption) only [l_0, l_1, l_2, l_3, l_4, l_5, l_6, l_7, l_8, l_11, l_12, l_15, l_16, l_31, l_32, l_66, l_80, l_100, l_127, l_128, l_768, l_2304, l_2310, l_2316, l_2388, l_2394, l_2406, l_2418, l_2430, l_2558, l_2686, l_2814, l_2942, l_3070, l_3390, l_3394, l_3395, l_3396, l_3397, n_leT, n_leF, n_ltT, n_ltF, n_eqT, n_eqF, nI_add, pk_mul, n_sub, z_ldn, z_san, z_bs, z_b2s, z_b3s, z_ocN, z_ocS, z_oxL, z_oxR, z_scL, z_scR, ↓reduceIte, st_170, st_171, st_172, st_173, Nat.zero_add, Nat.add_zero, Nat.zero_lt_succ, true_and, and_true, eq_self]
theorem op_36 {n : Nat} {M : zM} (h : z_P n M) (a1 a2 a3 a4 a5 a6 : Int32) : ∃ M9, fL_c36 a1 a2 a3 a4 a5 a6 M = some (1, M9) ∧ z_P (n + 1) M9 := by
  obtain ⟨S, S0, hN, _, hR, _, hI, _⟩ := id h
  unfold fL_c36 fL_replay
  refine ro3 h ?_
  rcases is_cases a1 4 with ⟨r, hr, rfl⟩ | h1
  · have hl := I_log hI r hr
    obtain ⟨F, hF⟩ := Classical.axiomOfChoice (r := fun (j : Nat) (q : Nat × Nat × Nat) => q.2.2 ≤ 1 ∧ (j < S (3390 + r) → 1 ≤ q.2.1 ∧ q.1 + q.2.1 ≤ 32 ∧ M (1 + 63 + 5 * r + 1) j = nI (32 * r + q.1) ∧ M (1 + 63 + 5 * r + 2) j = nI q.2.1 ∧ M (1 + 63 + 5 * r + 3) j = nI q.2.2 ∧ z_entry (M 170 (3070 + 80 * r + j)) (32 * r + q.1) q.2.1 (nI q.2.2))) (fun j => by
      by_cases hj : j < S (3390 + r)
      · obtain ⟨f, l, b1, b2, b3, b4, b5, b6⟩ := (hR.2.2.2.2.1 r hr).2.2 j hj
        have e : 32 * r + (f - 32 * r) = f := by omega
        rcases id b6 with ⟨b7, _⟩ | ⟨b7, _⟩
        · exact ⟨(f - 32 * r, l, 1), Nat.le_refl 1, fun _ => ⟨b1, by show f - 32 * r + l ≤ 32; omega, by show _ = nI (32 * r + (f - 32 * r)); rw [e]; exact b4, b5, b7, by show z_entry _ (32 * r + (f - 32 * r)) l (nI 1); rw [e, ← b7]; exact b6⟩⟩
        · exact ⟨(f - 32 * r, l, 0), Nat.zero_le 1, fun _ => ⟨b1, by show f - 32 * r + l ≤ 32; omega, by show _ = nI (32 * r + (f - 32 * r)); rw [e]; exact b4, b5, b7, by show z_entry _ (32 * r + (f - 32 * r)) l (nI 0); rw [e, ← b7]; exact b6⟩⟩
      · exact ⟨(0, 0, 0), by decide, fun q => absurd q hj⟩)
    obtain ⟨M2, c1, c2⟩ := cRp (X := 1 + 63 + 5 * r) (M := M) (k := S (3390 + r)) (F := F) (by omega) hr (fun j => (hF j).1) (fun j hj => ⟨((hF j).2 hj).2.1, ((hF j).2 hj).2.2.1, ((hF j).2 hj).2.2.2.1, ((hF j).2 hj).2.2.2.2.1⟩) (hR.2.2.2.2.1 r hr).1 (hR.2.2.2.2.1 r hr).2.1
    obtain ⟨v, hv⟩ : ∃ v, v = nI (sumN (repN F (S (3390 + r))) 32) := ⟨_, rfl⟩
    have hc : (z_st M2 174 0 v) 170 = M 170 := by rw [s_n (by decide)]; exact c2 170 (by omega)
    obtain ⟨M4, m1, m2⟩ := mRp (r := r) (M := z_st M2 174 0 v) (k := S (3390 + r)) (F := F) (by omega) hr (fun j => (hF j).1) (fun j hj => ⟨((hF j).2 hj).1, ((hF j).2 hj).2.1, by rw [show (169 : Nat) + 1 = 170 from rfl, hc]; exact ((hF j).2 hj).2.2.2.2.2⟩) (N3' hN hc _ (by omega) (by omega))
    refine Or.inr ⟨v, M2, M4, ?_, ?_, ?_, ?_, ?_⟩
    · unfold fX6_replay
      simp (disch := first | omega | assumption) only [l_0, l_1, l_2, l_3, l_4, l_5, l_6, l_7, l_8, l_11, l_12, l_15, l_16, l_31, l_32, l_66, l_80, l_100, l_127, l_128, l_768, l_2304, l_2310, l_2316, l_2388, l_2394, l_2406, l_2418, l_2430, l_2558, l_2686, l_2814, l_2942, l_3070, l_3390, l_3394, l_3395, l_3396, l_3397, n_leT, n_leF, n_ltT, n_ltF, n_eqT, n_eqF, nI_add, pk_mul, n_sub, z_ldn, z_san, z_bs, z_b2s, z_b3s, z_ocN, z_ocS, z_oxL, z_oxR, z_scL, z_scR, ↓reduceIte, st_170, st_171, st_172, st_173, Nat.zero_add, Nat.add_zero, Nat.zero_lt_succ, true_and, and_true, eq_self, cLo_ok hr, z_gdp (kd1_lg hr), c1, hv]
    · rw [m1, hv]
    · rw [m2 _ (by decide), s_s, u_s]
      rfl
    · rw [m2 _ (by decide), s_n (by decide), s_s, u_s]
    · intro a q1 q2 q3 q4 q5 q6 q7
      rw [m2 a q4, s_n q3, s_n q6, c2 a (by have := q7 r hr; omega)]
  · refine Or.inl ⟨nI 1, nI 0, M, z_st M 169 4 (nI 1), by decide, ?_, ?_, by rw [s_s, u_s], z_same_st z_same_rfl (by omega)⟩
    · unfold fX6_replay
      simp (disch := first | omega | assumption) only [l_0, l_1, l_2, l_3, l_4, l_5, l_6, l_7, l_8, l_11, l_12, l_15, l_16, l_31, l_32, l_66, l_80, l_100, l_127, l_128, l_768, l_2304, l_2310, l_2316, l_2388, l_2394, l_2406, l_2418, l_2430, l_2558, l_2686, l_2814, l_2942, l_3070, l_3390, l_3394, l_3395, l_3396, l_3397, n_leT, n_leF, n_ltT, n_ltF, n_eqT, n_eqF, nI_add, pk_mul, n_sub, z_ldn, z_san, z_bs, z_b2s, z_b3s, z_ocN, z_ocS, z_oxL, z_oxR, z_scL, z_scR, ↓reduceIte, st_170, st_171, st_172, st_173, Nat.zero_add, Nat.add_zero, Nat.zero_lt_succ, true_and, and_true, eq_self, cLo_no h1]
    · unfold fX7_replay
      rw [mRe_no h1, z_b2s]
      simp (disch := first | omega | assumption) only [l_0, l_1, l_2, l_3, l_4, l_5, l_6, l_7, l_8, l_11, l_12, l_15, l_16, l_31, l_32, l_66, l_80, l_100, l_127, l_128, l_768, l_2304, l_2310, l_2316, l_2388, l_2394, l_2406, l_2418, l_2430, l_2558, l_2686, l_2814, l_2942, l_3070, l_3390, l_3394, l_3395, l_3396, l_3397, n_leT, n_leF, n_ltT, n_ltF, n_eqT, n_eqF, nI_add, pk_mul, n_sub, z_ldn, z_san, z_bs, z_b2s, z_b3s, z_ocN, z_ocS, z_oxL, z_oxR, z_scL, z_scR, ↓reduceIte, st_170, st_171, st_172, st_173, Nat.zero_add, Nat.add_zero, Nat.zero_lt_succ, true_and, and_true, eq_self]
