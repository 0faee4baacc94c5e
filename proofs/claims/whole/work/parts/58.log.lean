/-! ===== the class's logs at a commit ===== -/
theorem cAl2 {sp b : Nat} {M : zM} {st : Nat → Nat} (hst : ∀ c, c < 128 → M (sp + 1) c = nI (st c) ∧ st c ≤ 2) (hb : b < 128) : fX3_isAllocated sp (nI b) M = some (nI (if st b = 1 then 1 else 0)) := by
  obtain ⟨h1, h2⟩ := hst b hb
  unfold fX3_isAllocated
  by_cases q : st b = 1
  · rw [if_pos q]
    simp (disch := first | omega | assumption) only [l_0, l_1, l_2, l_3, l_4, l_5, l_6, l_7, l_8, l_11, l_12, l_15, l_16, l_31, l_32, l_66, l_80, l_100, l_127, l_128, l_768, l_2304, l_2310, l_2316, l_2388, l_2394, l_2406, l_2418, l_2430, l_2558, l_2686, l_2814, l_2942, l_3070, l_3390, l_3394, l_3395, l_3396, l_3397, n_leT, n_leF, n_ltT, n_ltF, n_eqT, n_eqF, nI_add, pk_mul, n_sub, z_ldn, z_san, z_bs, z_b2s, z_b3s, z_ocN, z_ocS, z_oxL, z_oxR, z_scL, z_scR, ↓reduceIte, st_170, st_171, st_172, st_173, Nat.zero_add, Nat.add_zero, Nat.zero_lt_succ, true_and, and_true, eq_self, cIb, h1, q]
  · rw [if_neg q]
    simp (disch := first | omega | assumption) only [l_0, l_1, l_2, l_3, l_4, l_5, l_6, l_7, l_8, l_11, l_12, l_15, l_16, l_31, l_32, l_66, l_80, l_100, l_127, l_128, l_768, l_2304, l_2310, l_2316, l_2388, l_2394, l_2406, l_2418, l_2430, l_2558, l_2686, l_2814, l_2942, l_3070, l_3390, l_3394, l_3395, l_3396, l_3397, n_leT, n_leF, n_ltT, n_ltF, n_eqT, n_eqF, nI_add, pk_mul, n_sub, z_ldn, z_san, z_bs, z_b2s, z_b3s, z_ocN, z_ocS, z_oxL, z_oxR, z_scL, z_scR, ↓reduceIte, st_170, st_171, st_172, st_173, Nat.zero_add, Nat.add_zero, Nat.zero_lt_succ, true_and, and_true, eq_self, cIb, h1]
theorem cMk {X a b r : Nat} {M : zM} {g sa sb : Nat → Nat} (hr : r < 4) (h0 : M X 0 = nI (32 * r)) (ha : ∀ c, c < 128 → M (a + 1) c = nI (sa c) ∧ sa c ≤ 2) (hb : ∀ c, c < 128 → M (b + 1) c = nI (sb c) ∧ sb c ≤ 2) (da : a + 1 < X ∨ X + 5 ≤ a + 1) (db : b + 1 < X ∨ X + 5 ≤ b + 1) (hg : ∀ p, p < 32 → g p = if sa (32 * r + p) = 1 ∧ sb (32 * r + p) ≠ 1 then 1 else 0) : ∃ M', fX1_markChanges X a b M = some M' ∧ (∀ c, c ≠ X + 4 → M' c = M c) ∧ ∀ p, p < 32 → M' (X + 4) p = nI (g p) := by
  unfold fX1_markChanges
  obtain ⟨M', e1, e2, e3⟩ := z_loopR (f := fun x : Int32 × zM => fX1_markChanges_L1 X a b x.1 x.2) (X + 4) 0 0 32 (fun p => nI (g p)) (by decide) (s := 0) (M := M) rfl (fun i M' hi q1 _ => by
    have c0 : M' X 0 = nI (32 * r) := by rw [q1 _ (by omega)]; exact h0
    have c1 := cAl2 (sp := a) (M := M') (b := 32 * r + i) (fun c hc => by rw [q1 _ (by omega)]; exact ha c hc) (by omega)
    have c2 := cAl2 (sp := b) (M := M') (b := 32 * r + i) (fun c hc => by rw [q1 _ (by omega)]; exact hb c hc) (by omega)
    have c3 := hg i hi
    by_cases y1 : sa (32 * r + i) = 1
    · rw [if_pos y1] at c1
      by_cases y2 : sb (32 * r + i) = 1
      · rw [if_pos y2] at c2
        rw [if_neg (fun x => x.2 y2)] at c3
        simp (disch := first | omega | assumption) only [l_0, l_1, l_2, l_3, l_4, l_5, l_6, l_7, l_8, l_11, l_12, l_15, l_16, l_31, l_32, l_66, l_80, l_100, l_127, l_128, l_768, l_2304, l_2310, l_2316, l_2388, l_2394, l_2406, l_2418, l_2430, l_2558, l_2686, l_2814, l_2942, l_3070, l_3390, l_3394, l_3395, l_3396, l_3397, n_leT, n_leF, n_ltT, n_ltF, n_eqT, n_eqF, nI_add, pk_mul, n_sub, z_ldn, z_san, z_bs, z_b2s, z_b3s, z_ocN, z_ocS, z_oxL, z_oxR, z_scL, z_scR, ↓reduceIte, st_170, st_171, st_172, st_173, Nat.zero_add, Nat.add_zero, Nat.zero_lt_succ, true_and, and_true, eq_self, fX1_markChanges_L1, c0, c1, c2, c3, z_sb0]
      · rw [if_neg y2] at c2
        rw [if_pos ⟨y1, y2⟩] at c3
        simp (disch := first | omega | assumption) only [l_0, l_1, l_2, l_3, l_4, l_5, l_6, l_7, l_8, l_11, l_12, l_15, l_16, l_31, l_32, l_66, l_80, l_100, l_127, l_128, l_768, l_2304, l_2310, l_2316, l_2388, l_2394, l_2406, l_2418, l_2430, l_2558, l_2686, l_2814, l_2942, l_3070, l_3390, l_3394, l_3395, l_3396, l_3397, n_leT, n_leF, n_ltT, n_ltF, n_eqT, n_eqF, nI_add, pk_mul, n_sub, z_ldn, z_san, z_bs, z_b2s, z_b3s, z_ocN, z_ocS, z_oxL, z_oxR, z_scL, z_scR, ↓reduceIte, st_170, st_171, st_172, st_173, Nat.zero_add, Nat.add_zero, Nat.zero_lt_succ, true_and, and_true, eq_self, fX1_markChanges_L1, c0, c1, c2, c3, z_sb1]
    · rw [if_neg y1] at c1
      rw [if_neg (fun x => y1 x.1)] at c3
      simp (disch := first | omega | assumption) only [l_0, l_1, l_2, l_3, l_4, l_5, l_6, l_7, l_8, l_11, l_12, l_15, l_16, l_31, l_32, l_66, l_80, l_100, l_127, l_128, l_768, l_2304, l_2310, l_2316, l_2388, l_2394, l_2406, l_2418, l_2430, l_2558, l_2686, l_2814, l_2942, l_3070, l_3390, l_3394, l_3395, l_3396, l_3397, n_leT, n_leF, n_ltT, n_ltF, n_eqT, n_eqF, nI_add, pk_mul, n_sub, z_ldn, z_san, z_bs, z_b2s, z_b3s, z_ocN, z_ocS, z_oxL, z_oxR, z_scL, z_scR, ↓reduceIte, st_170, st_171, st_172, st_173, Nat.zero_add, Nat.add_zero, Nat.zero_lt_succ, true_and, and_true, eq_self, fX1_markChanges_L1, c0, c1, c3, z_sb0]) (fun M' => by simp (disch := first | omega | assumption) only [l_0, l_1, l_2, l_3, l_4, l_5, l_6, l_7, l_8, l_11, l_12, l_15, l_16, l_31, l_32, l_66, l_80, l_100, l_127, l_128, l_768, l_2304, l_2310, l_2316, l_2388, l_2394, l_2406, l_2418, l_2430, l_2558, l_2686, l_2814, l_2942, l_3070, l_3390, l_3394, l_3395, l_3396, l_3397, n_leT, n_leF, n_ltT, n_ltF, n_eqT, n_eqF, nI_add, pk_mul, n_sub, z_ldn, z_san, z_bs, z_b2s, z_b3s, z_ocN, z_ocS, z_oxL, z_oxR, z_scL, z_scR, ↓reduceIte, st_170, st_171, st_172, st_173, Nat.zero_add, Nat.add_zero, Nat.zero_lt_succ, true_and, and_true, eq_self, fX1_markChanges_L1])
  refine ⟨M', by rw [e1]; rfl, e2, fun p hp => ?_⟩
  rw [e3 p, if_pos ⟨Nat.zero_le _, by omega⟩, Nat.sub_zero]
theorem cMa {X a r : Nat} {M : zM} {g sa : Nat → Nat} (hr : r < 4) (h0 : M X 0 = nI (32 * r)) (ha : ∀ c, c < 128 → M (a + 1) c = nI (sa c) ∧ sa c ≤ 2) (da : a + 1 < X ∨ X + 5 ≤ a + 1) (hg : ∀ p, p < 32 → g p = if sa (32 * r + p) = 1 then 1 else 0) : ∃ M', fX1_markAllocated X a M = some M' ∧ (∀ c, c ≠ X + 4 → M' c = M c) ∧ ∀ p, p < 32 → M' (X + 4) p = nI (g p) := by
  unfold fX1_markAllocated
  obtain ⟨M', e1, e2, e3⟩ := z_loopR (f := fun x : Int32 × zM => fX1_markAllocated_L1 X a x.1 x.2) (X + 4) 0 0 32 (fun p => nI (g p)) (by decide) (s := 0) (M := M) rfl (fun i M' hi q1 _ => by
    have c0 : M' X 0 = nI (32 * r) := by rw [q1 _ (by omega)]; exact h0
    have c1 := cAl2 (sp := a) (M := M') (b := 32 * r + i) (fun c hc => by rw [q1 _ (by omega)]; exact ha c hc) (by omega)
    have c3 := hg i hi
    by_cases y1 : sa (32 * r + i) = 1
    · rw [if_pos y1] at c1 c3
      simp (disch := first | omega | assumption) only [l_0, l_1, l_2, l_3, l_4, l_5, l_6, l_7, l_8, l_11, l_12, l_15, l_16, l_31, l_32, l_66, l_80, l_100, l_127, l_128, l_768, l_2304, l_2310, l_2316, l_2388, l_2394, l_2406, l_2418, l_2430, l_2558, l_2686, l_2814, l_2942, l_3070, l_3390, l_3394, l_3395, l_3396, l_3397, n_leT, n_leF, n_ltT, n_ltF, n_eqT, n_eqF, nI_add, pk_mul, n_sub, z_ldn, z_san, z_bs, z_b2s, z_b3s, z_ocN, z_ocS, z_oxL, z_oxR, z_scL, z_scR, ↓reduceIte, st_170, st_171, st_172, st_173, Nat.zero_add, Nat.add_zero, Nat.zero_lt_succ, true_and, and_true, eq_self, fX1_markAllocated_L1, c0, c1, c3, z_sb1]
    · rw [if_neg y1] at c1 c3
      simp (disch := first | omega | assumption) only [l_0, l_1, l_2, l_3, l_4, l_5, l_6, l_7, l_8, l_11, l_12, l_15, l_16, l_31, l_32, l_66, l_80, l_100, l_127, l_128, l_768, l_2304, l_2310, l_2316, l_2388, l_2394, l_2406, l_2418, l_2430, l_2558, l_2686, l_2814, l_2942, l_3070, l_3390, l_3394, l_3395, l_3396, l_3397, n_leT, n_leF, n_ltT, n_ltF, n_eqT, n_eqF, nI_add, pk_mul, n_sub, z_ldn, z_san, z_bs, z_b2s, z_b3s, z_ocN, z_ocS, z_oxL, z_oxR, z_scL, z_scR, ↓reduceIte, st_170, st_171, st_172, st_173, Nat.zero_add, Nat.add_zero, Nat.zero_lt_succ, true_and, and_true, eq_self, fX1_markAllocated_L1, c0, c1, c3, z_sb0]) (fun M' => by simp (disch := first | omega | assumption) only [l_0, l_1, l_2, l_3, l_4, l_5, l_6, l_7, l_8, l_11, l_12, l_15, l_16, l_31, l_32, l_66, l_80, l_100, l_127, l_128, l_768, l_2304, l_2310, l_2316, l_2388, l_2394, l_2406, l_2418, l_2430, l_2558, l_2686, l_2814, l_2942, l_3070, l_3390, l_3394, l_3395, l_3396, l_3397, n_leT, n_leF, n_ltT, n_ltF, n_eqT, n_eqF, nI_add, pk_mul, n_sub, z_ldn, z_san, z_bs, z_b2s, z_b3s, z_ocN, z_ocS, z_oxL, z_oxR, z_scL, z_scR, ↓reduceIte, st_170, st_171, st_172, st_173, Nat.zero_add, Nat.add_zero, Nat.zero_lt_succ, true_and, and_true, eq_self, fX1_markAllocated_L1])
  refine ⟨M', by rw [e1]; rfl, e2, fun p hp => ?_⟩
  rw [e3 p, if_pos ⟨Nat.zero_le _, by omega⟩, Nat.sub_zero]
theorem cApp {X k l m : Nat} {a : Int32} {M : zM} (h4 : M X 4 = nI k) (hk : k < 66) (hl : 1 ≤ l) (hl2 : l ≤ 32) (hm : m ≤ 1) : fX1_append X a (nI l) (nI m) M = some (z_st (z_st (z_st (z_st M (X + 1) k a) (X + 2) k (nI l)) (X + 3) k (nI m)) X 4 (nI (k + 1))) := by
  unfold fX1_append
  have e0 : fX1_isEntry (nI k) M = some (nI 1) := by
    unfold fX1_isEntry
    simp (disch := first | omega | assumption) only [l_0, l_1, l_2, l_3, l_4, l_5, l_6, l_7, l_8, l_11, l_12, l_15, l_16, l_31, l_32, l_66, l_80, l_100, l_127, l_128, l_768, l_2304, l_2310, l_2316, l_2388, l_2394, l_2406, l_2418, l_2430, l_2558, l_2686, l_2814, l_2942, l_3070, l_3390, l_3394, l_3395, l_3396, l_3397, n_leT, n_leF, n_ltT, n_ltF, n_eqT, n_eqF, nI_add, pk_mul, n_sub, z_ldn, z_san, z_bs, z_b2s, z_b3s, z_ocN, z_ocS, z_oxL, z_oxR, z_scL, z_scR, ↓reduceIte, st_170, st_171, st_172, st_173, Nat.zero_add, Nat.add_zero, Nat.zero_lt_succ, true_and, and_true, eq_self]
  obtain ⟨Ma, hMa⟩ : ∃ Ma, Ma = z_st M (X + 1) k a := ⟨_, rfl⟩
  have ca : Ma X 4 = nI k := by rw [hMa, s_n (by omega)]; exact h4
  obtain ⟨Mb, hMb⟩ : ∃ Mb, Mb = z_st Ma (X + 2) k (nI l) := ⟨_, rfl⟩
  have cb : Mb X 4 = nI k := by rw [hMb, s_n (by omega)]; exact ca
  obtain ⟨Mc, hMc⟩ : ∃ Mc, Mc = z_st Mb (X + 3) k (nI m) := ⟨_, rfl⟩
  have cc : Mc X 4 = nI k := by rw [hMc, s_n (by omega)]; exact cb
  have hsb : z_sb Mb (X + 3) 66 (nI k) (nI m) = some Mc := by
    rw [hMc]
    by_cases q : m = 0
    · rw [q]
      exact z_sb0 hk (by decide)
    · rw [show m = 1 by omega]
      exact z_sb1 hk (by decide)
  simp (disch := first | omega | assumption) only [l_0, l_1, l_2, l_3, l_4, l_5, l_6, l_7, l_8, l_11, l_12, l_15, l_16, l_31, l_32, l_66, l_80, l_100, l_127, l_128, l_768, l_2304, l_2310, l_2316, l_2388, l_2394, l_2406, l_2418, l_2430, l_2558, l_2686, l_2814, l_2942, l_3070, l_3390, l_3394, l_3395, l_3396, l_3397, n_leT, n_leF, n_ltT, n_ltF, n_eqT, n_eqF, nI_add, pk_mul, n_sub, z_ldn, z_san, z_bs, z_b2s, z_b3s, z_ocN, z_ocS, z_oxL, z_oxR, z_scL, z_scR, ↓reduceIte, st_170, st_171, st_172, st_173, Nat.zero_add, Nat.add_zero, Nat.zero_lt_succ, true_and, and_true, eq_self, h4, e0, ← hMa, ca, ← hMb, cb, hsb, cc, ← hMc]
/-- the log X while runs are appended: those that ended before place p -/
def y_rn (X : Nat) (M0 : zM) (k r m : Nat) (g : Nat → Nat) (p : Nat) (M' : zM) : Prop := M' X 4 = nI (k + (rl g p).1) ∧ (∀ j, j ≠ 4 → M' X j = M0 X j) ∧ (∀ q j, 1 ≤ q → q ≤ 3 → j < k → M' (X + q) j = M0 (X + q) j) ∧ (∀ j, j < (rl g p).1 → M' (X + 1) (k + j) = nI (32 * r + ((rl g p).2 j).1) ∧ M' (X + 2) (k + j) = nI ((rl g p).2 j).2 ∧ M' (X + 3) (k + j) = nI m) ∧ ∀ a, (a < X ∨ X + 4 ≤ a) → M' a = M0 a
theorem y_rn_st {X k r m p : Nat} {M0 M' : zM} {g : Nat → Nat} (h : y_rn X M0 k r m g p M') (hg : g p = 0) (hp : p ≤ 32) (hk : k ≤ 50) (hm : m ≤ 1) (hr : r < 4) : ∃ M2, fX1_append X (nI (32 * r + p - trl g p)) (nI (trl g p)) (nI m) M' = some M2 ∧ y_rn X M0 k r m g (p + 1) M2 := by
  have ht := trl_le (g := g) (p := p)
  have hc := rl_cnt (g := g) (p := p)
  by_cases q : trl g p = 0
  · refine ⟨M', ?_, ?_⟩
    · unfold fX1_append
      rw [q]
      simp (disch := first | omega | assumption) only [l_0, l_1, l_2, l_3, l_4, l_5, l_6, l_7, l_8, l_11, l_12, l_15, l_16, l_31, l_32, l_66, l_80, l_100, l_127, l_128, l_768, l_2304, l_2310, l_2316, l_2388, l_2394, l_2406, l_2418, l_2430, l_2558, l_2686, l_2814, l_2942, l_3070, l_3390, l_3394, l_3395, l_3396, l_3397, n_leT, n_leF, n_ltT, n_ltF, n_eqT, n_eqF, nI_add, pk_mul, n_sub, z_ldn, z_san, z_bs, z_b2s, z_b3s, z_ocN, z_ocS, z_oxL, z_oxR, z_scL, z_scR, ↓reduceIte, st_170, st_171, st_172, st_173, Nat.zero_add, Nat.add_zero, Nat.zero_lt_succ, true_and, and_true, eq_self]
    · unfold y_rn
      rw [rl_n (Or.inr q)]
      exact h
  · obtain ⟨b1, b2, b3, b4, b5⟩ := h
    obtain ⟨c, hcc⟩ : ∃ c, c = (rl g p).1 := ⟨_, rfl⟩
    rw [← hcc] at b1 b4 hc
    refine ⟨_, cApp b1 (by omega) (by omega) (by omega) hm, ?_⟩
    have hF : rl g (p + 1) = (c + 1, fun j => if j = c then (p - trl g p, trl g p) else (rl g p).2 j) := by rw [rl_y hg q, ← hcc]
    unfold y_rn
    rw [hF]
    refine ⟨?_, fun j hj => ?_, fun q2 j q3 q4 hj => ?_, fun j hj => ?_, fun a ha => ?_⟩
    · rw [s_s, u_s]
      rfl
    · rw [s_s, u_n hj, s_n (by omega), s_n (by omega), s_n (by omega)]
      exact b2 j hj
    · rw [s_n (by omega)]
      have : q2 = 1 ∨ q2 = 2 ∨ q2 = 3 := by omega
      rcases this with y | y | y <;> subst y
      · rw [s_n (by omega), s_n (by omega), s_s, u_n (by omega)]
        exact b3 1 j (by omega) (by omega) hj
      · rw [s_n (by omega), s_s, u_n (by omega), s_n (by omega)]
        exact b3 2 j (by omega) (by omega) hj
      · rw [s_s, u_n (by omega), s_n (by omega), s_n (by omega)]
        exact b3 3 j (by omega) (by omega) hj
    · have hj : j < c + 1 := hj
      rw [s_n (by omega), s_n (by omega), s_n (by omega), s_s, s_n (by omega), s_n (by omega), s_s, s_n (by omega), s_n (by omega), s_s]
      show upd _ (k + c) _ (k + j) = nI (32 * r + (if j = c then (p - trl g p, trl g p) else (rl g p).2 j).1) ∧ upd _ (k + c) _ (k + j) = nI (if j = c then (p - trl g p, trl g p) else (rl g p).2 j).2 ∧ upd _ (k + c) _ (k + j) = nI m
      by_cases y : j = c
      · rw [if_pos y, y, u_s, u_s, u_s]
        refine ⟨?_, rfl, rfl⟩
        show nI (32 * r + p - trl g p) = nI (32 * r + (p - trl g p))
        congr 1
        omega
      · rw [if_neg y, u_n (by omega), u_n (by omega), u_n (by omega), s_n (by omega), s_n (by omega)]
        exact b4 j (by omega)
    · rw [s_n (by omega), s_n (by omega), s_n (by omega), s_n (by omega)]
      exact b5 a ha
theorem cRuns {X k r m : Nat} {M : zM} {g : Nat → Nat} (hr : r < 4) (hm : m ≤ 1) (hk : k ≤ 50) (h0 : M X 0 = nI (32 * r)) (h4 : M X 4 = nI k) (hmk : ∀ p, p < 32 → M (X + 4) p = nI (g p)) (hg1 : ∀ p, g p ≤ 1) (hg : g 32 = 0) : ∃ M', fX1_appendMarkedRuns X (nI m) M = some M' ∧ y_rn X M k r m g 33 M' := by
  unfold fX1_appendMarkedRuns
  obtain ⟨x, e1, e2, e3⟩ := z_loopA (f := fun x : Int32 × Int32 × zM => fX1_appendMarkedRuns_L1 X (nI m) x.1 x.2.1 x.2.2) (fun p x M' => x = nI (trl g p) ∧ y_rn X M k r m g p M') (fun x => x.1 = nI (trl g 32) ∧ y_rn X M k r m g 32 x.2) 0 32 (by decide) (x := nI 0) (s := nI 0) (M := M) rfl ⟨rfl, h4, fun _ _ => rfl, fun _ _ _ _ _ => rfl, fun j hj => absurd hj (Nat.not_lt_zero j), fun _ _ => rfl⟩ (fun p x M' hp hI => by
    obtain ⟨b1, b2⟩ := hI
    subst b1
    have c0 : M' X 0 = nI (32 * r) := by rw [b2.2.1 0 (by decide)]; exact h0
    have c1 : M' (X + 4) p = nI (g p) := by rw [b2.2.2.2.2 _ (by omega)]; exact hmk p hp
    have ht := trl_le (g := g) (p := p)
    have hg1p := hg1 p
    by_cases q : g p = 0
    · obtain ⟨M2, f1, f2⟩ := y_rn_st b2 q (by omega) hk hm hr
      rw [q] at c1
      refine ⟨nI 0, M2, ?_, by rw [trl_0 q], f2⟩
      simp (disch := first | omega | assumption) only [l_0, l_1, l_2, l_3, l_4, l_5, l_6, l_7, l_8, l_11, l_12, l_15, l_16, l_31, l_32, l_66, l_80, l_100, l_127, l_128, l_768, l_2304, l_2310, l_2316, l_2388, l_2394, l_2406, l_2418, l_2430, l_2558, l_2686, l_2814, l_2942, l_3070, l_3390, l_3394, l_3395, l_3396, l_3397, n_leT, n_leF, n_ltT, n_ltF, n_eqT, n_eqF, nI_add, pk_mul, n_sub, z_ldn, z_san, z_bs, z_b2s, z_b3s, z_ocN, z_ocS, z_oxL, z_oxR, z_scL, z_scR, ↓reduceIte, st_170, st_171, st_172, st_173, Nat.zero_add, Nat.add_zero, Nat.zero_lt_succ, true_and, and_true, eq_self, fX1_appendMarkedRuns_L1, c1, c0, f1]
    · refine ⟨nI (trl g p + 1), M', ?_, by rw [trl_1 q], ?_⟩
      · simp (disch := first | omega | assumption) only [l_0, l_1, l_2, l_3, l_4, l_5, l_6, l_7, l_8, l_11, l_12, l_15, l_16, l_31, l_32, l_66, l_80, l_100, l_127, l_128, l_768, l_2304, l_2310, l_2316, l_2388, l_2394, l_2406, l_2418, l_2430, l_2558, l_2686, l_2814, l_2942, l_3070, l_3390, l_3394, l_3395, l_3396, l_3397, n_leT, n_leF, n_ltT, n_ltF, n_eqT, n_eqF, nI_add, pk_mul, n_sub, z_ldn, z_san, z_bs, z_b2s, z_b3s, z_ocN, z_ocS, z_oxL, z_oxR, z_scL, z_scR, ↓reduceIte, st_170, st_171, st_172, st_173, Nat.zero_add, Nat.add_zero, Nat.zero_lt_succ, true_and, and_true, eq_self, fX1_appendMarkedRuns_L1, c1]
      · unfold y_rn
        rw [rl_n (Or.inl q)]
        exact b2) (fun x M' hI => ⟨(x, M'), by simp (disch := first | omega | assumption) only [l_0, l_1, l_2, l_3, l_4, l_5, l_6, l_7, l_8, l_11, l_12, l_15, l_16, l_31, l_32, l_66, l_80, l_100, l_127, l_128, l_768, l_2304, l_2310, l_2316, l_2388, l_2394, l_2406, l_2418, l_2430, l_2558, l_2686, l_2814, l_2942, l_3070, l_3390, l_3394, l_3395, l_3396, l_3397, n_leT, n_leF, n_ltT, n_ltF, n_eqT, n_eqF, nI_add, pk_mul, n_sub, z_ldn, z_san, z_bs, z_b2s, z_b3s, z_ocN, z_ocS, z_oxL, z_oxR, z_scL, z_scR, ↓reduceIte, st_170, st_171, st_172, st_173, Nat.zero_add, Nat.add_zero, Nat.zero_lt_succ, true_and, and_true, eq_self, fX1_appendMarkedRuns_L1], hI⟩)
  obtain ⟨x1, M1⟩ := x
  have e2 : x1 = nI (trl g 32) := e2
  subst e2
  have e3 : y_rn X M k r m g 32 M1 := e3
  have ht := trl_le (g := g) (p := 32)
  have c0 : M1 X 0 = nI (32 * r) := by rw [e3.2.1 0 (by decide)]; exact h0
  obtain ⟨M2, f1, f2⟩ := y_rn_st e3 hg (by omega) hk hm hr
  refine ⟨M2, ?_, f2⟩
  simp (disch := first | omega | assumption) only [l_0, l_1, l_2, l_3, l_4, l_5, l_6, l_7, l_8, l_11, l_12, l_15, l_16, l_31, l_32, l_66, l_80, l_100, l_127, l_128, l_768, l_2304, l_2310, l_2316, l_2388, l_2394, l_2406, l_2418, l_2430, l_2558, l_2686, l_2814, l_2942, l_3070, l_3390, l_3394, l_3395, l_3396, l_3397, n_leT, n_leF, n_ltT, n_ltF, n_eqT, n_eqF, nI_add, pk_mul, n_sub, z_ldn, z_san, z_bs, z_b2s, z_b3s, z_ocN, z_ocS, z_oxL, z_oxR, z_scL, z_scR, ↓reduceIte, st_170, st_171, st_172, st_173, Nat.zero_add, Nat.add_zero, Nat.zero_lt_succ, true_and, and_true, eq_self, e1, c0, f1]
theorem cCr {X : Nat} {M : zM} {g : Nat → Nat} (hmk : ∀ p, p < 32 → M (X + 4) p = nI (g p)) (hg1 : ∀ p, g p ≤ 1) (hg : g 32 = 0) : fX1_countMarkedRuns X M = some (nI (rl g 33).1) := by
  unfold fX1_countMarkedRuns
  rw [z_loopS (f := fun s : Int32 × Int32 => fX1_countMarkedRuns_L1 X M s.1 s.2) (fun q => if g q ≠ 0 ∧ trl g q = 0 then 1 else 0) 0 32 (by decide) (s := (0, 0)) rfl (fun i x hi => by
    have c1 := hmk i hi
    have hgi := hg1 i
    have hz := trl_z (g := g) (p := i)
    by_cases q : g i = 0
    · rw [show (if g i ≠ 0 ∧ trl g i = 0 then 1 else 0) = 0 from if_neg (fun x => x.1 q)]
      rw [q] at c1
      simp (disch := first | omega | assumption) only [l_0, l_1, l_2, l_3, l_4, l_5, l_6, l_7, l_8, l_11, l_12, l_15, l_16, l_31, l_32, l_66, l_80, l_100, l_127, l_128, l_768, l_2304, l_2310, l_2316, l_2388, l_2394, l_2406, l_2418, l_2430, l_2558, l_2686, l_2814, l_2942, l_3070, l_3390, l_3394, l_3395, l_3396, l_3397, n_leT, n_leF, n_ltT, n_ltF, n_eqT, n_eqF, nI_add, pk_mul, n_sub, z_ldn, z_san, z_bs, z_b2s, z_b3s, z_ocN, z_ocS, z_oxL, z_oxR, z_scL, z_scR, ↓reduceIte, st_170, st_171, st_172, st_173, Nat.zero_add, Nat.add_zero, Nat.zero_lt_succ, true_and, and_true, eq_self, fX1_countMarkedRuns_L1, c1]
    · by_cases q2 : i = 0
      · rw [show (if g i ≠ 0 ∧ trl g i = 0 then 1 else 0) = 1 from if_pos ⟨q, hz.mpr (Or.inl q2)⟩]
        rw [q2] at c1 q
        have hg0 := hg1 0
        simp (disch := first | omega | assumption) only [l_0, l_1, l_2, l_3, l_4, l_5, l_6, l_7, l_8, l_11, l_12, l_15, l_16, l_31, l_32, l_66, l_80, l_100, l_127, l_128, l_768, l_2304, l_2310, l_2316, l_2388, l_2394, l_2406, l_2418, l_2430, l_2558, l_2686, l_2814, l_2942, l_3070, l_3390, l_3394, l_3395, l_3396, l_3397, n_leT, n_leF, n_ltT, n_ltF, n_eqT, n_eqF, nI_add, pk_mul, n_sub, z_ldn, z_san, z_bs, z_b2s, z_b3s, z_ocN, z_ocS, z_oxL, z_oxR, z_scL, z_scR, ↓reduceIte, st_170, st_171, st_172, st_173, Nat.zero_add, Nat.add_zero, Nat.zero_lt_succ, true_and, and_true, eq_self, fX1_countMarkedRuns_L1, c1, q2]
      · have c2 := hmk (i - 1) (by omega)
        have hgj := hg1 (i - 1)
        by_cases q3 : g (i - 1) = 0
        · rw [show (if g i ≠ 0 ∧ trl g i = 0 then 1 else 0) = 1 from if_pos ⟨q, hz.mpr (Or.inr ⟨q2, q3⟩)⟩]
          rw [q3] at c2
          simp (disch := first | omega | assumption) only [l_0, l_1, l_2, l_3, l_4, l_5, l_6, l_7, l_8, l_11, l_12, l_15, l_16, l_31, l_32, l_66, l_80, l_100, l_127, l_128, l_768, l_2304, l_2310, l_2316, l_2388, l_2394, l_2406, l_2418, l_2430, l_2558, l_2686, l_2814, l_2942, l_3070, l_3390, l_3394, l_3395, l_3396, l_3397, n_leT, n_leF, n_ltT, n_ltF, n_eqT, n_eqF, nI_add, pk_mul, n_sub, z_ldn, z_san, z_bs, z_b2s, z_b3s, z_ocN, z_ocS, z_oxL, z_oxR, z_scL, z_scR, ↓reduceIte, st_170, st_171, st_172, st_173, Nat.zero_add, Nat.add_zero, Nat.zero_lt_succ, true_and, and_true, eq_self, fX1_countMarkedRuns_L1, c1, c2]
        · rw [show (if g i ≠ 0 ∧ trl g i = 0 then 1 else 0) = 0 from if_neg (fun x => by
            rcases hz.mp x.2 with y | y
            · exact q2 y
            · exact q3 y.2)]
          simp (disch := first | omega | assumption) only [l_0, l_1, l_2, l_3, l_4, l_5, l_6, l_7, l_8, l_11, l_12, l_15, l_16, l_31, l_32, l_66, l_80, l_100, l_127, l_128, l_768, l_2304, l_2310, l_2316, l_2388, l_2394, l_2406, l_2418, l_2430, l_2558, l_2686, l_2814, l_2942, l_3070, l_3390, l_3394, l_3395, l_3396, l_3397, n_leT, n_leF, n_ltT, n_ltF, n_eqT, n_eqF, nI_add, pk_mul, n_sub, z_ldn, z_san, z_bs, z_b2s, z_b3s, z_ocN, z_ocS, z_oxL, z_oxR, z_scL, z_scR, ↓reduceIte, st_170, st_171, st_172, st_173, Nat.zero_add, Nat.add_zero, Nat.zero_lt_succ, true_and, and_true, eq_self, fX1_countMarkedRuns_L1, c1, c2]) (fun x => by simp (disch := first | omega | assumption) only [l_0, l_1, l_2, l_3, l_4, l_5, l_6, l_7, l_8, l_11, l_12, l_15, l_16, l_31, l_32, l_66, l_80, l_100, l_127, l_128, l_768, l_2304, l_2310, l_2316, l_2388, l_2394, l_2406, l_2418, l_2430, l_2558, l_2686, l_2814, l_2942, l_3070, l_3390, l_3394, l_3395, l_3396, l_3397, n_leT, n_leF, n_ltT, n_ltF, n_eqT, n_eqF, nI_add, pk_mul, n_sub, z_ldn, z_san, z_bs, z_b2s, z_b3s, z_ocN, z_ocS, z_oxL, z_oxR, z_scL, z_scR, ↓reduceIte, st_170, st_171, st_172, st_173, Nat.zero_add, Nat.add_zero, Nat.zero_lt_succ, true_and, and_true, eq_self, fX1_countMarkedRuns_L1]), rl_st]
  by_cases q : trl g 32 = 0
  · rw [if_pos q, rl_n (Or.inr q)]
    rfl
  · rw [if_neg q, rl_y hg q]
    rfl
abbrev lgC (k : Nat) (g1 g0 g2 : Nat → Nat) : Prop := 2 * (rl g2 33).1 + 2 < k + (rl g1 33).1 + (rl g0 33).1
def lgN (k : Nat) (g1 g0 g2 : Nat → Nat) : Nat := if lgC k g1 g0 g2 then (rl g2 33).1 else k + (rl g1 33).1 + (rl g0 33).1
abbrev lgO (k : Nat) (g1 g0 g2 : Nat → Nat) (j : Nat) : Prop := ¬ lgC k g1 g0 g2 ∧ j < k
def lgE (k : Nat) (g1 g0 g2 : Nat → Nat) (j : Nat) : Nat × Nat × Nat := if lgC k g1 g0 g2 then (((rl g2 33).2 j).1, ((rl g2 33).2 j).2, 1) else if j < k + (rl g1 33).1 then (((rl g1 33).2 (j - k)).1, ((rl g1 33).2 (j - k)).2, 1) else (((rl g0 33).2 (j - (k + (rl g1 33).1))).1, ((rl g0 33).2 (j - (k + (rl g1 33).1))).2, 0)
theorem rl16 {g : Nat → Nat} : (rl g 33).1 ≤ 16 := by
  have := rl_cnt (g := g) (p := 33)
  omega
theorem lgN_le {k : Nat} {g1 g0 g2 : Nat → Nat} : lgN k g1 g0 g2 ≤ 34 := by
  have h := rl16 (g := g2)
  unfold lgN
  split
  · omega
  · omega
theorem lgE_val {k j : Nat} {g1 g0 g2 : Nat → Nat} (hj : j < lgN k g1 g0 g2) (hn : ¬ lgO k g1 g0 g2 j) : 1 ≤ (lgE k g1 g0 g2 j).2.1 ∧ (lgE k g1 g0 g2 j).1 + (lgE k g1 g0 g2 j).2.1 ≤ 32 ∧ (lgE k g1 g0 g2 j).2.2 ≤ 1 := by
  unfold lgN at hj
  unfold lgE
  by_cases q : lgC k g1 g0 g2
  · rw [if_pos q] at hj ⊢
    have := rl_val hj
    exact ⟨this.1, Nat.le_of_lt_succ this.2, Nat.le_refl _⟩
  · rw [if_neg q] at hj ⊢
    have hk : k ≤ j := Nat.le_of_not_lt (fun x => hn ⟨q, x⟩)
    by_cases q2 : j < k + (rl g1 33).1
    · rw [if_pos q2]
      have := rl_val (g := g1) (p := 33) (j := j - k) (by omega)
      exact ⟨this.1, Nat.le_of_lt_succ this.2, Nat.le_refl _⟩
    · rw [if_neg q2]
      have := rl_val (g := g0) (p := 33) (j := j - (k + (rl g1 33).1)) (by omega)
      exact ⟨this.1, Nat.le_of_lt_succ this.2, Nat.zero_le _⟩
