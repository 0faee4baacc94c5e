theorem z_R1_N {V : Nat} {M : zM} {N N' : Nat → Int32} {S : Nat → Nat} (h : z_R1 V M N S) (hl : ∀ r, r < 4 → S (3390 + r) ≤ 80) (h1 : ∀ k, 2430 ≤ k → k < 2558 → N' k = N k) (h2 : ∀ k, 3070 ≤ k → k < 3390 → N' k = N k) : z_R1 V M N' S :=
  ⟨h.1, h.2.1, h.2.2.1, R_sp_N h.2.2.2.1 h1, R_lg_N h.2.2.2.2.1 hl h2, h.2.2.2.2.2⟩
/-- other tables -/
theorem y_Q_tab {V n : Nat} {M M1 : zM} {N : Nat → Int32} {S S1 st : Nat → Nat} (hQ : y_Q V M N S st) (hIs : z_Is n S) (hT : z_T V M1 S1) (hS : ∀ k, 2304 ≤ k → S1 k = S k) (hf : ∀ a, a ≠ V + 3 + 4 → (∀ t, t < 18 → a ≠ V + 9 + 3 * t + 1 + 1) → M1 a = M a) : y_Q V M1 N S1 st := by
  obtain ⟨q1, q2, q3, q4, q5, q6⟩ := hQ
  have q2' := R_ds_S (S' := S1) q2 (fun d hd => (hIs.2.2.2.2.2.2.2.1 d hd).1) (fun k k1 k2 => hS k k1)
  have q3' := R_sn_S (S' := S1) q3 hIs.2.2.2.1 (fun d hd => (hIs.2.2.2.2.2.1 d hd).1) (fun k k1 k2 => hS k k1)
  have q5' := R_lg_S (S' := S1) q5 (fun r hr => hS _ (by omega))
  have q6' := R_sc_S (S' := S1) q6 (fun k k1 k2 => hS _ (by omega))
  refine ⟨hT, fun d hd => ?_, fun s hs => ?_, fun b hb => ⟨?_, ?_, ?_⟩, R_lg_cg q5' (fun r q k1 k2 => hf _ (by omega) (fun t ht => by omega)), R_sc_cg q6' (hf _ (by omega) (fun t ht => by omega))⟩
  · rw [hf _ (by omega) (fun t ht => by omega)]
    exact q2' d hd
  · unfold R_sn1
    rw [hf _ (by omega) (fun t ht => by omega)]
    exact q3' s hs
  · rw [hf _ (by omega) (fun t ht => by omega)]
    exact (q4 b hb).1
  · rw [hf _ (by omega) (fun t ht => by omega)]
    exact (q4 b hb).2.1
  · rw [hf _ (by omega) (fun t ht => by omega), hS _ (by omega)]
    exact (q4 b hb).2.2
/-- a change of tables alone: all that follows from it -/
theorem z_tabs {n : Nat} {M M1 : zM} {N : Nat → Int32} {S S1 : Nat → Nat} (hn : n < 512) (hR : z_R1 1 M N S) (hI : z_I n S) (hT : z_T 1 M1 S1) (hS : ∀ k, 2304 ≤ k → S1 k = S k) (hold : ∀ k, k < 2304 → S1 k = 0 ∨ ∃ j, j < 2304 ∧ S j = S1 k) (hte : ∀ d, d < 6 → S (2304 + d) = 0 → ∀ p, p < 128 → S1 (128 * d + p) = 0) (hse : ∀ s, s < 12 → S (2394 + s) = 0 → ∀ p, p < 128 → S1 (768 + 128 * s + p) = 0) (hf : ∀ a, a ≠ 1 + 3 + 4 → (∀ t, t < 18 → a ≠ 1 + 9 + 3 * t + 1 + 1) → M1 a = M a) : (∃ M2, fX5_settle 1 M1 = some (nI (sumN (lostN S1) 128), M2) ∧ z_R1 1 M2 N (y_mk S1) ∧ ∀ a, a ≠ 1 + 3 + 1 → M2 a = M1 a) ∧ z_I n (y_mk S1) := by
  have hQ := y_Q_tab (z_Q_of hR hI) hI.1 hT hS hf
  have hH := z_H_of (S1 := S1) hI hold (fun k k1 k2 => hS k (by omega))
  have hIs := z_Is_S (S' := S1) hI.1 (fun k k1 k2 => hS k k1) (fun k k1 k2 => hS k (by omega))
  refine ⟨z_settle (by omega) hQ hH hIs (fun b hb => by rw [hS _ (by omega)]; exact I_bir hI b hb), z_I_mk hIs hH hT.2.2 (fun d hd => by rw [hS _ (by omega)]; exact hte d hd) (fun s hs => by rw [hS _ (by omega)]; exact hse s hs) (fun b hb => by rw [hS _ (by omega)]; exact I_p1 hI b hb) (fun b hb => by rw [hS _ (by omega)]; exact I_bir hI b hb)⟩
theorem n_m1e {x : Nat} (hx : x < 2 ^ 31) : (nI x = nI 0 - nI 1) = False := by
  rw [← n_m0d]
  exact n_m1c hx
theorem lost128 {S : Nat → Nat} : sumN (lostN S) 128 ≤ 128 := sumN_le (c := 1) (n := 128) (fun i _ => by unfold lostN; split <;> omega)
/-- so many from place i on, in a file -/
theorem fit_cases (a : Int32) {i : Nat} (hi : i < 16) : (∃ l, 1 ≤ l ∧ i + l ≤ 16 ∧ a = nI l) ∨ (a < nI 1 ∨ nI (16 - i) < a) := by
  rcases n_ix a (show 17 - i < 2 ^ 31 by omega) with h | h | ⟨l, hl, rfl⟩
  · exact Or.inr (Or.inl (Int32.lt_trans h (by decide)))
  · exact Or.inr (Or.inr (Int32.lt_of_lt_of_le (nI_lt (by omega) (by omega)) h))
  · by_cases q : l = 0
    · subst q
      exact Or.inr (Or.inl (by decide))
    · exact Or.inl ⟨l, by omega, by omega, rfl⟩
theorem cFt_ok {M : zM} {i l : Nat} (hi : i < 16) (h1 : 1 ≤ l) (h2 : i + l ≤ 16) : fX6_fits (nI i) (nI l) M = some (nI 1) := by
  unfold fX6_fits
  have : l ≤ 16 - i := by omega
  simp (disch := first | omega | assumption) only [l_0, l_1, l_2, l_3, l_4, l_5, l_6, l_7, l_8, l_11, l_12, l_15, l_16, l_31, l_32, l_66, l_80, l_100, l_127, l_128, l_768, l_2304, l_2310, l_2316, l_2388, l_2394, l_2406, l_2418, l_2430, l_2558, l_2686, l_2814, l_2942, l_3070, l_3390, l_3394, l_3395, l_3396, l_3397, n_leT, n_leF, n_ltT, n_ltF, n_eqT, n_eqF, nI_add, pk_mul, n_sub, z_ldn, z_san, z_bs, z_b2s, z_b3s, z_ocN, z_ocS, z_oxL, z_oxR, z_scL, z_scR, ↓reduceIte, Nat.zero_add, Nat.add_zero, Nat.zero_lt_succ, true_and, and_true, eq_self]
theorem cFt_no {M : zM} {i : Nat} {a : Int32} (hi : i < 16) (h : a < nI 1 ∨ nI (16 - i) < a) : fX6_fits (nI i) a M = some (nI 0) := by
  unfold fX6_fits
  by_cases h1 : a < nI 1
  · have h1' : (a < nI 1) = True := eq_true h1
    simp (disch := first | omega | assumption) only [l_0, l_1, l_2, l_3, l_4, l_5, l_6, l_7, l_8, l_11, l_12, l_15, l_16, l_31, l_32, l_66, l_80, l_100, l_127, l_128, l_768, l_2304, l_2310, l_2316, l_2388, l_2394, l_2406, l_2418, l_2430, l_2558, l_2686, l_2814, l_2942, l_3070, l_3390, l_3394, l_3395, l_3396, l_3397, n_leT, n_leF, n_ltT, n_ltF, n_eqT, n_eqF, nI_add, pk_mul, n_sub, z_ldn, z_san, z_bs, z_b2s, z_b3s, z_ocN, z_ocS, z_oxL, z_oxR, z_scL, z_scR, ↓reduceIte, Nat.zero_add, Nat.add_zero, Nat.zero_lt_succ, true_and, and_true, eq_self, h1']
  · have h1' : (a < nI 1) = False := eq_false h1
    have h2' : (nI (16 - i) < a) = True := eq_true (h.resolve_left h1)
    simp (disch := first | omega | assumption) only [l_0, l_1, l_2, l_3, l_4, l_5, l_6, l_7, l_8, l_11, l_12, l_15, l_16, l_31, l_32, l_66, l_80, l_100, l_127, l_128, l_768, l_2304, l_2310, l_2316, l_2388, l_2394, l_2406, l_2418, l_2430, l_2558, l_2686, l_2814, l_2942, l_3070, l_3390, l_3394, l_3395, l_3396, l_3397, n_leT, n_leF, n_ltT, n_ltF, n_eqT, n_eqF, nI_add, pk_mul, n_sub, z_ldn, z_san, z_bs, z_b2s, z_b3s, z_ocN, z_ocS, z_oxL, z_oxR, z_scL, z_scR, ↓reduceIte, Nat.zero_add, Nat.add_zero, Nat.zero_lt_succ, true_and, and_true, eq_self, h1', h2']
/-! ===== what the calls that change share ===== -/
def rngN (S : Nat → Nat) (b e : Nat) (g : Nat → Nat) : Nat → Nat := fun k => if b ≤ k ∧ k < b + e then g (k - b) else S k
theorem rng_in {S g : Nat → Nat} {b e k : Nat} (h1 : b ≤ k) (h2 : k < b + e) : rngN S b e g k = g (k - b) := if_pos ⟨h1, h2⟩
theorem rng_out {S g : Nat → Nat} {b e k : Nat} (h : k < b ∨ b + e ≤ k) : rngN S b e g k = S k := if_neg (by omega)
theorem upN_s {S : Nat → Nat} {k x : Nat} : updN S k x k = x := if_pos rfl
theorem upN_n {S : Nat → Nat} {k x j : Nat} (h : j ≠ k) : updN S k x j = S j := if_neg h
theorem z_N_up {N : Nat → Int32} {S : Nat → Nat} (h : z_N N S) {k v : Nat} : z_N (upd N k (nI v)) (updN S k v) := by
  have e : ∀ j, N j = nI (S j) → upd N k (nI v) j = nI (updN S k v j) := fun j hj => by
    by_cases q : j = k
    · subst q
      rw [u_s, upN_s]
    · rw [u_n q, upN_n q, hj]
  exact ⟨fun j hj => e j (h.1 j hj), fun j h1 h2 => e j (h.2.1 j h1 h2), fun j h1 h2 => e j (h.2.2 j h1 h2)⟩
theorem z_N_rng {N N' : Nat → Int32} {S g : Nat → Nat} {b e : Nat} (h : z_N N S) (hN : ∀ j, N' j = if b ≤ j ∧ j < b + e then nI (g (j - b)) else N j) : z_N N' (rngN S b e g) := by
  have c : ∀ j, N j = nI (S j) → N' j = nI (rngN S b e g j) := fun j hj => by
    rw [hN]
    by_cases q : b ≤ j ∧ j < b + e
    · rw [if_pos q, rng_in q.1 q.2]
    · rw [if_neg q, rng_out (by omega), hj]
  exact ⟨fun j hj => c j (h.1 j hj), fun j h1 h2 => c j (h.2.1 j h1 h2), fun j h1 h2 => c j (h.2.2 j h1 h2)⟩
theorem z_N_cg {N : Nat → Int32} {S S' : Nat → Nat} (h : z_N N S) (hc : ∀ k, k < 3397 → S' k = S k) : z_N N S' :=
  ⟨fun k hk => by rw [hc k (by omega)]; exact h.1 k hk, fun k k1 k2 => by rw [hc k (by omega)]; exact h.2.1 k k1 k2, fun k k1 k2 => by rw [hc k (by omega)]; exact h.2.2 k k1 k2⟩
theorem R_sn_S2 {V : Nat} {M : zM} {S S' : Nat → Nat} (h : R_sn V M S) (hl : ∀ s, s < 12 → S (2394 + s) ≠ 0 → z_liv S s) (hk : ∀ d, d < 6 → S (2388 + d) ≤ 12) (hc : ∀ k, 2316 ≤ k → k < 2430 → S' k = S k) : R_sn V M S' := fun s hs => by
  rw [hc (2394 + s) (by omega) (by omega)]
  refine ⟨(h s hs).1, fun q => ?_⟩
  obtain ⟨q1, q2, q3, r, q4, q5, q6⟩ := (h s hs).2 q
  have ho := (hl s hs q).2.1
  have hk2 := hk _ ho
  refine ⟨?_, ?_, ?_, r, q4, ?_, ?_⟩
  · rw [hc (2394 + s) (by omega) (by omega)]
    exact q1
  · rw [hc (2418 + s) (by omega) (by omega)]
    exact q2
  · rw [hc (2406 + s) (by omega) (by omega)]
    exact q3
  · rw [hc (2418 + s) (by omega) (by omega), hc (2388 + S (2418 + s)) (by omega) (by omega)]
    exact q5
  · unfold z_ord at q6 ⊢
    rw [hc (2418 + s) (by omega) (by omega), hc _ (by omega) (by omega)]
    exact q6
/-- the class before its settling, from what it was -/
theorem y_Q_gen {V : Nat} {M M1 : zM} {N : Nat → Int32} {S S1 st : Nat → Nat} (hQ : y_Q V M N S st) (hT : z_T V M1 S1) (h1 : R_ds V M1 S1) (h2 : R_sn V M1 S1) (h3 : R_sc V M1 S1) (hS : ∀ k, 2430 ≤ k → k < 3394 → S1 k = S k) (hf : ∀ a, V + 4 ≤ a → a < V + 7 → M1 a = M a) (hl : ∀ a, V + 63 ≤ a → a < V + 83 → M1 a = M a) : y_Q V M1 N S1 st := by
  obtain ⟨q1, q2, q3, q4, q5, q6⟩ := hQ
  have q5' := R_lg_S (S' := S1) q5 (fun r hr => hS _ (by omega) (by omega))
  refine ⟨hT, h1, h2, fun b hb => ⟨?_, ?_, ?_⟩, R_lg_cg q5' (fun r q k1 k2 => hl _ (by omega) (by omega)), h3⟩
  · rw [hf _ (by omega) (by omega)]
    exact (q4 b hb).1
  · rw [hf _ (by omega) (by omega)]
    exact (q4 b hb).2.1
  · rw [hf _ (by omega) (by omega), hS _ (by omega) (by omega)]
    exact (q4 b hb).2.2
theorem z_set2 {n : Nat} {M1 : zM} {N : Nat → Int32} {S S1 : Nat → Nat} (hn : n < 512) (hQ : y_Q 1 M1 N S1 (z_sta S)) (hI : z_I n S) (hIs : z_Is n S1) (hold : ∀ k, k < 2304 → S1 k = 0 ∨ ∃ j, j < 2304 ∧ S j = S1 k) (hte : ∀ d, d < 6 → S1 (2304 + d) = 0 → ∀ p, p < 128 → S1 (128 * d + p) = 0) (hse : ∀ s, s < 12 → S1 (2394 + s) = 0 → ∀ p, p < 128 → S1 (768 + 128 * s + p) = 0) (hS : ∀ k, 2558 ≤ k → k < 2942 → S1 k = S k) : (∃ M2, fX5_settle 1 M1 = some (nI (sumN (lostN S1) 128), M2) ∧ z_R1 1 M2 N (y_mk S1) ∧ ∀ a, a ≠ 1 + 3 + 1 → M2 a = M1 a) ∧ z_I n (y_mk S1) := by
  have hH := z_H_of (S1 := S1) hI hold (fun k k1 k2 => hS k (by omega) k2)
  refine ⟨z_settle (by omega) hQ hH hIs (fun b hb => by rw [hS _ (by omega) (by omega)]; exact I_bir hI b hb), z_I_mk hIs hH hQ.1.2.2 hte hse (fun b hb => by rw [hS _ (by omega) (by omega)]; exact I_p1 hI b hb) (fun b hb => by rw [hS _ (by omega) (by omega)]; exact I_bir hI b hb)⟩
/-- no settling, where nothing is lost -/
theorem z_set3 {n : Nat} {M1 : zM} {N : Nat → Int32} {S S1 : Nat → Nat} (hQ : y_Q 1 M1 N S1 (z_sta S)) (hI : z_I n S) (hIs : z_Is n S1) (hold : ∀ k, k < 2304 → S1 k = 0 ∨ ∃ j, j < 2304 ∧ S j = S1 k) (hte : ∀ d, d < 6 → S1 (2304 + d) = 0 → ∀ p, p < 128 → S1 (128 * d + p) = 0) (hse : ∀ s, s < 12 → S1 (2394 + s) = 0 → ∀ p, p < 128 → S1 (768 + 128 * s + p) = 0) (hS : ∀ k, 2558 ≤ k → k < 2942 → S1 k = S k) (hno : ∀ k, k < 2304 → S k ≠ 0 → S1 k = S k) : z_R1 1 M1 N (y_mk S1) ∧ z_I n (y_mk S1) := by
  have hH := z_H_of (S1 := S1) hI hold (fun k k1 k2 => hS k (by omega) k2)
  refine ⟨z_R1_mk hQ hIs (fun b hb => ?_), z_I_mk hIs hH hQ.1.2.2 hte hse (fun b hb => by rw [hS _ (by omega) (by omega)]; exact I_p1 hI b hb) (fun b hb => by rw [hS _ (by omega) (by omega)]; exact I_bir hI b hb)⟩
  rw [z_sta_mk hH hb, (hQ.2.2.2.1 b hb).1, if_neg]
  intro q
  obtain ⟨q1, q2⟩ := q
  have c1 : S (2814 + b) ≠ 0 := fun c => by
    unfold z_sta at q1
    rw [if_neg (fun c2 => c2 c)] at q1
    split at q1 <;> omega
  rw [I_ref hI b hb] at c1
  obtain ⟨k, hk, c2⟩ := cntN_pos.mp c1
  exact cntN_pos.mpr ⟨k, hk, (hno k hk (by omega)).trans c2⟩ q2
/-! ===== destroy, makeClone ===== -/
theorem z_pz0 {M : zM} {k j : Nat} : z_pz M k j (nI 0) = some (z_st M k j (nI 0)) := z_pzn (Or.inl rfl)
theorem z_pz1 {M : zM} {k j : Nat} : z_pz M k j (nI 1) = some (z_st M k j (nI 1)) := z_pzn (Or.inr rfl)
theorem z_Is_gen {n : Nat} {S S1 : Nat → Nat} (h : z_Is n S) (hc : ∀ k, 2316 ≤ k → S1 k = S k) (g1 : ∀ d, d < 6 → S1 (2304 + d) ≤ 1) (g2 : ∃ d, d < 6 ∧ S1 (2304 + d) = 1) (g3 : ∀ d, d < 6 → S1 (2304 + d) = 0 → S1 (2310 + d) = 0 ∧ S (2388 + d) = 0) (g8 : ∀ d, d < 6 → S1 (2310 + d) ≤ 12 ∧ (S1 (2310 + d) ≠ 0 → S (2394 + (S1 (2310 + d) - 1)) ≠ 0 ∧ ∀ r, r < S (2388 + d) → S (2394 + (S1 (2310 + d) - 1)) < S (2394 + z_ord S d r))) : z_Is n S1 := by
  obtain ⟨i1, i2, i3, i4, i5, i6, i7, i8, i9, j1, j2, j3, j5⟩ := h
  have eo : ∀ d r, z_ord S1 d r = z_ord S d r := fun d r => hc _ (by omega)
  refine ⟨g1, g2, fun d hd q => ?_, fun s hs => ?_, fun s t hs ht => ?_, fun d hd => ?_, fun d hd r q hr hq => ?_, fun d hd => ?_, fun r hr => ?_, ?_, ?_, ?_, fun s hs => ?_⟩
  · rw [hc (2388 + d) (by omega)]
    exact g3 d hd q
  · rw [hc (2394 + s) (by omega)]
    intro q
    obtain ⟨q1, q2, q3, r, q4, q5⟩ := i4 s hs q
    refine ⟨by rw [hc (2394 + s) (by omega), hc 3394 (by omega)]; exact q1, by rw [hc (2418 + s) (by omega)]; exact q2, ?_, r, by rw [hc (2418 + s) (by omega), hc (2388 + S (2418 + s)) (by omega)]; exact q4, by rw [hc (2418 + s) (by omega), eo]; exact q5⟩
    rw [hc (2418 + s) (by omega)]
    have c1 := g1 _ q2
    by_cases c2 : S1 (2304 + S (2418 + s)) = 0
    · have c3 := (g3 _ q2 c2).2
      omega
    · omega
  · rw [hc (2394 + s) (by omega), hc (2394 + t) (by omega)]
    exact i5 s t hs ht
  · rw [hc (2388 + d) (by omega)]
    refine ⟨(i6 d hd).1, fun r hr => ?_⟩
    rw [eo, hc (2394 + z_ord S d r) (by omega), hc (2418 + z_ord S d r) (by omega)]
    exact (i6 d hd).2 r hr
  · rw [hc (2388 + d) (by omega)] at hq
    rw [eo, eo, hc (2394 + z_ord S d r) (by omega), hc (2394 + z_ord S d q) (by omega)]
    exact i7 d hd r q hr hq
  · refine ⟨(g8 d hd).1, fun q => ?_⟩
    rw [hc (2388 + d) (by omega), hc (2394 + (S1 (2310 + d) - 1)) (by omega)]
    refine ⟨((g8 d hd).2 q).1, fun r hr => ?_⟩
    rw [eo, hc (2394 + z_ord S d r) (by omega)]
    exact ((g8 d hd).2 q).2 r hr
  · rw [hc _ (by omega)]
    exact i9 r hr
  · rw [hc _ (by omega)]
    exact j1
  · rw [hc _ (by omega)]
    exact j2
  · rw [hc _ (by omega)]
    exact j3
  · rw [hc _ (by omega)]
    exact j5 s hs
theorem cCd {M : zM} {S : Nat → Nat} (hR : R_ds 1 M S) (hx : ∀ d, d < 6 → S (2304 + d) ≤ 1) : fX5_countDatasets 1 M = some (nI (sumN (fun d => S (2304 + d)) 6)) := by
  unfold fX5_countDatasets
  rw [z_loopS (f := fun s : Int32 × Int32 => fX5_countDatasets_L1 1 M s.1 s.2) (fun d => S (2304 + d)) 0 6 (by decide) (s := (0, 0)) rfl (fun i x hi => by
    have q := hx i hi
    have e := z_lq11 (V := 1) hi
    by_cases q2 : S (2304 + i) = 0
    · simp (disch := first | omega | assumption) only [l_0, l_1, l_2, l_3, l_4, l_5, l_6, l_7, l_8, l_11, l_12, l_15, l_16, l_31, l_32, l_66, l_80, l_100, l_127, l_128, l_768, l_2304, l_2310, l_2316, l_2388, l_2394, l_2406, l_2418, l_2430, l_2558, l_2686, l_2814, l_2942, l_3070, l_3390, l_3394, l_3395, l_3396, l_3397, n_leT, n_leF, n_ltT, n_ltF, n_eqT, n_eqF, nI_add, pk_mul, n_sub, z_ldn, z_san, z_bs, z_b2s, z_b3s, z_ocN, z_ocS, z_oxL, z_oxR, z_scL, z_scR, ↓reduceIte, Nat.zero_add, Nat.add_zero, Nat.zero_lt_succ, true_and, and_true, eq_self, fX5_countDatasets_L1, e, (hR i hi).1, q2]
    · have q3 : S (2304 + i) = 1 := by omega
      simp (disch := first | omega | assumption) only [l_0, l_1, l_2, l_3, l_4, l_5, l_6, l_7, l_8, l_11, l_12, l_15, l_16, l_31, l_32, l_66, l_80, l_100, l_127, l_128, l_768, l_2304, l_2310, l_2316, l_2388, l_2394, l_2406, l_2418, l_2430, l_2558, l_2686, l_2814, l_2942, l_3070, l_3390, l_3394, l_3395, l_3396, l_3397, n_leT, n_leF, n_ltT, n_ltF, n_eqT, n_eqF, nI_add, pk_mul, n_sub, z_ldn, z_san, z_bs, z_b2s, z_b3s, z_ocN, z_ocS, z_oxL, z_oxR, z_scL, z_scR, ↓reduceIte, Nat.zero_add, Nat.add_zero, Nat.zero_lt_succ, true_and, and_true, eq_self, fX5_countDatasets_L1, e, (hR i hi).1, q3]) (fun x => by simp (disch := first | omega | assumption) only [l_0, l_1, l_2, l_3, l_4, l_5, l_6, l_7, l_8, l_11, l_12, l_15, l_16, l_31, l_32, l_66, l_80, l_100, l_127, l_128, l_768, l_2304, l_2310, l_2316, l_2388, l_2394, l_2406, l_2418, l_2430, l_2558, l_2686, l_2814, l_2942, l_3070, l_3390, l_3394, l_3395, l_3396, l_3397, n_leT, n_leF, n_ltT, n_ltF, n_eqT, n_eqF, nI_add, pk_mul, n_sub, z_ldn, z_san, z_bs, z_b2s, z_b3s, z_ocN, z_ocS, z_oxL, z_oxR, z_scL, z_scR, ↓reduceIte, Nat.zero_add, Nat.add_zero, Nat.zero_lt_succ, true_and, and_true, eq_self, fX5_countDatasets_L1])]
  simp (disch := first | omega | assumption) only [l_0, l_1, l_2, l_3, l_4, l_5, l_6, l_7, l_8, l_11, l_12, l_15, l_16, l_31, l_32, l_66, l_80, l_100, l_127, l_128, l_768, l_2304, l_2310, l_2316, l_2388, l_2394, l_2406, l_2418, l_2430, l_2558, l_2686, l_2814, l_2942, l_3070, l_3390, l_3394, l_3395, l_3396, l_3397, n_leT, n_leF, n_ltT, n_ltF, n_eqT, n_eqF, nI_add, pk_mul, n_sub, z_ldn, z_san, z_bs, z_b2s, z_b3s, z_ocN, z_ocS, z_oxL, z_oxR, z_scL, z_scR, ↓reduceIte, Nat.zero_add, Nat.add_zero, Nat.zero_lt_succ, true_and, and_true, eq_self]
theorem sum6 {S : Nat → Nat} (hx : ∀ d, d < 6 → S (2304 + d) ≤ 1) : sumN (fun d => S (2304 + d)) 6 ≤ 6 := sumN_le (c := 1) (n := 6) hx
theorem sum6_1 {S : Nat → Nat} {d : Nat} (hx : ∀ d, d < 6 → S (2304 + d) ≤ 1) (hd : d < 6) (h1 : S (2304 + d) = 1) : 1 ≤ sumN (fun d => S (2304 + d)) 6 := by
  have := sumN_ge (g := fun d => S (2304 + d)) (n := 6) hd
  have e : (fun d => S (2304 + d)) d = 1 := h1
  omega
theorem sum6_2 {S : Nat → Nat} {d : Nat} (hx : ∀ d, d < 6 → S (2304 + d) ≤ 1) (hd : d < 6) (h1 : S (2304 + d) = 1) (h : sumN (fun d => S (2304 + d)) 6 ≠ 1) : ∃ d2, d2 < 6 ∧ d2 ≠ d ∧ S (2304 + d2) = 1 := by
  by_cases q : ∃ d2, d2 < 6 ∧ d2 ≠ d ∧ S (2304 + d2) = 1
  · exact q
  · exfalso
    have e := sumN_ch (g := fun d => S (2304 + d)) (g' := fun _ => 0) (k := d) (n := 6) hd (fun i hi hne => by
      have := hx i hi
      by_cases c : S (2304 + i) = 1
      · exact absurd ⟨i, hi, hne, c⟩ q
      · show 0 = S (2304 + i)
        omega)
    have e0 : sumN (fun _ => 0) 6 = 0 := sumN_0 (fun _ _ => rfl)
    rw [e0] at e
    have e1 : (fun d => S (2304 + d)) d = 1 := h1
    omega
/-! ===== makeClone ===== -/
theorem cUd {M : zM} {S : Nat → Nat} (hR : R_ds 1 M S) (hx : ∀ d, d < 6 → S (2304 + d) ≤ 1) : (∃ d, d < 6 ∧ S (2304 + d) = 0 ∧ (∀ j, j < d → S (2304 + j) ≠ 0) ∧ fX5_unusedDataset 1 M = some (nI d)) ∨ ((∀ d, d < 6 → S (2304 + d) ≠ 0) ∧ fX5_unusedDataset 1 M = some (-nI 1)) := by
  unfold fX5_unusedDataset
  rcases z_loopW (f := fun s : Int32 => fX5_unusedDataset_L1 1 M s) (fun i => S (2304 + i) = 0) (fun i => (Sum.inr (nI i) : Unit ⊕ Int32)) (Sum.inl ()) 0 6 (by decide) (s := 0) rfl (fun i _ => Classical.em _) (fun i hi q => by
    have e := z_lq11 (V := 1) hi
    have q1 := hx i hi
    simp (disch := first | omega | assumption) only [l_0, l_1, l_2, l_3, l_4, l_5, l_6, l_7, l_8, l_11, l_12, l_15, l_16, l_31, l_32, l_66, l_80, l_100, l_127, l_128, l_768, l_2304, l_2310, l_2316, l_2388, l_2394, l_2406, l_2418, l_2430, l_2558, l_2686, l_2814, l_2942, l_3070, l_3390, l_3394, l_3395, l_3396, l_3397, n_leT, n_leF, n_ltT, n_ltF, n_eqT, n_eqF, nI_add, pk_mul, n_sub, z_ldn, z_san, z_bs, z_b2s, z_b3s, z_ocN, z_ocS, z_oxL, z_oxR, z_scL, z_scR, ↓reduceIte, Nat.zero_add, Nat.add_zero, Nat.zero_lt_succ, true_and, and_true, eq_self, fX5_unusedDataset_L1, e, (hR i hi).1]) (fun i hi q => by
    have e := z_lq11 (V := 1) hi
    simp (disch := first | omega | assumption) only [l_0, l_1, l_2, l_3, l_4, l_5, l_6, l_7, l_8, l_11, l_12, l_15, l_16, l_31, l_32, l_66, l_80, l_100, l_127, l_128, l_768, l_2304, l_2310, l_2316, l_2388, l_2394, l_2406, l_2418, l_2430, l_2558, l_2686, l_2814, l_2942, l_3070, l_3390, l_3394, l_3395, l_3396, l_3397, n_leT, n_leF, n_ltT, n_ltF, n_eqT, n_eqF, nI_add, pk_mul, n_sub, z_ldn, z_san, z_bs, z_b2s, z_b3s, z_ocN, z_ocS, z_oxL, z_oxR, z_scL, z_scR, ↓reduceIte, Nat.zero_add, Nat.add_zero, Nat.zero_lt_succ, true_and, and_true, eq_self, fX5_unusedDataset_L1, e, (hR i hi).1, q]) (by simp (disch := first | omega | assumption) only [l_0, l_1, l_2, l_3, l_4, l_5, l_6, l_7, l_8, l_11, l_12, l_15, l_16, l_31, l_32, l_66, l_80, l_100, l_127, l_128, l_768, l_2304, l_2310, l_2316, l_2388, l_2394, l_2406, l_2418, l_2430, l_2558, l_2686, l_2814, l_2942, l_3070, l_3390, l_3394, l_3395, l_3396, l_3397, n_leT, n_leF, n_ltT, n_ltF, n_eqT, n_eqF, nI_add, pk_mul, n_sub, z_ldn, z_san, z_bs, z_b2s, z_b3s, z_ocN, z_ocS, z_oxL, z_oxR, z_scL, z_scR, ↓reduceIte, Nat.zero_add, Nat.add_zero, Nat.zero_lt_succ, true_and, and_true, eq_self, fX5_unusedDataset_L1]) with ⟨i, h1, h2, h3, h4⟩ | ⟨h1, h2⟩
  · exact Or.inl ⟨i, h1, h2, h3, by rw [h4]; rfl⟩
  · exact Or.inr ⟨h1, by rw [h2]; rfl⟩
theorem sum6_f {S : Nat → Nat} (hx : ∀ d, d < 6 → S (2304 + d) ≤ 1) (h : ∀ d, d < 6 → S (2304 + d) ≠ 0) : sumN (fun d => S (2304 + d)) 6 = 6 := by
  rw [sumN_cg (g' := fun _ => 1) (fun d hd => by
    have := hx d hd
    have := h d hd
    show S (2304 + d) = 1
    omega)]
  rfl
theorem sum6_l {S : Nat → Nat} {d : Nat} (hx : ∀ d, d < 6 → S (2304 + d) ≤ 1) (hd : d < 6) (h : S (2304 + d) = 0) : sumN (fun d => S (2304 + d)) 6 ≤ 5 := by
  have e := sumN_ch (g := fun d => S (2304 + d)) (g' := fun i => if i = d then 1 else S (2304 + i)) (k := d) (n := 6) hd (fun i hi hne => if_neg hne)
  have e1 : (if d = d then 1 else S (2304 + d)) = 1 := if_pos rfl
  have e2 : S (2304 + d) = 0 := h
  have e3 : sumN (fun i => if i = d then 1 else S (2304 + i)) 6 ≤ 1 * 6 := sumN_le (fun i hi => by
    have := hx i hi
    by_cases q : i = d
    · rw [if_pos q]
      exact Nat.le_refl _
    · rw [if_neg q]
      exact this)
  omega
/-! ===== dropping a snapshot ===== -/
theorem z_loopR2 {f : Int32 × zM → Option ((Int32 × zM) ⊕ zM)} (k base lo e : Nat) (g : Nat → Int32) (he : e < 4000) {s : Int32} {M : zM} (hs : s = nI lo) (h : ∀ i M', i < e → (∀ a, a ≠ k → M' a = M a) → (∀ j, M' k j = if base ≤ j ∧ j < base + i then g (j - base) else M k j) → f (nI (lo + i), M') = some (.inl (nI (lo + i + 1), z_st M' k (base + i) (g i)))) (hx : ∀ M', (∀ j, M' k j = if base ≤ j ∧ j < base + e then g (j - base) else M k j) → f (nI (lo + e), M') = some (.inr M')) : ∃ M', z_loop f z_FU (s, M) = some M' ∧ (∀ a, a ≠ k → M' a = M a) ∧ ∀ j, M' k j = if base ≤ j ∧ j < base + e then g (j - base) else M k j :=
  z_loopM (f := f) (fun i M' => (∀ a, a ≠ k → M' a = M a) ∧ ∀ j, M' k j = if base ≤ j ∧ j < base + i then g (j - base) else M k j) (fun M' => (∀ a, a ≠ k → M' a = M a) ∧ ∀ j, M' k j = if base ≤ j ∧ j < base + e then g (j - base) else M k j) lo e he hs ⟨fun a _ => rfl, fun j => by rw [if_neg (by omega)]⟩ (fun i M' hi hI => ⟨_, h i M' hi hI.1 hI.2, fun a ha => by rw [s_n ha]; exact hI.1 a ha, fun j => by
    rw [s_s]
    by_cases hj : j = base + i
    · rw [hj, u_s, if_pos (by omega), Nat.add_sub_cancel_left]
    · rw [u_n hj, hI.2 j]
      by_cases hj2 : base ≤ j ∧ j < base + i
      · rw [if_pos hj2, if_pos (by omega)]
      · rw [if_neg hj2, if_neg (by omega)]⟩) (fun M' hI => ⟨M', hx M' hI.2, hI⟩)
def dropS (S : Nat → Nat) (o p s : Nat) : Nat → Nat := rngN (updN (rngN (updN S (2388 + o) (S (2388 + o) - 1)) (2316 + 12 * o + p) (S (2388 + o) - 1 - p) (fun i => S (2316 + 12 * o + p + i + 1))) (2394 + s) 0) (768 + 128 * s) 128 (fun _ => 0)
section
variable {S : Nat → Nat} {o p s : Nat}
theorem dr_T (hs : s < 12) {k : Nat} (hk : k < 2304) : dropS S o p s k = if 768 + 128 * s ≤ k ∧ k < 768 + 128 * s + 128 then 0 else S k := by
  unfold dropS
  by_cases q : 768 + 128 * s ≤ k ∧ k < 768 + 128 * s + 128
  · rw [rng_in q.1 q.2, if_pos q]
  · rw [rng_out (by omega), if_neg q, upN_n (by omega), rng_out (by omega), upN_n (by omega)]
theorem dr_E (hs : s < 12) {k : Nat} (h1 : 2304 ≤ k) (h2 : k < 2316) : dropS S o p s k = S k := by
  unfold dropS
  rw [rng_out (by omega), upN_n (by omega), rng_out (by omega), upN_n (by omega)]
theorem dr_O (ho : o < 6) (hs : s < 12) (hc : S (2388 + o) ≤ 12) {d r : Nat} (hd : d < 6) (hr : r < 12) : z_ord (dropS S o p s) d r = if d = o ∧ p ≤ r ∧ r < S (2388 + o) - 1 then z_ord S o (r + 1) else z_ord S d r := by
  unfold dropS z_ord
  rw [rng_out (by omega), upN_n (by omega)]
  by_cases q : d = o ∧ p ≤ r ∧ r < S (2388 + o) - 1
  · rw [if_pos q, rng_in (by omega) (by omega)]
    congr 1
    omega
  · rw [if_neg q, rng_out (by omega), upN_n (by omega)]
theorem dr_C (ho : o < 6) (hs : s < 12) (hc : S (2388 + o) ≤ 12) {d : Nat} (hd : d < 6) : dropS S o p s (2388 + d) = if d = o then S (2388 + o) - 1 else S (2388 + d) := by
  unfold dropS
  rw [rng_out (by omega), upN_n (by omega), rng_out (by omega)]
  by_cases q : d = o
  · rw [if_pos q, q, upN_s]
  · rw [if_neg q, upN_n (by omega)]
theorem dr_N (ho : o < 6) (hs : s < 12) (hc : S (2388 + o) ≤ 12) {t : Nat} (ht : t < 12) : dropS S o p s (2394 + t) = if t = s then 0 else S (2394 + t) := by
  unfold dropS
  rw [rng_out (by omega)]
  by_cases q : t = s
  · rw [if_pos q, q, upN_s]
  · rw [if_neg q, upN_n (by omega), rng_out (by omega), upN_n (by omega)]
theorem dr_R (ho : o < 6) (hs : s < 12) (hc : S (2388 + o) ≤ 12) {k : Nat} (hk : 2406 ≤ k) : dropS S o p s k = S k := by
  unfold dropS
  rw [rng_out (by omega), upN_n (by omega), rng_out (by omega), upN_n (by omega)]
end
theorem Is_inj {n : Nat} {S : Nat → Nat} (h : z_Is n S) {d : Nat} (hd : d < 6) {r q : Nat} (h1 : r < S (2388 + d)) (h2 : q < S (2388 + d)) (e : z_ord S d r = z_ord S d q) : r = q := by
  have i7 := h.2.2.2.2.2.2.1
  rcases Nat.lt_trichotomy r q with c | c | c
  · have := i7 d hd r q c h2
    rw [e] at this
    omega
  · exact c
  · have := i7 d hd q r c h1
    rw [e] at this
    omega
/-- a place in the order after the dropping, as it was before -/
def z_fr (o p d r : Nat) : Nat := if d = o ∧ p ≤ r then r + 1 else r
theorem z_Is_drop {n : Nat} {S : Nat → Nat} (h : z_Is n S) {o p s : Nat} (hs : s < 12) (h0 : S (2394 + s) ≠ 0) (ho : S (2418 + s) = o) (hp : p < S (2388 + o)) (he : z_ord S o p = s) (hno : ∀ d, d < 6 → S (2310 + d) ≠ s + 1) : z_Is n (dropS S o p s) := by
  have hIs := h
  obtain ⟨i1, i2, i3, i4, i5, i6, i7, i8, i9, j1, j2, j3, j5⟩ := h
  have ho6 : o < 6 := ho ▸ (i4 s hs h0).2.1
  have hox : S (2304 + o) = 1 := ho ▸ (i4 s hs h0).2.2.1
  have hc := (i6 o ho6).1
  have eC := fun {d : Nat} (hd : d < 6) => dr_C (p := p) (s := s) ho6 hs hc hd
  have eN := fun {t : Nat} (ht : t < 12) => dr_N (p := p) (s := s) ho6 hs hc ht
  have eR := fun {k : Nat} (hk : 2406 ≤ k) => dr_R (p := p) (s := s) ho6 hs hc hk
  have hf : ∀ d r, d < 6 → r < dropS S o p s (2388 + d) → z_ord (dropS S o p s) d r = z_ord S d (z_fr o p d r) ∧ z_fr o p d r < S (2388 + d) ∧ z_ord S d (z_fr o p d r) ≠ s := fun d r hd hr => by
    rw [eC hd] at hr
    have hr12 : r < 12 := by
      have := (i6 d hd).1
      by_cases q : d = o
      · rw [if_pos q] at hr
        omega
      · rw [if_neg q] at hr
        omega
    rw [dr_O ho6 hs hc hd hr12]
    unfold z_fr
    by_cases q : d = o
    · subst q
      rw [if_pos rfl] at hr
      by_cases q2 : p ≤ r
      · rw [if_pos ⟨rfl, q2, hr⟩, if_pos ⟨rfl, q2⟩]
        exact ⟨rfl, by omega, fun c => by
          have := Is_inj hIs hd (r := r + 1) (q := p) (by omega) hp (by rw [c, he])
          omega⟩
      · rw [if_neg (fun c => q2 c.2.1), if_neg (fun c => q2 c.2)]
        exact ⟨rfl, by omega, fun c => by
          have := Is_inj hIs hd (r := r) (q := p) (by omega) hp (by rw [c, he])
          omega⟩
    · rw [if_neg q] at hr
      rw [if_neg (fun c => q c.1), if_neg (fun c => q c.1)]
      exact ⟨rfl, hr, fun c => by
        have := ((i6 d hd).2 r hr).2.2
        rw [c, ho] at this
        exact q this.symm⟩
  have hm : ∀ d r q, r < q → z_fr o p d r < z_fr o p d q := fun d r q hrq => by
    unfold z_fr
    split <;> split <;> omega
  refine ⟨fun d hd => by rw [dr_E hs (by omega) (by omega)]; exact i1 d hd, ?_, fun d hd => ?_, fun t ht q => ?_, fun t u ht hu q q2 => ?_, fun d hd => ⟨?_, fun r hr => ?_⟩, fun d hd r q hr hq => ?_, fun d hd => ?_, fun r hr => by rw [eR (by omega)]; exact i9 r hr, by rw [eR (by omega)]; exact j1, by rw [eR (by omega)]; exact j2, by rw [eR (by omega)]; exact j3, fun s hs => by rw [eR (by omega)]; exact j5 s hs⟩
  · obtain ⟨d, hd, q⟩ := i2
    exact ⟨d, hd, by rw [dr_E hs (by omega) (by omega)]; exact q⟩
  · rw [dr_E hs (by omega) (by omega), dr_E hs (by omega) (by omega), eC hd]
    intro q
    by_cases c : d = o
    · subst c
      omega
    · rw [if_neg c]
      exact i3 d hd q
  · rw [eN ht] at q
    have hts : t ≠ s := fun c => by
      rw [if_pos c] at q
      exact q rfl
    rw [if_neg hts] at q
    obtain ⟨q1, q2, q3, r, q4, q5⟩ := i4 t ht q
    unfold z_liv
    rw [eN ht, if_neg hts, eR (by omega), eR (by omega), dr_E hs (by omega) (by omega), eC q2]
    refine ⟨q1, q2, q3, ?_⟩
    have hr12 := (i6 _ q2).1
    by_cases c : S (2418 + t) = o
    · rw [c] at q4 q5 q2 ⊢
      rw [if_pos rfl]
      have hrp : r ≠ p := fun e => hts (by rw [← q5, e, he])
      by_cases c2 : r < p
      · exact ⟨r, by omega, by rw [dr_O ho6 hs hc q2 (by omega), if_neg (by omega)]; exact q5⟩
      · exact ⟨r - 1, by omega, by rw [dr_O ho6 hs hc q2 (by omega), if_pos (by omega), show r - 1 + 1 = r by omega]; exact q5⟩
    · rw [if_neg c]
      exact ⟨r, q4, by rw [dr_O ho6 hs hc q2 (by omega), if_neg (fun e => c e.1)]; exact q5⟩
  · rw [eN ht] at q q2
    rw [eN hu] at q2
    by_cases c1 : t = s
    · rw [if_pos c1] at q
      exact absurd rfl q
    · by_cases c2 : u = s
      · rw [if_pos c2] at q2
        exact absurd q2 q
      · rw [if_neg c1] at q q2
        rw [if_neg c2] at q2
        exact i5 t u ht hu q q2
  · rw [eC hd]
    have := (i6 d hd).1
    split <;> omega
  · obtain ⟨f1, f2, f3⟩ := hf d r hd hr
    obtain ⟨k1, k2, k3⟩ := (i6 d hd).2 _ f2
    rw [f1, eN k1, if_neg f3, eR (by omega)]
    exact ⟨k1, k2, k3⟩
  · obtain ⟨f1, f2, f3⟩ := hf d r hd (by omega)
    obtain ⟨g1, g2, g3⟩ := hf d q hd hq
    rw [f1, g1, eN ((i6 d hd).2 _ f2).1, if_neg f3, eN ((i6 d hd).2 _ g2).1, if_neg g3]
    exact i7 d hd _ _ (hm d r q hr) g2
  · rw [dr_E hs (by omega) (by omega)]
    refine ⟨(i8 d hd).1, fun q => ?_⟩
    have hx := (i8 d hd).1
    have hn := hno d hd
    rw [eN (by omega), if_neg (by omega)]
    refine ⟨((i8 d hd).2 q).1, fun r hr => ?_⟩
    obtain ⟨f1, f2, f3⟩ := hf d r hd hr
    rw [f1, eN ((i6 d hd).2 _ f2).1, if_neg f3]
    exact ((i8 d hd).2 q).2 _ f2
/-- the class's snapshots: which are taken, whose they are, their ranks -/
def y_sl (V : Nat) (M : zM) (ex ow rk : Nat → Nat) : Prop := ∀ t, t < 12 → M (V + 27 + 3 * t) 1 = nI (ex t) ∧ ex t ≤ 1 ∧ (ex t ≠ 0 → M (V + 27 + 3 * t) 3 = nI (ow t) ∧ ow t < 6 ∧ M (V + 27 + 3 * t) 4 = nI (rk t) ∧ rk t < 12)
theorem cIs {V : Nat} {M : zM} {ex ow rk : Nat → Nat} (h : y_sl V M ex ow rk) {s t : Nat} (hs : s < 12) (ht : t < 12) (h1 : ex s ≠ 0) : fX5_isBehind V (V + 27 + 3 * t) (V + 27 + 3 * s) M = some (nI (if ex t ≠ 0 ∧ ow t = ow s ∧ rk s < rk t then 1 else 0)) := by
  obtain ⟨a1, a2, a3⟩ := h s hs
  obtain ⟨a4, a5, a6, a7⟩ := a3 h1
  obtain ⟨b1, b2, b3⟩ := h t ht
  unfold fX5_isBehind fX2_belongsTo
  by_cases q : ex t = 0
  · rw [show (if ex t ≠ 0 ∧ ow t = ow s ∧ rk s < rk t then 1 else 0) = 0 from if_neg (fun c => c.1 q)]
    simp (disch := first | omega | assumption) only [l_0, l_1, l_2, l_3, l_4, l_5, l_6, l_7, l_8, l_11, l_12, l_15, l_16, l_31, l_32, l_66, l_80, l_100, l_127, l_128, l_768, l_2304, l_2310, l_2316, l_2388, l_2394, l_2406, l_2418, l_2430, l_2558, l_2686, l_2814, l_2942, l_3070, l_3390, l_3394, l_3395, l_3396, l_3397, n_leT, n_leF, n_ltT, n_ltF, n_eqT, n_eqF, nI_add, pk_mul, n_sub, z_ldn, z_san, z_bs, z_b2s, z_b3s, z_ocN, z_ocS, z_oxL, z_oxR, z_scL, z_scR, ↓reduceIte, Nat.zero_add, Nat.add_zero, Nat.zero_lt_succ, true_and, and_true, eq_self, b1, q]
  · obtain ⟨b4, b5, b6, b7⟩ := b3 q
    by_cases q2 : ow t = ow s
    · by_cases q3 : rk s < rk t
      · rw [show (if ex t ≠ 0 ∧ ow t = ow s ∧ rk s < rk t then 1 else 0) = 1 from if_pos ⟨q, q2, q3⟩]
        simp (disch := first | omega | assumption) only [l_0, l_1, l_2, l_3, l_4, l_5, l_6, l_7, l_8, l_11, l_12, l_15, l_16, l_31, l_32, l_66, l_80, l_100, l_127, l_128, l_768, l_2304, l_2310, l_2316, l_2388, l_2394, l_2406, l_2418, l_2430, l_2558, l_2686, l_2814, l_2942, l_3070, l_3390, l_3394, l_3395, l_3396, l_3397, n_leT, n_leF, n_ltT, n_ltF, n_eqT, n_eqF, nI_add, pk_mul, n_sub, z_ldn, z_san, z_bs, z_b2s, z_b3s, z_ocN, z_ocS, z_oxL, z_oxR, z_scL, z_scR, ↓reduceIte, Nat.zero_add, Nat.add_zero, Nat.zero_lt_succ, true_and, and_true, eq_self, b1, b4, a4, q2, b6, a6]
      · rw [show (if ex t ≠ 0 ∧ ow t = ow s ∧ rk s < rk t then 1 else 0) = 0 from if_neg (fun c => q3 c.2.2)]
        simp (disch := first | omega | assumption) only [l_0, l_1, l_2, l_3, l_4, l_5, l_6, l_7, l_8, l_11, l_12, l_15, l_16, l_31, l_32, l_66, l_80, l_100, l_127, l_128, l_768, l_2304, l_2310, l_2316, l_2388, l_2394, l_2406, l_2418, l_2430, l_2558, l_2686, l_2814, l_2942, l_3070, l_3390, l_3394, l_3395, l_3396, l_3397, n_leT, n_leF, n_ltT, n_ltF, n_eqT, n_eqF, nI_add, pk_mul, n_sub, z_ldn, z_san, z_bs, z_b2s, z_b3s, z_ocN, z_ocS, z_oxL, z_oxR, z_scL, z_scR, ↓reduceIte, Nat.zero_add, Nat.add_zero, Nat.zero_lt_succ, true_and, and_true, eq_self, b1, b4, a4, q2, b6, a6]
    · rw [show (if ex t ≠ 0 ∧ ow t = ow s ∧ rk s < rk t then 1 else 0) = 0 from if_neg (fun c => q2 c.2.1)]
      simp (disch := first | omega | assumption) only [l_0, l_1, l_2, l_3, l_4, l_5, l_6, l_7, l_8, l_11, l_12, l_15, l_16, l_31, l_32, l_66, l_80, l_100, l_127, l_128, l_768, l_2304, l_2310, l_2316, l_2388, l_2394, l_2406, l_2418, l_2430, l_2558, l_2686, l_2814, l_2942, l_3070, l_3390, l_3394, l_3395, l_3396, l_3397, n_leT, n_leF, n_ltT, n_ltF, n_eqT, n_eqF, nI_add, pk_mul, n_sub, z_ldn, z_san, z_bs, z_b2s, z_b3s, z_ocN, z_ocS, z_oxL, z_oxR, z_scL, z_scR, ↓reduceIte, Nat.zero_add, Nat.add_zero, Nat.zero_lt_succ, true_and, and_true, eq_self, b1, b4, a4]
theorem y_sl_rk {V : Nat} {M : zM} {ex ow rk rk' : Nat → Nat} (h : y_sl V M ex ow rk) (hc : ∀ t, t < 12 → rk' t = rk t) : y_sl V M ex ow rk' := fun t ht => by
  rw [hc t ht]
  exact h t ht
/-- ranks, when the first i snapshots are done -/
def z_rd (ex ow rk : Nat → Nat) (s i : Nat) : Nat → Nat := fun t => if t < i ∧ ex t ≠ 0 ∧ ow t = ow s ∧ rk s < rk t then rk t - 1 else rk t
theorem rd_n {ex ow rk : Nat → Nat} {s i t : Nat} (h : ¬ (t < i ∧ ex t ≠ 0 ∧ ow t = ow s ∧ rk s < rk t)) : z_rd ex ow rk s i t = rk t := if_neg h
theorem rd_y {ex ow rk : Nat → Nat} {s i t : Nat} (h : t < i ∧ ex t ≠ 0 ∧ ow t = ow s ∧ rk s < rk t) : z_rd ex ow rk s i t = rk t - 1 := if_pos h
theorem cDrop {V : Nat} {M : zM} {T ex ow rk : Nat → Nat} (hT : z_T V M T) (h : y_sl V M ex ow rk) {s : Nat} (hs : s < 12) (h1 : ex s ≠ 0) : ∃ M', fX5_drop V (V + 27 + 3 * s) M = some M' ∧ y_sl V M' (updN ex s 0) ow (fun t => if ex t ≠ 0 ∧ ow t = ow s ∧ rk s < rk t then rk t - 1 else rk t) ∧ z_T V M' (z_clrT T (6 + s)) ∧ (∀ t j, t < 12 → j ≠ 1 → j ≠ 4 → M' (V + 27 + 3 * t) j = M (V + 27 + 3 * t) j) ∧ ∀ a, a ≠ V + 3 + 4 → a ≠ V + 9 + 3 * (6 + s) + 1 + 1 → (∀ t, t < 12 → a ≠ V + 27 + 3 * t) → M' a = M a := by
  unfold fX5_drop
  obtain ⟨M1, e1, e2, e3, e4⟩ := z_loopM (f := fun x : Int32 × zM => fX5_drop_L1 V (V + 27 + 3 * s) x.1 x.2) (fun i M' => y_sl V M' ex ow (z_rd ex ow rk s i) ∧ (∀ t j, t < 12 → j ≠ 4 → M' (V + 27 + 3 * t) j = M (V + 27 + 3 * t) j) ∧ ∀ a, (∀ t, t < 12 → a ≠ V + 27 + 3 * t) → M' a = M a) (fun M' => y_sl V M' ex ow (z_rd ex ow rk s 12) ∧ (∀ t j, t < 12 → j ≠ 4 → M' (V + 27 + 3 * t) j = M (V + 27 + 3 * t) j) ∧ ∀ a, (∀ t, t < 12 → a ≠ V + 27 + 3 * t) → M' a = M a) 0 12 (by decide) (s := 0) (M := M) rfl ⟨y_sl_rk h (fun t ht => rd_n (fun c => absurd c.1 (Nat.not_lt_zero t))), fun _ _ _ _ => rfl, fun _ _ => rfl⟩ (fun i M' hi hI => by
      obtain ⟨b1, b2, b3⟩ := hI
      have c1 := cIs b1 hs hi h1
      have z1 : z_rd ex ow rk s i s = rk s := rd_n (fun c => absurd c.2.2.2 (Nat.lt_irrefl _))
      have z2 : z_rd ex ow rk s i i = rk i := rd_n (fun c => absurd c.1 (Nat.lt_irrefl _))
      rw [z1, z2] at c1
      by_cases q : ex i ≠ 0 ∧ ow i = ow s ∧ rk s < rk i
      · rw [show (if ex i ≠ 0 ∧ ow i = ow s ∧ rk s < rk i then 1 else 0) = 1 from if_pos q] at c1
        have d1 := (b1 i hi).2.2 q.1
        rw [z2] at d1
        obtain ⟨d4, d5, d2, d3⟩ := d1
        have hq3 := q.2.2
        have z3 : z_rd ex ow rk s (i + 1) i = rk i - 1 := rd_y ⟨Nat.lt_succ_self i, q⟩
        refine ⟨z_st M' (V + 27 + 3 * i) 4 (nI (rk i - 1)), ?_, fun t ht => ?_, fun t j ht hj => ?_, fun a ha => by rw [s_n (ha i hi)]; exact b3 a ha⟩
        · have e := z_lq12 (V := V) hi
          simp (disch := first | omega | assumption) only [l_0, l_1, l_2, l_3, l_4, l_5, l_6, l_7, l_8, l_11, l_12, l_15, l_16, l_31, l_32, l_66, l_80, l_100, l_127, l_128, l_768, l_2304, l_2310, l_2316, l_2388, l_2394, l_2406, l_2418, l_2430, l_2558, l_2686, l_2814, l_2942, l_3070, l_3390, l_3394, l_3395, l_3396, l_3397, n_leT, n_leF, n_ltT, n_ltF, n_eqT, n_eqF, nI_add, pk_mul, n_sub, z_ldn, z_san, z_bs, z_b2s, z_b3s, z_ocN, z_ocS, z_oxL, z_oxR, z_scL, z_scR, ↓reduceIte, Nat.zero_add, Nat.add_zero, Nat.zero_lt_succ, true_and, and_true, eq_self, fX5_drop_L1, e, c1, d2]
        · obtain ⟨f1, f2, f3⟩ := b1 t ht
          by_cases c : t = i
          · subst c
            rw [s_s, u_n (by decide), u_n (by decide), u_s, z3]
            exact ⟨f1, f2, fun g => ⟨(f3 g).1, (f3 g).2.1, rfl, by omega⟩⟩
          · have hp : z_rd ex ow rk s (i + 1) t = z_rd ex ow rk s i t := by
              by_cases c3 : t < i ∧ ex t ≠ 0 ∧ ow t = ow s ∧ rk s < rk t
              · rw [rd_y c3, rd_y ⟨by have := c3.1; omega, c3.2⟩]
              · rw [rd_n c3, rd_n (fun x => c3 ⟨by have := x.1; omega, x.2⟩)]
            rw [s_n (by omega), hp]
            exact ⟨f1, f2, f3⟩
        · by_cases c : t = i
          · subst c
            rw [s_s, u_n hj]
            exact b2 t j ht hj
          · rw [s_n (by omega)]
            exact b2 t j ht hj
      · rw [show (if ex i ≠ 0 ∧ ow i = ow s ∧ rk s < rk i then 1 else 0) = 0 from if_neg q] at c1
        refine ⟨M', ?_, y_sl_rk b1 (fun t ht => ?_), b2, b3⟩
        · have e := z_lq12 (V := V) hi
          simp (disch := first | omega | assumption) only [l_0, l_1, l_2, l_3, l_4, l_5, l_6, l_7, l_8, l_11, l_12, l_15, l_16, l_31, l_32, l_66, l_80, l_100, l_127, l_128, l_768, l_2304, l_2310, l_2316, l_2388, l_2394, l_2406, l_2418, l_2430, l_2558, l_2686, l_2814, l_2942, l_3070, l_3390, l_3394, l_3395, l_3396, l_3397, n_leT, n_leF, n_ltT, n_ltF, n_eqT, n_eqF, nI_add, pk_mul, n_sub, z_ldn, z_san, z_bs, z_b2s, z_b3s, z_ocN, z_ocS, z_oxL, z_oxR, z_scL, z_scR, ↓reduceIte, Nat.zero_add, Nat.add_zero, Nat.zero_lt_succ, true_and, and_true, eq_self, fX5_drop_L1, e, c1]
        · by_cases c3 : t < i ∧ ex t ≠ 0 ∧ ow t = ow s ∧ rk s < rk t
          · rw [rd_y c3, rd_y ⟨by have := c3.1; omega, c3.2⟩]
          · rw [rd_n c3, rd_n (fun x => c3 ⟨by
              have : t ≠ i := fun y => q (y ▸ x.2)
              have := x.1
              omega, x.2⟩)]) (fun M' hI => ⟨M', by simp (disch := first | omega | assumption) only [l_0, l_1, l_2, l_3, l_4, l_5, l_6, l_7, l_8, l_11, l_12, l_15, l_16, l_31, l_32, l_66, l_80, l_100, l_127, l_128, l_768, l_2304, l_2310, l_2316, l_2388, l_2394, l_2406, l_2418, l_2430, l_2558, l_2686, l_2814, l_2942, l_3070, l_3390, l_3394, l_3395, l_3396, l_3397, n_leT, n_leF, n_ltT, n_ltF, n_eqT, n_eqF, nI_add, pk_mul, n_sub, z_ldn, z_san, z_bs, z_b2s, z_b3s, z_ocN, z_ocS, z_oxL, z_oxR, z_scL, z_scR, ↓reduceIte, Nat.zero_add, Nat.add_zero, Nat.zero_lt_succ, true_and, and_true, eq_self, fX5_drop_L1], hI⟩)
  have e2 : y_sl V M1 ex ow (fun t => if ex t ≠ 0 ∧ ow t = ow s ∧ rk s < rk t then rk t - 1 else rk t) := y_sl_rk e2 (fun t ht => by
    show (if ex t ≠ 0 ∧ ow t = ow s ∧ rk s < rk t then rk t - 1 else rk t) = _
    by_cases c3 : ex t ≠ 0 ∧ ow t = ow s ∧ rk s < rk t
    · rw [if_pos c3, rd_y ⟨ht, c3⟩]
    · rw [if_neg c3, rd_n (fun x => c3 x.2)])
  obtain ⟨M2, g1, g2, g3⟩ := cClr (z_T_cg hT (e4 _ (fun t ht => by omega)) (fun u hu => e4 _ (fun t ht => by omega))) (show 6 + s < 18 by omega)
  rw [show V + 9 + 3 * (6 + s) + 1 = V + 27 + 3 * s + 1 by omega] at g1
  have hcell : ∀ t, t < 12 → M2 (V + 27 + 3 * t) = M1 (V + 27 + 3 * t) := fun t ht => g3 _ (by omega) (by omega)
  refine ⟨z_st M2 (V + 27 + 3 * s) 1 (nI 0), ?_, fun t ht => ?_, z_T_cg g2 (s_n (by omega)) (fun u hu => s_n (by omega)), fun t j ht hj hj4 => ?_, fun a k1 k2 k3 => by rw [s_n (k3 s hs), g3 a k1 k2, e4 a k3]⟩
  · simp (disch := first | omega | assumption) only [l_0, l_1, l_2, l_3, l_4, l_5, l_6, l_7, l_8, l_11, l_12, l_15, l_16, l_31, l_32, l_66, l_80, l_100, l_127, l_128, l_768, l_2304, l_2310, l_2316, l_2388, l_2394, l_2406, l_2418, l_2430, l_2558, l_2686, l_2814, l_2942, l_3070, l_3390, l_3394, l_3395, l_3396, l_3397, n_leT, n_leF, n_ltT, n_ltF, n_eqT, n_eqF, nI_add, pk_mul, n_sub, z_ldn, z_san, z_bs, z_b2s, z_b3s, z_ocN, z_ocS, z_oxL, z_oxR, z_scL, z_scR, ↓reduceIte, Nat.zero_add, Nat.add_zero, Nat.zero_lt_succ, true_and, and_true, eq_self, show z_loop _ z_FU (nI 0, M) = _ from e1, g1, z_pz0]
  · obtain ⟨f1, f2, f3⟩ := e2 t ht
    by_cases c : t = s
    · subst c
      rw [s_s, u_s, upN_s]
      exact ⟨rfl, by decide, fun x => absurd rfl x⟩
    · rw [s_n (by omega), upN_n c, hcell t ht]
      exact ⟨f1, f2, f3⟩
  · by_cases c : t = s
    · subst c
      rw [s_s, u_n hj, hcell t ht]
      exact e3 t j ht hj4
    · rw [s_n (by omega), hcell t ht]
      exact e3 t j ht hj4
/-- is it an origin: over the datasets before i -/
def orN (S : Nat → Nat) (s : Nat) : Nat → Nat
  | 0 => 0
  | i + 1 => if orN S s i = 0 then (if S (2310 + i) = s + 1 then 1 else 0) else 1
theorem orN_1 {S : Nat → Nat} {s : Nat} : ∀ {i : Nat}, orN S s i ≤ 1
  | 0 => Nat.zero_le _
  | i + 1 => by
    unfold orN
    split
    · split <;> omega
    · omega
theorem orN_0 {S : Nat → Nat} {s : Nat} : ∀ {i : Nat}, orN S s i = 0 ↔ ∀ d, d < i → S (2310 + d) ≠ s + 1
  | 0 => ⟨fun _ d hd => absurd hd (Nat.not_lt_zero d), fun _ => rfl⟩
  | i + 1 => by
    have ih := orN_0 (S := S) (s := s) (i := i)
    unfold orN
    constructor
    · intro h d hd
      by_cases q : orN S s i = 0
      · rw [if_pos q] at h
        by_cases c : d = i
        · subst c
          intro c2
          rw [if_pos c2] at h
          omega
        · exact ih.mp q d (by omega)
      · rw [if_neg q] at h
        omega
    · intro h
      rw [if_pos (ih.mpr (fun d hd => h d (by omega))), if_neg (h i (by omega))]
theorem cOr {V n : Nat} {M : zM} {S : Nat → Nat} (hR : R_ds V M S) (hIs : z_Is n S) (hn : n < 600) {s : Nat} (hs : s < 12) (h0 : S (2394 + s) ≠ 0) : fX5_isOrigin V (nI (S (2394 + s) - 1)) M = some (nI (orN S s 6)) := by
  have hb : ∀ t, t < 12 → S (2394 + t) ≤ n := fun t ht => by
    by_cases q : S (2394 + t) = 0
    · omega
    · have := (hIs.2.2.2.1 t ht q).1
      have := hIs.2.2.2.2.2.2.2.2.2.1
      omega
  have hbs := hb s hs
  have hk : ∀ i, i < 6 → (nI (z_onum S i) - nI 1 = nI (S (2394 + s) - 1)) = (S (2310 + i) = s + 1) := fun i hi => by
    obtain ⟨k1, k2⟩ := hIs.2.2.2.2.2.2.2.1 i hi
    rw [← n_pm1 h0]
    have hbo : z_onum S i < 2 ^ 30 := by
      unfold z_onum
      split
      · decide
      · have := hb (S (2310 + i) - 1) (by omega)
        omega
    refine propext (Iff.trans (n_sub_eq hbo (by omega)) ⟨fun e => ?_, fun e => ?_⟩)
    · unfold z_onum at e
      by_cases q : S (2310 + i) = 0
      · rw [if_pos q] at e
        exact absurd e.symm h0
      · rw [if_neg q] at e
        have := hIs.2.2.2.2.1 s (S (2310 + i) - 1) hs (by omega) h0 e.symm
        omega
    · unfold z_onum
      rw [if_neg (by omega), e, Nat.add_sub_cancel]
  unfold fX5_isOrigin
  rcases z_loopW (f := fun s9 => fX5_isOrigin_L1 V (nI (S (2394 + s) - 1)) M s9) (fun i => S (2310 + i) = s + 1) (fun _ => (Sum.inr (nI 1) : Unit ⊕ Int32)) (Sum.inl ()) 0 6 (by decide) (s := 0) rfl (fun i _ => Classical.em _) (fun i hi hne => by
    have e := z_lq11 (V := V) hi
    have c1 := hIs.1 i hi
    have c2 := hk i hi
    have c3 : (S (2310 + i) = s + 1) = False := eq_false hne
    rw [c3] at c2
    by_cases he : S (2304 + i) = 0
    · simp (disch := first | omega | assumption) only [l_0, l_1, l_2, l_3, l_4, l_5, l_6, l_7, l_8, l_11, l_12, l_15, l_16, l_31, l_32, l_66, l_80, l_100, l_127, l_128, l_768, l_2304, l_2310, l_2316, l_2388, l_2394, l_2406, l_2418, l_2430, l_2558, l_2686, l_2814, l_2942, l_3070, l_3390, l_3394, l_3395, l_3396, l_3397, n_leT, n_leF, n_ltT, n_ltF, n_eqT, n_eqF, nI_add, pk_mul, n_sub, z_ldn, z_san, z_bs, z_b2s, z_b3s, z_ocN, z_ocS, z_oxL, z_oxR, z_scL, z_scR, ↓reduceIte, Nat.zero_add, Nat.add_zero, Nat.zero_lt_succ, true_and, and_true, eq_self, fX5_isOrigin_L1, e, (hR i hi).1, he]
    · simp (disch := first | omega | assumption) only [l_0, l_1, l_2, l_3, l_4, l_5, l_6, l_7, l_8, l_11, l_12, l_15, l_16, l_31, l_32, l_66, l_80, l_100, l_127, l_128, l_768, l_2304, l_2310, l_2316, l_2388, l_2394, l_2406, l_2418, l_2430, l_2558, l_2686, l_2814, l_2942, l_3070, l_3390, l_3394, l_3395, l_3396, l_3397, n_leT, n_leF, n_ltT, n_ltF, n_eqT, n_eqF, nI_add, pk_mul, n_sub, z_ldn, z_san, z_bs, z_b2s, z_b3s, z_ocN, z_ocS, z_oxL, z_oxR, z_scL, z_scR, ↓reduceIte, Nat.zero_add, Nat.add_zero, Nat.zero_lt_succ, true_and, and_true, eq_self, fX5_isOrigin_L1, e, (hR i hi).1, (hR i hi).2, c2]) (fun i hi hie => by
    have e := z_lq11 (V := V) hi
    have c1 := hIs.1 i hi
    have c2 := hk i hi
    have c3 : (S (2310 + i) = s + 1) = True := eq_true hie
    rw [c3] at c2
    have he : S (2304 + i) = 1 := by
      by_cases q : S (2304 + i) = 0
      · have := (hIs.2.2.1 i hi q).1
        omega
      · omega
    simp (disch := first | omega | assumption) only [l_0, l_1, l_2, l_3, l_4, l_5, l_6, l_7, l_8, l_11, l_12, l_15, l_16, l_31, l_32, l_66, l_80, l_100, l_127, l_128, l_768, l_2304, l_2310, l_2316, l_2388, l_2394, l_2406, l_2418, l_2430, l_2558, l_2686, l_2814, l_2942, l_3070, l_3390, l_3394, l_3395, l_3396, l_3397, n_leT, n_leF, n_ltT, n_ltF, n_eqT, n_eqF, nI_add, pk_mul, n_sub, z_ldn, z_san, z_bs, z_b2s, z_b3s, z_ocN, z_ocS, z_oxL, z_oxR, z_scL, z_scR, ↓reduceIte, Nat.zero_add, Nat.add_zero, Nat.zero_lt_succ, true_and, and_true, eq_self, fX5_isOrigin_L1, e, (hR i hi).1, (hR i hi).2, he, c2]) (by simp (disch := first | omega | assumption) only [l_0, l_1, l_2, l_3, l_4, l_5, l_6, l_7, l_8, l_11, l_12, l_15, l_16, l_31, l_32, l_66, l_80, l_100, l_127, l_128, l_768, l_2304, l_2310, l_2316, l_2388, l_2394, l_2406, l_2418, l_2430, l_2558, l_2686, l_2814, l_2942, l_3070, l_3390, l_3394, l_3395, l_3396, l_3397, n_leT, n_leF, n_ltT, n_ltF, n_eqT, n_eqF, nI_add, pk_mul, n_sub, z_ldn, z_san, z_bs, z_b2s, z_b3s, z_ocN, z_ocS, z_oxL, z_oxR, z_scL, z_scR, ↓reduceIte, Nat.zero_add, Nat.add_zero, Nat.zero_lt_succ, true_and, and_true, eq_self, fX5_isOrigin_L1]) with ⟨i, q1, q2, q3, q4⟩ | ⟨q1, q2⟩
  · rw [q4]
    have : orN S s 6 = 1 := by
      have c1 := orN_1 (S := S) (s := s) (i := 6)
      by_cases c2 : orN S s 6 = 0
      · exact absurd q2 (orN_0.mp c2 i q1)
      · omega
    rw [this]
    rfl
  · rw [q2, orN_0.mpr q1]
    rfl
/-! ===== destroySnapshot ===== -/
theorem z_rk {V n : Nat} {M : zM} {S : Nat → Nat} (hR : R_sn V M S) (hIs : z_Is n S) : ∃ rk : Nat → Nat, y_sl V M (fun t => if S (2394 + t) = 0 then 0 else 1) (fun t => S (2418 + t)) rk ∧ ∀ t, t < 12 → S (2394 + t) ≠ 0 → rk t < S (2388 + S (2418 + t)) ∧ z_ord S (S (2418 + t)) (rk t) = t := by
  have hch : ∀ t, ∃ r, t < 12 → S (2394 + t) ≠ 0 → M (V + 27 + 3 * t) 4 = nI r ∧ r < S (2388 + S (2418 + t)) ∧ z_ord S (S (2418 + t)) r = t := fun t => by
    by_cases q : t < 12 ∧ S (2394 + t) ≠ 0
    · obtain ⟨_, _, _, r, h⟩ := (hR t q.1).2 q.2
      exact ⟨r, fun _ _ => h⟩
    · exact ⟨0, fun h1 h2 => absurd ⟨h1, h2⟩ q⟩
  obtain ⟨rk, hrk⟩ := Classical.axiomOfChoice hch
  refine ⟨rk, fun t ht => ⟨(hR t ht).1, ?_, fun q => ?_⟩, fun t ht q => (hrk t ht q).2⟩
  · show (if S (2394 + t) = 0 then 0 else 1) ≤ 1
    split <;> omega
  · have q1 : S (2394 + t) ≠ 0 := fun c => q (if_pos c)
    have c1 := (hIs.2.2.2.1 t ht q1).2.1
    have c2 := (hIs.2.2.2.2.2.1 _ c1).1
    have c3 := hrk t ht q1
    exact ⟨((hR t ht).2 q1).2.1, c1, c3.1, by omega⟩
theorem R_sn_of {V : Nat} {M : zM} {S ex ow rk : Nat → Nat} (h : y_sl V M ex ow rk) (hN : ∀ t, t < 12 → (S (2394 + t) = 0 ↔ ex t = 0)) (h2 : ∀ t, t < 12 → ex t ≠ 0 → M (V + 27 + 3 * t) 2 = nI (S (2394 + t) - 1) ∧ M (V + 27 + 3 * t) 5 = nI (S (2406 + t)) ∧ S (2418 + t) = ow t ∧ rk t < S (2388 + ow t) ∧ z_ord S (ow t) (rk t) = t) : R_sn V M S := fun t ht => by
  obtain ⟨a1, a2, a3⟩ := h t ht
  refine ⟨?_, fun q => ?_⟩
  · rw [a1]
    by_cases q : S (2394 + t) = 0
    · rw [if_pos q, (hN t ht).mp q]
    · have hx : ex t ≠ 0 := fun c => q ((hN t ht).mpr c)
      rw [if_neg q]
      exact congrArg nI (by omega)
  · have q1 : ex t ≠ 0 := fun c => q ((hN t ht).mpr c)
    obtain ⟨b1, b2, b3, b4, b5⟩ := h2 t ht q1
    obtain ⟨c1, c2, c3, c4⟩ := a3 q1
    exact ⟨b1, by rw [b3]; exact c1, b2, rk t, c3, by rw [b3]; exact b4, by rw [b3]; exact b5⟩
/-! ===== write ===== -/
def bR (g : Nat → Nat) : Nat → Nat
  | 0 => 0
  | i + 1 => if g (i + 1) ≤ g (bR g i) then bR g i else i + 1
theorem bR_le {g : Nat → Nat} : ∀ {i : Nat}, bR g i ≤ i
  | 0 => Nat.le_refl _
  | i + 1 => by
    have ih := bR_le (g := g) (i := i)
    unfold bR
    split <;> omega
def gF (S : Nat → Nat) (r : Nat) : Nat := sumN (fun j => if z_sta S (32 * r + j) = 0 then 1 else 0) 32
theorem gF_le {S : Nat → Nat} {r : Nat} : gF S r ≤ 32 := by
  have := sumN_le (g := fun j => if z_sta S (32 * r + j) = 0 then 1 else 0) (c := 1) (n := 32) (fun i _ => by
    show (if z_sta S (32 * r + i) = 0 then 1 else 0) ≤ 1
    split <;> omega)
  unfold gF
  omega
theorem n_leN {x : Nat} (hx : x < 2 ^ 31) : (nI x ≤ -nI 1) = False := eq_false (fun q => absurd (Int32.le_trans ((nI_leI (by decide) hx).mpr (Nat.zero_le x) : nI 0 ≤ nI x) q) (by decide))
theorem cFg {sp r : Nat} {M : zM} {S : Nat → Nat} (hst : ∀ b, b < 128 → M (sp + 1) b = nI (z_sta S b)) (hr : r < 4) : fX3_freeInRegion sp (nI r) M = some (nI (gF S r)) := by
  have e := cCt (sp := sp) (c := 0) (lo := 32 * r) (e := 32) hst (fun b _ => z_sta2) (by decide) (by omega)
  unfold fX3_freeInRegion
  rw [show nI r * 32 = nI (32 * r) by rw [show (32 : Int32) = nI 32 from rfl, pk_mul, Nat.mul_comm], show nI (32 * r) + 32 = nI (32 * r + 32) from nI_add _ _, show (0 : Int32) = nI 0 from rfl, e]
  rfl
theorem cNf {sp : Nat} {M : zM} {S : Nat → Nat} (hst : ∀ b, b < 128 → M (sp + 1) b = nI (z_sta S b)) : (∃ i, i < 32 ∧ z_sta S (32 * bR (gF S) 3 + i) = 0 ∧ (∀ j, j < i → ¬ z_sta S (32 * bR (gF S) 3 + j) = 0) ∧ fX3_nextFreeBlock sp M = some (nI (32 * bR (gF S) 3 + i))) ∨ ((∀ i, i < 32 → ¬ z_sta S (32 * bR (gF S) 3 + i) = 0) ∧ fX3_nextFreeBlock sp M = some (-nI 1)) := by
  have hb3 := bR_le (g := gF S) (i := 3)
  obtain ⟨R, hRR⟩ : ∃ R, R = bR (gF S) 3 := ⟨_, rfl⟩
  have he : fX3_emptiestRegion sp M = some (nI R) := by
    unfold fX3_emptiestRegion
    have hl := z_loopC (f := fun s : Int32 × Int32 × Int32 => fX3_emptiestRegion_L1 sp M s.1 s.2.1 s.2.2) (fun i => match i with | 0 => (nI 0, -nI 1, nI 0) | i + 1 => (nI (bR (gF S) i), nI (gF S (bR (gF S) i)), nI (i + 1))) 4 (nI (bR (gF S) 3)) (by decide) (fun i hi => by
      have c1 := cFg (sp := sp) hst hi
      have c2 := gF_le (S := S) (r := i)
      match i, hi, c1, c2 with
      | 0, hi, c1, c2 =>
        show fX3_emptiestRegion_L1 sp M (nI 0) (-nI 1) (nI 0) = some (.inl (nI 0, nI (gF S 0), nI 1))
        simp (disch := first | omega | assumption) only [l_0, l_1, l_2, l_3, l_4, l_5, l_6, l_7, l_8, l_11, l_12, l_15, l_16, l_31, l_32, l_66, l_80, l_100, l_127, l_128, l_768, l_2304, l_2310, l_2316, l_2388, l_2394, l_2406, l_2418, l_2430, l_2558, l_2686, l_2814, l_2942, l_3070, l_3390, l_3394, l_3395, l_3396, l_3397, n_leT, n_leF, n_ltT, n_ltF, n_eqT, n_eqF, nI_add, pk_mul, n_sub, z_ldn, z_san, z_bs, z_b2s, z_b3s, z_ocN, z_ocS, z_oxL, z_oxR, z_scL, z_scR, ↓reduceIte, Nat.zero_add, Nat.add_zero, Nat.zero_lt_succ, true_and, and_true, eq_self, fX3_emptiestRegion_L1, c1, n_leN]
      | i + 1, hi, c1, c2 =>
        have c3 := gF_le (S := S) (r := bR (gF S) i)
        show fX3_emptiestRegion_L1 sp M (nI (bR (gF S) i)) (nI (gF S (bR (gF S) i))) (nI (i + 1)) = some (.inl (nI (if gF S (i + 1) ≤ gF S (bR (gF S) i) then bR (gF S) i else i + 1), nI (gF S (if gF S (i + 1) ≤ gF S (bR (gF S) i) then bR (gF S) i else i + 1)), nI (i + 1 + 1)))
        by_cases q : gF S (i + 1) ≤ gF S (bR (gF S) i)
        · rw [if_pos q]
          simp (disch := first | omega | assumption) only [l_0, l_1, l_2, l_3, l_4, l_5, l_6, l_7, l_8, l_11, l_12, l_15, l_16, l_31, l_32, l_66, l_80, l_100, l_127, l_128, l_768, l_2304, l_2310, l_2316, l_2388, l_2394, l_2406, l_2418, l_2430, l_2558, l_2686, l_2814, l_2942, l_3070, l_3390, l_3394, l_3395, l_3396, l_3397, n_leT, n_leF, n_ltT, n_ltF, n_eqT, n_eqF, nI_add, pk_mul, n_sub, z_ldn, z_san, z_bs, z_b2s, z_b3s, z_ocN, z_ocS, z_oxL, z_oxR, z_scL, z_scR, ↓reduceIte, Nat.zero_add, Nat.add_zero, Nat.zero_lt_succ, true_and, and_true, eq_self, fX3_emptiestRegion_L1, c1]
        · rw [if_neg q]
          simp (disch := first | omega | assumption) only [l_0, l_1, l_2, l_3, l_4, l_5, l_6, l_7, l_8, l_11, l_12, l_15, l_16, l_31, l_32, l_66, l_80, l_100, l_127, l_128, l_768, l_2304, l_2310, l_2316, l_2388, l_2394, l_2406, l_2418, l_2430, l_2558, l_2686, l_2814, l_2942, l_3070, l_3390, l_3394, l_3395, l_3396, l_3397, n_leT, n_leF, n_ltT, n_ltF, n_eqT, n_eqF, nI_add, pk_mul, n_sub, z_ldn, z_san, z_bs, z_b2s, z_b3s, z_ocN, z_ocS, z_oxL, z_oxR, z_scL, z_scR, ↓reduceIte, Nat.zero_add, Nat.add_zero, Nat.zero_lt_succ, true_and, and_true, eq_self, fX3_emptiestRegion_L1, c1]) (by
      show fX3_emptiestRegion_L1 sp M (nI (bR (gF S) 3)) (nI (gF S (bR (gF S) 3))) (nI 4) = _
      simp (disch := first | omega | assumption) only [l_0, l_1, l_2, l_3, l_4, l_5, l_6, l_7, l_8, l_11, l_12, l_15, l_16, l_31, l_32, l_66, l_80, l_100, l_127, l_128, l_768, l_2304, l_2310, l_2316, l_2388, l_2394, l_2406, l_2418, l_2430, l_2558, l_2686, l_2814, l_2942, l_3070, l_3390, l_3394, l_3395, l_3396, l_3397, n_leT, n_leF, n_ltT, n_ltF, n_eqT, n_eqF, nI_add, pk_mul, n_sub, z_ldn, z_san, z_bs, z_b2s, z_b3s, z_ocN, z_ocS, z_oxL, z_oxR, z_scL, z_scR, ↓reduceIte, Nat.zero_add, Nat.add_zero, Nat.zero_lt_succ, true_and, and_true, eq_self, fX3_emptiestRegion_L1])
    rw [show z_loop _ z_FU ((0 : Int32), (-1 : Int32), (0 : Int32)) = _ from hl, hRR]
    rfl
  rw [← hRR]
  have hR4 : R < 4 := by omega
  unfold fX3_nextFreeBlock
  rw [he, z_bs]
  rcases z_loopW (f := fun s9 : Int32 => fX3_nextFreeBlock_L1 sp M (nI R) s9) (fun i => z_sta S (32 * R + i) = 0) (fun i => (Sum.inr (nI (32 * R + i)) : Unit ⊕ Int32)) (Sum.inl ()) (32 * R) 32 (by decide) (s := nI R * 32) (by rw [show (32 : Int32) = nI 32 from rfl, pk_mul, Nat.mul_comm]) (fun i _ => Classical.em _) (fun i hi hne => by
    have c1 := hst (32 * R + i) (by omega)
    have c2 := z_sta2 (S := S) (b := 32 * R + i)
    have c3 : R * 32 = 32 * R := Nat.mul_comm _ _
    simp (disch := first | omega | assumption) only [l_0, l_1, l_2, l_3, l_4, l_5, l_6, l_7, l_8, l_11, l_12, l_15, l_16, l_31, l_32, l_66, l_80, l_100, l_127, l_128, l_768, l_2304, l_2310, l_2316, l_2388, l_2394, l_2406, l_2418, l_2430, l_2558, l_2686, l_2814, l_2942, l_3070, l_3390, l_3394, l_3395, l_3396, l_3397, n_leT, n_leF, n_ltT, n_ltF, n_eqT, n_eqF, nI_add, pk_mul, n_sub, z_ldn, z_san, z_bs, z_b2s, z_b3s, z_ocN, z_ocS, z_oxL, z_oxR, z_scL, z_scR, ↓reduceIte, Nat.zero_add, Nat.add_zero, Nat.zero_lt_succ, true_and, and_true, eq_self, fX3_nextFreeBlock_L1, c3, cIb, c1]) (fun i hi hie => by
    have c1 := hst (32 * R + i) (by omega)
    rw [hie] at c1
    have c3 : R * 32 = 32 * R := Nat.mul_comm _ _
    simp (disch := first | omega | assumption) only [l_0, l_1, l_2, l_3, l_4, l_5, l_6, l_7, l_8, l_11, l_12, l_15, l_16, l_31, l_32, l_66, l_80, l_100, l_127, l_128, l_768, l_2304, l_2310, l_2316, l_2388, l_2394, l_2406, l_2418, l_2430, l_2558, l_2686, l_2814, l_2942, l_3070, l_3390, l_3394, l_3395, l_3396, l_3397, n_leT, n_leF, n_ltT, n_ltF, n_eqT, n_eqF, nI_add, pk_mul, n_sub, z_ldn, z_san, z_bs, z_b2s, z_b3s, z_ocN, z_ocS, z_oxL, z_oxR, z_scL, z_scR, ↓reduceIte, Nat.zero_add, Nat.add_zero, Nat.zero_lt_succ, true_and, and_true, eq_self, fX3_nextFreeBlock_L1, c3, cIb, c1]) (by
    have c3 : R * 32 = 32 * R := Nat.mul_comm _ _
    simp (disch := first | omega | assumption) only [l_0, l_1, l_2, l_3, l_4, l_5, l_6, l_7, l_8, l_11, l_12, l_15, l_16, l_31, l_32, l_66, l_80, l_100, l_127, l_128, l_768, l_2304, l_2310, l_2316, l_2388, l_2394, l_2406, l_2418, l_2430, l_2558, l_2686, l_2814, l_2942, l_3070, l_3390, l_3394, l_3395, l_3396, l_3397, n_leT, n_leF, n_ltT, n_ltF, n_eqT, n_eqF, nI_add, pk_mul, n_sub, z_ldn, z_san, z_bs, z_b2s, z_b3s, z_ocN, z_ocS, z_oxL, z_oxR, z_scL, z_scR, ↓reduceIte, Nat.zero_add, Nat.add_zero, Nat.zero_lt_succ, true_and, and_true, eq_self, fX3_nextFreeBlock_L1, c3]) with ⟨i, q1, q2, q3, q4⟩ | ⟨q1, q2⟩
  · exact Or.inl ⟨i, q1, q2, q3, by rw [q4]; rfl⟩
  · exact Or.inr ⟨q1, by rw [q2]; rfl⟩
theorem cBn {M : zM} {S : Nat → Nat} {y o : Nat} (hst : ∀ b, b < 128 → M (1 + 3 + 1) b = nI (z_sta S b)) (hbi : ∀ b, b < 128 → M (1 + 3 + 3) b = nI (S (2558 + b))) (hy : y ≤ 128) (hrf : y ≠ 0 → S (2814 + (y - 1)) ≠ 0) (hb : ∀ b, b < 128 → S (2558 + b) < 2 ^ 31) (ho : o < 2 ^ 31) : fX3_bornIn (1 + 3) (nI y - nI 1) (nI o) M = some (nI (if y ≠ 0 ∧ S (2558 + (y - 1)) = o then 1 else 0)) := by
  unfold fX3_bornIn
  by_cases q : y = 0
  · subst q
    rw [if_neg (fun c => c.1 rfl)]
    unfold fX3_isAllocated
    simp (disch := first | omega | assumption) only [l_0, l_1, l_2, l_3, l_4, l_5, l_6, l_7, l_8, l_11, l_12, l_15, l_16, l_31, l_32, l_66, l_80, l_100, l_127, l_128, l_768, l_2304, l_2310, l_2316, l_2388, l_2394, l_2406, l_2418, l_2430, l_2558, l_2686, l_2814, l_2942, l_3070, l_3390, l_3394, l_3395, l_3396, l_3397, n_leT, n_leF, n_ltT, n_ltF, n_eqT, n_eqF, nI_add, pk_mul, n_sub, z_ldn, z_san, z_bs, z_b2s, z_b3s, z_ocN, z_ocS, z_oxL, z_oxR, z_scL, z_scR, ↓reduceIte, Nat.zero_add, Nat.add_zero, Nat.zero_lt_succ, true_and, and_true, eq_self, cIb0]
  · have c1 := cAl hst (b := y - 1) (by omega)
    rw [if_neg (hrf q)] at c1
    have c2 := hbi (y - 1) (by omega)
    have c3 := hb (y - 1) (by omega)
    by_cases q2 : S (2558 + (y - 1)) = o
    · rw [if_pos ⟨q, q2⟩]
      simp (disch := first | omega | assumption) only [l_0, l_1, l_2, l_3, l_4, l_5, l_6, l_7, l_8, l_11, l_12, l_15, l_16, l_31, l_32, l_66, l_80, l_100, l_127, l_128, l_768, l_2304, l_2310, l_2316, l_2388, l_2394, l_2406, l_2418, l_2430, l_2558, l_2686, l_2814, l_2942, l_3070, l_3390, l_3394, l_3395, l_3396, l_3397, n_leT, n_leF, n_ltT, n_ltF, n_eqT, n_eqF, nI_add, pk_mul, n_sub, z_ldn, z_san, z_bs, z_b2s, z_b3s, z_ocN, z_ocS, z_oxL, z_oxR, z_scL, z_scR, ↓reduceIte, Nat.zero_add, Nat.add_zero, Nat.zero_lt_succ, true_and, and_true, eq_self, c1, c2, q2]
    · rw [if_neg (fun c => q2 c.2)]
      simp (disch := first | omega | assumption) only [l_0, l_1, l_2, l_3, l_4, l_5, l_6, l_7, l_8, l_11, l_12, l_15, l_16, l_31, l_32, l_66, l_80, l_100, l_127, l_128, l_768, l_2304, l_2310, l_2316, l_2388, l_2394, l_2406, l_2418, l_2430, l_2558, l_2686, l_2814, l_2942, l_3070, l_3390, l_3394, l_3395, l_3396, l_3397, n_leT, n_leF, n_ltT, n_ltF, n_eqT, n_eqF, nI_add, pk_mul, n_sub, z_ldn, z_san, z_bs, z_b2s, z_b3s, z_ocN, z_ocS, z_oxL, z_oxR, z_scL, z_scR, ↓reduceIte, Nat.zero_add, Nat.add_zero, Nat.zero_lt_succ, true_and, and_true, eq_self, c1, c2]
theorem z_stst {M : zM} {k j : Nat} {v w : Int32} : z_st (z_st M k j v) k j w = z_st M k j w := by
  funext a
  by_cases q : a = k
  · subst q
    rw [s_s, s_s, s_s]
    funext i
    by_cases c : i = j
    · subst c
      rw [u_s, u_s]
    · rw [u_n c, u_n c, u_n c]
  · rw [s_n q, s_n q, s_n q]
theorem z_N_gap {N : Nat → Int32} {S : Nat → Nat} (h : z_N N S) {k : Nat} {v : Int32} (h1 : 2430 ≤ k) (h2 : k < 2558) : z_N (upd N k v) S :=
  ⟨fun j hj => by rw [u_n (by omega)]; exact h.1 j hj, fun j k1 k2 => by rw [u_n (by omega)]; exact h.2.1 j k1 k2, fun j k1 k2 => by rw [u_n (by omega)]; exact h.2.2 j k1 k2⟩
theorem y_mk_id {n : Nat} {S : Nat → Nat} (hI : z_I n S) : y_mk S = S := by
  funext k
  by_cases q1 : 2686 ≤ k ∧ k < 2814
  · have e : k = 2686 + (k - 2686) := by omega
    rw [e, y_mk_pen (by omega), if_neg]
    intro c
    unfold lostN at c
    rw [← I_ref hI (k - 2686) (by omega), if_neg (fun x => x.2 x.1)] at c
    exact absurd c (by decide)
  · by_cases q2 : 2814 ≤ k ∧ k < 2942
    · have e : k = 2814 + (k - 2814) := by omega
      rw [e, y_mk_ref (by omega)]
      exact (I_ref hI (k - 2814) (by omega)).symm
    · exact y_mk_o (by omega)
/-- the class's write of a fresh block, or none -/
theorem cW_no {M : zM} {N : Nat → Int32} {S : Nat → Nat} {d f i P y : Nat} {a4 : Int32} {q0 : Option ((String ⊕ Int32) × zM)} (hR : z_R1 1 M N S) (hd : d < 6) (h1 : S (2304 + d) = 1) (hf : f < 8) (hi : i < 16) (hP : P = 16 * f + i) (hyy : y = S (128 * d + P)) (hy : y ≤ 128) (hrf : y ≠ 0 → S (2814 + (y - 1)) ≠ 0) (hb1 : ∀ b, b < 128 → S (2558 + b) < 2 ^ 31 ∧ S (2814 + b) < 2 ^ 31) (ho : S 3395 < 2 ^ 31) (h3 : y = 0 ∨ (y ≠ 0 ∧ S (2558 + (y - 1)) ≠ S 3395) ∨ (y ≠ 0 ∧ S (2558 + (y - 1)) = S 3395 ∧ S (2814 + (y - 1)) ≠ 1)) {x : Int32} {Ma Mp M2 : zM} {v : Int32} (hcn : fX3_nextFreeBlock (1 + 3) M = some x) (hx : (x = -nI 1 ∧ q0 = some (.inl "java/lang/IllegalStateException", M)) ∨ ((x = -nI 1) = False ∧ fX3_allocate (1 + 3) x a4 (nI (S 3395)) M = some Ma ∧ fX5_put 1 (1 + 9 + 3 * d + 1) (nI P) x Ma = some Mp ∧ fX5_settle 1 Mp = some (v, M2) ∧ q0 = some (.inr x, M2))) : fX6_write 0 (nI d) (nI f) (nI i) a4 M = q0 := by
  have hst := I_st hR.2.2.2.1
  have hop : M 1 4 = nI (S 3395) := hR.2.2.2.2.2.1
  have ct : M (1 + 9 + 3 * d + 1 + 1) P = nI y - nI 1 := by rw [hyy]; exact hR.1 d (by omega) P (by omega)
  have cb := cBn (S := S) (y := y) (o := S 3395) hst (fun b hb => (hR.2.2.2.1 b hb).2.2.1) hy hrf (fun b hb => (hb1 b hb).1) ho
  have cu : y ≠ 0 → fX3_usesOf (1 + 3) (nI y - nI 1) M = some (nI (S (2814 + (y - 1)))) := fun q => by
    have := (hR.2.2.2.1 (y - 1) (by omega)).2.2.2
    rw [n_pm1 q]
    unfold fX3_usesOf
    simp (disch := first | omega | assumption) only [l_0, l_1, l_2, l_3, l_4, l_5, l_6, l_7, l_8, l_11, l_12, l_15, l_16, l_31, l_32, l_66, l_80, l_100, l_127, l_128, l_768, l_2304, l_2310, l_2316, l_2388, l_2394, l_2406, l_2418, l_2430, l_2558, l_2686, l_2814, l_2942, l_3070, l_3390, l_3394, l_3395, l_3396, l_3397, n_leT, n_leF, n_ltT, n_ltF, n_eqT, n_eqF, nI_add, pk_mul, n_sub, z_ldn, z_san, z_bs, z_b2s, z_b3s, z_ocN, z_ocS, z_oxL, z_oxR, z_scL, z_scR, ↓reduceIte, Nat.zero_add, Nat.add_zero, Nat.zero_lt_succ, true_and, and_true, eq_self, cIb, this]
  have e1 := cDs_ok hR.2.1 hd h1
  have e2 := cPl_ok (M := M) hf hi
  have e3 := kd1_ds hd
  have e4 : fX4_blockOf (1 + 9 + 3 * d + 1) (nI P) M = some (nI y - nI 1) := by rw [cBo (by omega), ct]
  rw [← hP] at e2
  have hb2 := fun q : y ≠ 0 => hb1 (y - 1) (by omega)
  clear hst hR hb1
  unfold fX6_write
  rcases h3 with q | ⟨q, q2⟩ | ⟨q, q2, q3⟩
  · rw [show (if y ≠ 0 ∧ S (2558 + (y - 1)) = S 3395 then 1 else 0) = 0 from if_neg (fun c => c.1 q)] at cb
    rcases hx with ⟨x1, x2⟩ | ⟨x1, x2, x3, x4, x5⟩
    · subst x1 x2
      simp (disch := first | omega | assumption) only [l_0, l_1, l_2, l_3, l_4, l_5, l_6, l_7, l_8, l_11, l_12, l_15, l_16, l_31, l_32, l_66, l_80, l_100, l_127, l_128, l_768, l_2304, l_2310, l_2316, l_2388, l_2394, l_2406, l_2418, l_2430, l_2558, l_2686, l_2814, l_2942, l_3070, l_3390, l_3394, l_3395, l_3396, l_3397, n_leT, n_leF, n_ltT, n_ltF, n_eqT, n_eqF, nI_add, pk_mul, n_sub, z_ldn, z_san, z_bs, z_b2s, z_b3s, z_ocN, z_ocS, z_oxL, z_oxR, z_scL, z_scR, ↓reduceIte, Nat.zero_add, Nat.add_zero, Nat.zero_lt_succ, true_and, and_true, eq_self, e1, z_gdp e3, e2, e4, hop, cb, hcn]
    · simp (disch := first | omega | assumption) only [l_0, l_1, l_2, l_3, l_4, l_5, l_6, l_7, l_8, l_11, l_12, l_15, l_16, l_31, l_32, l_66, l_80, l_100, l_127, l_128, l_768, l_2304, l_2310, l_2316, l_2388, l_2394, l_2406, l_2418, l_2430, l_2558, l_2686, l_2814, l_2942, l_3070, l_3390, l_3394, l_3395, l_3396, l_3397, n_leT, n_leF, n_ltT, n_ltF, n_eqT, n_eqF, nI_add, pk_mul, n_sub, z_ldn, z_san, z_bs, z_b2s, z_b3s, z_ocN, z_ocS, z_oxL, z_oxR, z_scL, z_scR, ↓reduceIte, Nat.zero_add, Nat.add_zero, Nat.zero_lt_succ, true_and, and_true, eq_self, e1, z_gdp e3, e2, e4, hop, cb, hcn, x1, x2, x3, x4, x5]
  · rw [show (if y ≠ 0 ∧ S (2558 + (y - 1)) = S 3395 then 1 else 0) = 0 from if_neg (fun c => q2 c.2)] at cb
    rw [n_pm1 q] at cb e4
    rcases hx with ⟨x1, x2⟩ | ⟨x1, x2, x3, x4, x5⟩
    · subst x1 x2
      simp (disch := first | omega | assumption) only [l_0, l_1, l_2, l_3, l_4, l_5, l_6, l_7, l_8, l_11, l_12, l_15, l_16, l_31, l_32, l_66, l_80, l_100, l_127, l_128, l_768, l_2304, l_2310, l_2316, l_2388, l_2394, l_2406, l_2418, l_2430, l_2558, l_2686, l_2814, l_2942, l_3070, l_3390, l_3394, l_3395, l_3396, l_3397, n_leT, n_leF, n_ltT, n_ltF, n_eqT, n_eqF, nI_add, pk_mul, n_sub, z_ldn, z_san, z_bs, z_b2s, z_b3s, z_ocN, z_ocS, z_oxL, z_oxR, z_scL, z_scR, ↓reduceIte, Nat.zero_add, Nat.add_zero, Nat.zero_lt_succ, true_and, and_true, eq_self, e1, z_gdp e3, e2, e4, hop, cb, hcn]
    · simp (disch := first | omega | assumption) only [l_0, l_1, l_2, l_3, l_4, l_5, l_6, l_7, l_8, l_11, l_12, l_15, l_16, l_31, l_32, l_66, l_80, l_100, l_127, l_128, l_768, l_2304, l_2310, l_2316, l_2388, l_2394, l_2406, l_2418, l_2430, l_2558, l_2686, l_2814, l_2942, l_3070, l_3390, l_3394, l_3395, l_3396, l_3397, n_leT, n_leF, n_ltT, n_ltF, n_eqT, n_eqF, nI_add, pk_mul, n_sub, z_ldn, z_san, z_bs, z_b2s, z_b3s, z_ocN, z_ocS, z_oxL, z_oxR, z_scL, z_scR, ↓reduceIte, Nat.zero_add, Nat.add_zero, Nat.zero_lt_succ, true_and, and_true, eq_self, e1, z_gdp e3, e2, e4, hop, cb, hcn, x1, x2, x3, x4, x5]
  · rw [show (if y ≠ 0 ∧ S (2558 + (y - 1)) = S 3395 then 1 else 0) = 1 from if_pos ⟨q, q2⟩] at cb
    have cu := cu q
    have cl := (hb2 q).2
    rw [n_pm1 q] at cb cu e4
    rcases hx with ⟨x1, x2⟩ | ⟨x1, x2, x3, x4, x5⟩
    · subst x1 x2
      simp (disch := first | omega | assumption) only [l_0, l_1, l_2, l_3, l_4, l_5, l_6, l_7, l_8, l_11, l_12, l_15, l_16, l_31, l_32, l_66, l_80, l_100, l_127, l_128, l_768, l_2304, l_2310, l_2316, l_2388, l_2394, l_2406, l_2418, l_2430, l_2558, l_2686, l_2814, l_2942, l_3070, l_3390, l_3394, l_3395, l_3396, l_3397, n_leT, n_leF, n_ltT, n_ltF, n_eqT, n_eqF, nI_add, pk_mul, n_sub, z_ldn, z_san, z_bs, z_b2s, z_b3s, z_ocN, z_ocS, z_oxL, z_oxR, z_scL, z_scR, ↓reduceIte, Nat.zero_add, Nat.add_zero, Nat.zero_lt_succ, true_and, and_true, eq_self, e1, z_gdp e3, e2, e4, hop, cb, cu, hcn]
    · simp (disch := first | omega | assumption) only [l_0, l_1, l_2, l_3, l_4, l_5, l_6, l_7, l_8, l_11, l_12, l_15, l_16, l_31, l_32, l_66, l_80, l_100, l_127, l_128, l_768, l_2304, l_2310, l_2316, l_2388, l_2394, l_2406, l_2418, l_2430, l_2558, l_2686, l_2814, l_2942, l_3070, l_3390, l_3394, l_3395, l_3396, l_3397, n_leT, n_leF, n_ltT, n_ltF, n_eqT, n_eqF, nI_add, pk_mul, n_sub, z_ldn, z_san, z_bs, z_b2s, z_b3s, z_ocN, z_ocS, z_oxL, z_oxR, z_scL, z_scR, ↓reduceIte, Nat.zero_add, Nat.add_zero, Nat.zero_lt_succ, true_and, and_true, eq_self, e1, z_gdp e3, e2, e4, hop, cb, cu, hcn, x1, x2, x3, x4, x5]
/-! ===== rollback ===== -/
theorem y_sl_cg {V : Nat} {M M' : zM} {ex ow rk : Nat → Nat} (h : y_sl V M ex ow rk) (hc : ∀ t, t < 12 → M' (V + 27 + 3 * t) = M (V + 27 + 3 * t)) : y_sl V M' ex ow rk := fun t ht => by
  rw [hc t ht]
  exact h t ht
/-- the snapshots of d behind place p, up to place p + j -/
abbrev z_bh (S rk : Nat → Nat) (d p j t : Nat) : Prop := S (2394 + t) ≠ 0 ∧ S (2418 + t) = d ∧ p < rk t ∧ rk t ≤ p + j
def z_ex (S : Nat → Nat) (t : Nat) : Nat := if S (2394 + t) = 0 then 0 else 1
theorem ex_0 {S : Nat → Nat} {t : Nat} (h : S (2394 + t) = 0) : z_ex S t = 0 := if_pos h
theorem ex_1 {S : Nat → Nat} {t : Nat} (h : S (2394 + t) ≠ 0) : z_ex S t = 1 := if_neg h
theorem cIsB {M : zM} {S rk ex' rk' : Nat → Nat} {d p : Nat} {s i : Nat} (hs : s < 12) (hi : i < 12) (h1 : S (2394 + s) ≠ 0) (hsd : S (2418 + s) = d) (hsp : rk s = p) (hk : ∀ t, t < 12 → rk t ≤ p + 12) (h : y_sl 1 M ex' (fun t => S (2418 + t)) rk') (e1 : ex' s ≠ 0) (e2 : ex' i = z_ex S i) (e3 : rk' s = p) (e4 : z_bh S rk d p 12 i → p < rk' i) (e5 : ¬ z_bh S rk d p 12 i → rk' i = rk i) : fX5_isBehind 1 (1 + 27 + 3 * i) (1 + 27 + 3 * s) M = some (nI (if z_bh S rk d p 12 i then 1 else 0)) := by
  have c := cIs h hs hi e1
  rw [c]
  by_cases q : z_bh S rk d p 12 i
  · rw [if_pos q, if_pos ⟨by rw [e2, ex_1 q.1]; decide, by show S (2418 + i) = S (2418 + s); rw [q.2.1, hsd], by rw [e3]; exact e4 q⟩]
  · rw [if_neg q, if_neg]
    intro x
    obtain ⟨x1, x2, x3⟩ := x
    rw [e3, e5 q] at x3
    refine q ⟨fun x4 => x1 (by rw [e2, ex_0 x4]), by show S (2418 + i) = d; rw [← hsd]; exact x2, x3, hk i hi⟩
/-- the class: all that lies behind is dropped -/
theorem cDb {M : zM} {S rk T0 : Nat → Nat} {d p s : Nat} (hT : z_T 1 M T0) (hsl : y_sl 1 M (z_ex S) (fun t => S (2418 + t)) rk) (hs : s < 12) (h1 : S (2394 + s) ≠ 0) (hsd : S (2418 + s) = d) (hsp : rk s = p) (hk : ∀ t, t < 12 → rk t ≤ p + 12) : ∃ M', fX5_dropBehind 1 (1 + 27 + 3 * s) M = some (nI (sumN (fun t => if z_bh S rk d p 12 t then 1 else 0) 12), M') ∧ (∃ ex' rk', y_sl 1 M' ex' (fun t => S (2418 + t)) rk' ∧ ∀ t, t < 12 → ex' t = (if z_bh S rk d p 12 t then 0 else z_ex S t) ∧ (¬ z_bh S rk d p 12 t → rk' t = rk t)) ∧ (∃ T, z_T 1 M' T ∧ (∀ k, k < 768 → T k = T0 k) ∧ ∀ t x, t < 12 → x < 128 → T (768 + 128 * t + x) = if z_bh S rk d p 12 t then 0 else T0 (768 + 128 * t + x)) ∧ (∀ t j, t < 12 → j ≠ 1 → j ≠ 4 → M' (1 + 27 + 3 * t) j = M (1 + 27 + 3 * t) j) ∧ ∀ a, a ≠ 1 + 3 + 4 → (∀ u, u < 18 → a ≠ 1 + 9 + 3 * u + 1 + 1) → (∀ t, t < 12 → a ≠ 1 + 27 + 3 * t) → M' a = M a := by
  have hns : ¬ z_bh S rk d p 12 s := fun c => by
    have := c.2.2.1
    omega
  unfold fX5_dropBehind
  obtain ⟨r, e0, e1, e2, e3, e4, e5⟩ := z_loopA (f := fun x : Int32 × Int32 × zM => fX5_dropBehind_L1 1 (1 + 27 + 3 * s) x.1 x.2.1 x.2.2) (fun i x M' => x = nI (sumN (fun t => if z_bh S rk d p 12 t then 1 else 0) i) ∧ (∃ ex' rk', y_sl 1 M' ex' (fun t => S (2418 + t)) rk' ∧ ∀ t, t < 12 → ex' t = (if t < i ∧ z_bh S rk d p 12 t then 0 else z_ex S t) ∧ (¬ z_bh S rk d p 12 t → rk' t = rk t) ∧ (z_bh S rk d p 12 t → p < rk' t)) ∧ (∃ T, z_T 1 M' T ∧ (∀ k, k < 768 → T k = T0 k) ∧ ∀ t x, t < 12 → x < 128 → T (768 + 128 * t + x) = if t < i ∧ z_bh S rk d p 12 t then 0 else T0 (768 + 128 * t + x)) ∧ (∀ t j, t < 12 → j ≠ 1 → j ≠ 4 → M' (1 + 27 + 3 * t) j = M (1 + 27 + 3 * t) j) ∧ ∀ a, a ≠ 1 + 3 + 4 → (∀ u, u < 18 → a ≠ 1 + 9 + 3 * u + 1 + 1) → (∀ t, t < 12 → a ≠ 1 + 27 + 3 * t) → M' a = M a) (fun r => r.1 = nI (sumN (fun t => if z_bh S rk d p 12 t then 1 else 0) 12) ∧ (∃ ex' rk', y_sl 1 r.2 ex' (fun t => S (2418 + t)) rk' ∧ ∀ t, t < 12 → ex' t = (if z_bh S rk d p 12 t then 0 else z_ex S t) ∧ (¬ z_bh S rk d p 12 t → rk' t = rk t)) ∧ (∃ T, z_T 1 r.2 T ∧ (∀ k, k < 768 → T k = T0 k) ∧ ∀ t x, t < 12 → x < 128 → T (768 + 128 * t + x) = if z_bh S rk d p 12 t then 0 else T0 (768 + 128 * t + x)) ∧ (∀ t j, t < 12 → j ≠ 1 → j ≠ 4 → r.2 (1 + 27 + 3 * t) j = M (1 + 27 + 3 * t) j) ∧ ∀ a, a ≠ 1 + 3 + 4 → (∀ u, u < 18 → a ≠ 1 + 9 + 3 * u + 1 + 1) → (∀ t, t < 12 → a ≠ 1 + 27 + 3 * t) → r.2 a = M a) 0 12 (by decide) (x := 0) (s := 0) (M := M) rfl ⟨rfl, ⟨_, rk, hsl, fun t ht => ⟨by rw [if_neg (fun c => absurd c.1 (Nat.not_lt_zero t))], fun _ => rfl, fun c => c.2.2.1⟩⟩, ⟨T0, hT, fun _ _ => rfl, fun t x ht hx => by rw [if_neg (fun c => absurd c.1 (Nat.not_lt_zero t))]⟩, fun _ _ _ _ _ => rfl, fun _ _ _ _ => rfl⟩ (fun i x M' hi hI9 => by
    obtain ⟨b1, ⟨ex', rk', b2, b3⟩, ⟨T, b4, b5, b6⟩, b7, b8⟩ := hI9
    subst b1
    have ei := b3 i hi
    have es := b3 s hs
    rw [if_neg (fun c => absurd c.1 (Nat.lt_irrefl i))] at ei
    have es1 : ex' s ≠ 0 := by
      rw [es.1, if_neg (fun c => hns c.2), ex_1 h1]
      decide
    have c1 := cIsB hs hi h1 hsd hsp hk b2 es1 ei.1 (by rw [es.2.1 hns, hsp]) ei.2.2 ei.2.1
    have eq12 := z_lq12 (V := 1) hi
    by_cases q : z_bh S rk d p 12 i
    · rw [if_pos q] at c1
      have exi : ex' i ≠ 0 := by
        rw [ei.1, ex_1 q.1]
        decide
      obtain ⟨M3, f1, f2, f3, f4, f5⟩ := cDrop b4 b2 hi exi
      refine ⟨nI (sumN (fun t => if z_bh S rk d p 12 t then 1 else 0) i + 1), M3, ?_, ?_, ⟨_, _, f2, fun t ht => ?_⟩, ⟨_, f3, fun k hk => ?_, fun t x ht hx => ?_⟩, fun t j ht hj1 hj4 => by rw [f4 t j ht hj1 hj4, b7 t j ht hj1 hj4], fun a a1 a2 a3 => by rw [f5 a a1 (a2 _ (by omega)) a3, b8 a a1 a2 a3]⟩
      · simp (disch := first | omega | assumption) only [l_0, l_1, l_2, l_3, l_4, l_5, l_6, l_7, l_8, l_11, l_12, l_15, l_16, l_31, l_32, l_66, l_80, l_100, l_127, l_128, l_768, l_2304, l_2310, l_2316, l_2388, l_2394, l_2406, l_2418, l_2430, l_2558, l_2686, l_2814, l_2942, l_3070, l_3390, l_3394, l_3395, l_3396, l_3397, n_leT, n_leF, n_ltT, n_ltF, n_eqT, n_eqF, nI_add, pk_mul, n_sub, z_ldn, z_san, z_bs, z_b2s, z_b3s, z_ocN, z_ocS, z_oxL, z_oxR, z_scL, z_scR, ↓reduceIte, Nat.zero_add, Nat.add_zero, Nat.zero_lt_succ, true_and, and_true, eq_self, fX5_dropBehind_L1, eq12, c1, f1]
      · show nI (sumN _ i + 1) = nI (sumN _ i + if z_bh S rk d p 12 i then 1 else 0)
        rw [if_pos q]
      · obtain ⟨t1, t2, t3⟩ := b3 t ht
        refine ⟨?_, fun c => ?_, fun c => ?_⟩
        · unfold updN
          by_cases c : t = i
          · rw [if_pos c, c, if_pos ⟨Nat.lt_succ_self i, q⟩]
          · rw [if_neg c, t1]
            by_cases c2 : t < i ∧ z_bh S rk d p 12 t
            · rw [if_pos c2, if_pos ⟨by omega, c2.2⟩]
            · rw [if_neg c2, if_neg (fun x => c2 ⟨by omega, x.2⟩)]
        · show (if ex' t ≠ 0 ∧ S (2418 + t) = S (2418 + i) ∧ rk' i < rk' t then rk' t - 1 else rk' t) = rk t
          rw [if_neg, t2 c]
          intro x
          obtain ⟨x1, x2, x3⟩ := x
          rw [t2 c] at x3
          have hpi := ei.2.2 q
          refine c ⟨fun y => x1 ?_, by rw [x2]; exact q.2.1, by omega, hk t ht⟩
          rw [t1, if_neg (fun z => c z.2), ex_0 y]
        · show p < (if ex' t ≠ 0 ∧ S (2418 + t) = S (2418 + i) ∧ rk' i < rk' t then rk' t - 1 else rk' t)
          have hpi := ei.2.2 q
          have hpt := t3 c
          by_cases x : ex' t ≠ 0 ∧ S (2418 + t) = S (2418 + i) ∧ rk' i < rk' t
          · rw [if_pos x]
            omega
          · rw [if_neg x]
            exact hpt
      · unfold z_clrT
        rw [if_neg (by omega)]
        exact b5 k hk
      · unfold z_clrT
        by_cases c : t = i
        · rw [c, if_pos (by omega), if_pos ⟨Nat.lt_succ_self i, q⟩]
        · rw [if_neg (by omega), b6 t x ht hx]
          by_cases c2 : t < i ∧ z_bh S rk d p 12 t
          · rw [if_pos c2, if_pos ⟨by omega, c2.2⟩]
          · rw [if_neg c2, if_neg (fun x => c2 ⟨by omega, x.2⟩)]
    · rw [if_neg q] at c1
      have hit : ∀ t, (t < i + 1 ∧ z_bh S rk d p 12 t) ↔ (t < i ∧ z_bh S rk d p 12 t) := fun t => ⟨fun c => ⟨by
        have : t ≠ i := fun e => q (e ▸ c.2)
        have := c.1
        omega, c.2⟩, fun c => ⟨by have := c.1; omega, c.2⟩⟩
      refine ⟨nI (sumN (fun t => if z_bh S rk d p 12 t then 1 else 0) i), M', ?_, ?_, ⟨ex', rk', b2, fun t ht => ?_⟩, ⟨T, b4, b5, fun t x ht hx => ?_⟩, b7, b8⟩
      · simp (disch := first | omega | assumption) only [l_0, l_1, l_2, l_3, l_4, l_5, l_6, l_7, l_8, l_11, l_12, l_15, l_16, l_31, l_32, l_66, l_80, l_100, l_127, l_128, l_768, l_2304, l_2310, l_2316, l_2388, l_2394, l_2406, l_2418, l_2430, l_2558, l_2686, l_2814, l_2942, l_3070, l_3390, l_3394, l_3395, l_3396, l_3397, n_leT, n_leF, n_ltT, n_ltF, n_eqT, n_eqF, nI_add, pk_mul, n_sub, z_ldn, z_san, z_bs, z_b2s, z_b3s, z_ocN, z_ocS, z_oxL, z_oxR, z_scL, z_scR, ↓reduceIte, Nat.zero_add, Nat.add_zero, Nat.zero_lt_succ, true_and, and_true, eq_self, fX5_dropBehind_L1, eq12, c1]
      · show nI (sumN _ i) = nI (sumN _ i + if z_bh S rk d p 12 i then 1 else 0)
        rw [if_neg q]
        rfl
      · obtain ⟨t1, t2, t3⟩ := b3 t ht
        refine ⟨?_, t2, t3⟩
        rw [t1]
        by_cases c2 : t < i ∧ z_bh S rk d p 12 t
        · rw [if_pos c2, if_pos ((hit t).mpr c2)]
        · rw [if_neg c2, if_neg (fun c => c2 ((hit t).mp c))]
      · rw [b6 t x ht hx]
        by_cases c2 : t < i ∧ z_bh S rk d p 12 t
        · rw [if_pos c2, if_pos ((hit t).mpr c2)]
        · rw [if_neg c2, if_neg (fun c => c2 ((hit t).mp c))]) (fun x M' hI9 => by
    obtain ⟨b1, ⟨ex', rk', b2, b3⟩, ⟨T, b4, b5, b6⟩, b7, b8⟩ := hI9
    refine ⟨(x, M'), by simp (disch := first | omega | assumption) only [l_0, l_1, l_2, l_3, l_4, l_5, l_6, l_7, l_8, l_11, l_12, l_15, l_16, l_31, l_32, l_66, l_80, l_100, l_127, l_128, l_768, l_2304, l_2310, l_2316, l_2388, l_2394, l_2406, l_2418, l_2430, l_2558, l_2686, l_2814, l_2942, l_3070, l_3390, l_3394, l_3395, l_3396, l_3397, n_leT, n_leF, n_ltT, n_ltF, n_eqT, n_eqF, nI_add, pk_mul, n_sub, z_ldn, z_san, z_bs, z_b2s, z_b3s, z_ocN, z_ocS, z_oxL, z_oxR, z_scL, z_scR, ↓reduceIte, Nat.zero_add, Nat.add_zero, Nat.zero_lt_succ, true_and, and_true, eq_self, fX5_dropBehind_L1], b1, ⟨ex', rk', b2, fun t ht => ?_⟩, ⟨T, b4, b5, fun t x ht hx => ?_⟩, b7, b8⟩
    · obtain ⟨t1, t2, t3⟩ := b3 t ht
      refine ⟨?_, t2⟩
      rw [t1]
      by_cases c2 : z_bh S rk d p 12 t
      · rw [if_pos c2, if_pos ⟨ht, c2⟩]
      · rw [if_neg c2, if_neg (fun c => c2 c.2)]
    · rw [b6 t x ht hx]
      by_cases c2 : z_bh S rk d p 12 t
      · rw [if_pos c2, if_pos ⟨ht, c2⟩]
      · rw [if_neg c2, if_neg (fun c => c2 c.2)])
  obtain ⟨r1, r2⟩ := r
  have e1 : r1 = _ := e1
  subst e1
  exact ⟨r2, by rw [e0]; rfl, e2, e3, e4, e5⟩
/-- what the drops leave, j of them done -/
def z_dj (n : Nat) (S rk : Nat → Nat) (d p c j : Nat) (T : Nat → Nat) : Prop := z_Is n T ∧ T (2388 + d) = c - j ∧ (∀ r, r ≤ p → z_ord T d r = z_ord S d r) ∧ (∀ r, p < r → r < c - j → z_ord T d r = z_ord S d (r + j)) ∧ (∀ t, t < 12 → T (2394 + t) = if z_bh S rk d p j t then 0 else S (2394 + t)) ∧ (∀ d2 r, d2 < 6 → d2 ≠ d → r < 12 → z_ord T d2 r = z_ord S d2 r) ∧ (∀ d2, d2 < 6 → d2 ≠ d → T (2388 + d2) = S (2388 + d2)) ∧ (∀ k, 2304 ≤ k → k < 2316 → T k = S k) ∧ (∀ k, 2406 ≤ k → T k = S k) ∧ (∀ k, k < 768 → T k = S k) ∧ ∀ t x, t < 12 → x < 128 → T (768 + 128 * t + x) = if z_bh S rk d p j t then 0 else S (768 + 128 * t + x)
def djS (S : Nat → Nat) (d p : Nat) : Nat → Nat → Nat
  | 0 => S
  | j + 1 => dropS (djS S d p j) d (p + 1) (z_ord S d (p + 1 + j))
/-- is one of the first i behind place p an origin: 3, else 0 -/
def oB (S : Nat → Nat) (d p : Nat) : Nat → Nat
  | 0 => 0
  | i + 1 => if orN S (z_ord S d (p + (1 + i))) 6 = 0 then oB S d p i else 3
theorem oB_3 {S : Nat → Nat} {d p : Nat} : ∀ {i : Nat}, oB S d p i = 0 ∨ oB S d p i = 3
  | 0 => Or.inl rfl
  | i + 1 => by
    unfold oB
    split
    · exact oB_3
    · exact Or.inr rfl
theorem oB_0 {S : Nat → Nat} {d p : Nat} : ∀ {i : Nat}, oB S d p i = 0 ↔ ∀ j, 1 ≤ j → j ≤ i → orN S (z_ord S d (p + j)) 6 = 0
  | 0 => ⟨fun _ j h1 h2 => by omega, fun _ => rfl⟩
  | i + 1 => by
    have ih := oB_0 (S := S) (d := d) (p := p) (i := i)
    unfold oB
    constructor
    · intro h j h1 h2
      by_cases q : orN S (z_ord S d (p + (1 + i))) 6 = 0
      · rw [if_pos q] at h
        by_cases c : j = i + 1
        · rw [c, show i + 1 = 1 + i by omega]
          exact q
        · exact ih.mp h j h1 (by omega)
      · rw [if_neg q] at h
        omega
    · intro h
      have q : orN S (z_ord S d (p + (1 + i))) 6 = 0 := h (1 + i) (by omega) (by omega)
      rw [if_pos q]
      exact ih.mpr (fun j h1 h2 => h j h1 (by omega))
