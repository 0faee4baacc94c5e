/-! ===== the law's keep, slot, isOrigin, drop, numberAt ===== -/
set_option maxHeartbeats 1000000 in
theorem f_keep {M : zM} {a0 a1 a2 a3 a4 a5 : Nat} (d : a3 ≠ a0 ∧ a3 ≠ a1 ∧ a3 ≠ a2 ∧ a4 ≠ a0 ∧ a4 ≠ a1 ∧ a4 ≠ a2 ∧ a5 ≠ a0 ∧ a5 ≠ a1 ∧ a5 ≠ a2 ∧ a3 ≠ a4 ∧ a3 ≠ a5 ∧ a4 ≠ a5) : ∃ M', fL_keep a0 a1 a2 a3 a4 a5 M = some M' ∧ (∀ k, k < 28 → M' a3 k = M a0 k) ∧ (∀ i, i < 64 → z_jj (M' a4) i = z_jj (M a1) i) ∧ (∀ k, k < 32 → M' a5 k = M a2 k) ∧ ∀ a, a ≠ a3 → a ≠ a4 → a ≠ a5 → M' a = M a := by
  obtain ⟨d1, d2, d3, d4, d5, d6, d7, d8, d9, d10, d11, d12⟩ := d
  unfold fL_keep
  obtain ⟨r, q1, q2⟩ := z_loopM (f := fun s : Int32 × zM => fL_keep_L1 a0 a1 a2 a3 a4 a5 s.1 s.2) (fun i M' => (∀ k, k < 28 → k < i → M' a3 k = M a0 k) ∧ (∀ q, q < 64 → q < i → z_jj (M' a4) q = z_jj (M a1) q) ∧ (∀ k, k < 32 → k < i → M' a5 k = M a2 k) ∧ ∀ a, a ≠ a3 → a ≠ a4 → a ≠ a5 → M' a = M a) (fun M' => (∀ k, k < 28 → M' a3 k = M a0 k) ∧ (∀ i, i < 64 → z_jj (M' a4) i = z_jj (M a1) i) ∧ (∀ k, k < 32 → M' a5 k = M a2 k) ∧ ∀ a, a ≠ a3 → a ≠ a4 → a ≠ a5 → M' a = M a) 0 64 (by decide) (s := 0) (M := M) rfl ⟨fun k _ hk => absurd hk (Nat.not_lt_zero k), fun k _ hk => absurd hk (Nat.not_lt_zero k), fun k _ hk => absurd hk (Nat.not_lt_zero k), fun _ _ _ _ => rfl⟩ (fun i M' hi hI => by
    obtain ⟨b1, b2, b3, b4⟩ := hI
    have c0 : M' a0 = M a0 := b4 a0 d1.symm d4.symm d7.symm
    have c1 : M' a1 = M a1 := b4 a1 d2.symm d5.symm d8.symm
    have c2 : M' a2 = M a2 := b4 a2 d3.symm d6.symm d9.symm
    obtain ⟨Ma, hMa⟩ : ∃ Ma, Ma = z_st M' a3 (i % 28) (M a0 (i % 28)) := ⟨_, rfl⟩
    obtain ⟨Mb, hMb⟩ : ∃ Mb, Mb = z_stJ Ma a4 i (z_jj (M a1) i) := ⟨_, rfl⟩
    obtain ⟨Mc, hMc⟩ : ∃ Mc, Mc = z_st Mb a5 (i % 32) (M a2 (i % 32)) := ⟨_, rfl⟩
    have e1 : Ma a1 = M a1 := by rw [hMa, s_n d2.symm, c1]
    have e2 : Mb a2 = M a2 := by rw [hMb, sJ_n d6.symm, hMa, s_n d3.symm, c2]
    have e28 : i % 28 < 28 := by omega
    have e32 : i % 32 < 32 := by omega
    refine ⟨Mc, ?_, fun k hk hki => ?_, fun q hq hqi => ?_, fun k hk hki => ?_, fun a h1 h2 h3 => ?_⟩
    · simp (disch := first | omega | assumption) only [l_0, l_1, l_2, l_3, l_4, l_5, l_6, l_7, l_8, l_11, l_12, l_15, l_16, l_31, l_32, l_66, l_80, l_100, l_127, l_128, l_768, l_2304, l_2310, l_2316, l_2388, l_2394, l_2406, l_2418, l_2430, l_2558, l_2686, l_2814, l_2942, l_3070, l_3390, l_3394, l_3395, l_3396, l_3397, n_leT, n_leF, n_ltT, n_ltF, n_eqT, n_eqF, nI_add, pk_mul, n_sub, z_ldn, z_san, z_bs, z_b2s, z_b3s, z_ocN, z_ocS, z_oxL, z_oxR, z_scL, z_scR, ↓reduceIte, Nat.zero_add, Nat.add_zero, Nat.zero_lt_succ, true_and, and_true, eq_self, n_div, n_mod, z_ldJn, z_saJn, f_blk, f_plc, l_9, l_10, l_13, l_14, l_17, l_18, l_19, l_20, l_21, l_22, l_24, l_28, l_60, l_61, l_62, l_64, l_98, l_99, fL_keep_L1, c0, ← hMa, e1, ← hMb, e2, ← hMc]
    · rw [hMc, s_n d11, hMb, sJ_n d10, hMa, s_s]
      by_cases c : k = i % 28
      · rw [c, u_s]
      · rw [u_n c]
        exact b1 k hk (by omega)
    · rw [hMc, s_n d12, hMb, jj_s]
      by_cases c : q = i
      · rw [if_pos c, c]
      · rw [if_neg c, hMa, s_n d10.symm]
        exact b2 q hq (by omega)
    · rw [hMc, s_s]
      by_cases c : k = i % 32
      · rw [c, u_s]
      · rw [u_n c, hMb, sJ_n d12.symm, hMa, s_n d11.symm]
        exact b3 k hk (by omega)
    · rw [hMc, s_n h3, hMb, sJ_n h2, hMa, s_n h1]
      exact b4 a h1 h2 h3) (fun M' hI => ⟨M', by simp (disch := first | omega | assumption) only [l_0, l_1, l_2, l_3, l_4, l_5, l_6, l_7, l_8, l_11, l_12, l_15, l_16, l_31, l_32, l_66, l_80, l_100, l_127, l_128, l_768, l_2304, l_2310, l_2316, l_2388, l_2394, l_2406, l_2418, l_2430, l_2558, l_2686, l_2814, l_2942, l_3070, l_3390, l_3394, l_3395, l_3396, l_3397, n_leT, n_leF, n_ltT, n_ltF, n_eqT, n_eqF, nI_add, pk_mul, n_sub, z_ldn, z_san, z_bs, z_b2s, z_b3s, z_ocN, z_ocS, z_oxL, z_oxR, z_scL, z_scR, ↓reduceIte, Nat.zero_add, Nat.add_zero, Nat.zero_lt_succ, true_and, and_true, eq_self, n_div, n_mod, z_ldJn, z_saJn, f_blk, f_plc, l_9, l_10, l_13, l_14, l_17, l_18, l_19, l_20, l_21, l_22, l_24, l_28, l_60, l_61, l_62, l_64, l_98, l_99, fL_keep_L1], fun k hk => hI.1 k hk (by omega), fun k hk => hI.2.1 k hk hk, fun k hk => hI.2.2.1 k hk (by omega), hI.2.2.2⟩)
  refine ⟨r, ?_, q2⟩
  rw [q1]
  rfl
theorem f_slot_y {M : zM} {C : Nat} {S : Nat → Nat} (hC : L_m C M S) {s num : Nat} (hs : s < 4) (h : S (2394 + s) = num + 1) (hi : ∀ s t, s < 12 → t < 12 → S (2394 + s) ≠ 0 → S (2394 + s) = S (2394 + t) → s = t) (hb : ∀ s, s < 12 → S (2394 + s) < 2 ^ 30) : fL_slot C (nI num) M = some (nI s) := by
  have hb1 := hb s (by omega)
  unfold fL_slot
  rcases z_loopW (f := fun s9 => fL_slot_L1 C (nI num) M s9) (fun i => i = s) (fun i => Sum.inr (nI i)) (Sum.inl ()) 0 4 (by decide) (s := 0) rfl (fun i _ => Classical.em _) (fun i hi4 hne => by
    have hb2 := hb i (by omega)
    have hne2 : S (2394 + i) ≠ num + 1 := fun q => hne (hi i s (by omega) (by omega) (by omega) (by rw [q, h]))
    simp (disch := first | omega | assumption) only [l_0, l_1, l_2, l_3, l_4, l_5, l_6, l_7, l_8, l_11, l_12, l_15, l_16, l_31, l_32, l_66, l_80, l_100, l_127, l_128, l_768, l_2304, l_2310, l_2316, l_2388, l_2394, l_2406, l_2418, l_2430, l_2558, l_2686, l_2814, l_2942, l_3070, l_3390, l_3394, l_3395, l_3396, l_3397, n_leT, n_leF, n_ltT, n_ltF, n_eqT, n_eqF, nI_add, pk_mul, n_sub, z_ldn, z_san, z_bs, z_b2s, z_b3s, z_ocN, z_ocS, z_oxL, z_oxR, z_scL, z_scR, ↓reduceIte, Nat.zero_add, Nat.add_zero, Nat.zero_lt_succ, true_and, and_true, eq_self, n_div, n_mod, z_ldJn, z_saJn, f_blk, f_plc, l_9, l_10, l_13, l_14, l_17, l_18, l_19, l_20, l_21, l_22, l_24, l_28, l_60, l_61, l_62, l_64, l_98, l_99, fL_slot_L1, (hC.2.2 i hi4).1]) (fun i hi4 hie => by
    subst hie
    simp (disch := first | omega | assumption) only [l_0, l_1, l_2, l_3, l_4, l_5, l_6, l_7, l_8, l_11, l_12, l_15, l_16, l_31, l_32, l_66, l_80, l_100, l_127, l_128, l_768, l_2304, l_2310, l_2316, l_2388, l_2394, l_2406, l_2418, l_2430, l_2558, l_2686, l_2814, l_2942, l_3070, l_3390, l_3394, l_3395, l_3396, l_3397, n_leT, n_leF, n_ltT, n_ltF, n_eqT, n_eqF, nI_add, pk_mul, n_sub, z_ldn, z_san, z_bs, z_b2s, z_b3s, z_ocN, z_ocS, z_oxL, z_oxR, z_scL, z_scR, ↓reduceIte, Nat.zero_add, Nat.add_zero, Nat.zero_lt_succ, true_and, and_true, eq_self, n_div, n_mod, z_ldJn, z_saJn, f_blk, f_plc, l_9, l_10, l_13, l_14, l_17, l_18, l_19, l_20, l_21, l_22, l_24, l_28, l_60, l_61, l_62, l_64, l_98, l_99, fL_slot_L1, (hC.2.2 i hi4).1, h]) (by simp (disch := first | omega | assumption) only [l_0, l_1, l_2, l_3, l_4, l_5, l_6, l_7, l_8, l_11, l_12, l_15, l_16, l_31, l_32, l_66, l_80, l_100, l_127, l_128, l_768, l_2304, l_2310, l_2316, l_2388, l_2394, l_2406, l_2418, l_2430, l_2558, l_2686, l_2814, l_2942, l_3070, l_3390, l_3394, l_3395, l_3396, l_3397, n_leT, n_leF, n_ltT, n_ltF, n_eqT, n_eqF, nI_add, pk_mul, n_sub, z_ldn, z_san, z_bs, z_b2s, z_b3s, z_ocN, z_ocS, z_oxL, z_oxR, z_scL, z_scR, ↓reduceIte, Nat.zero_add, Nat.add_zero, Nat.zero_lt_succ, true_and, and_true, eq_self, n_div, n_mod, z_ldJn, z_saJn, f_blk, f_plc, l_9, l_10, l_13, l_14, l_17, l_18, l_19, l_20, l_21, l_22, l_24, l_28, l_60, l_61, l_62, l_64, l_98, l_99, fL_slot_L1]) with ⟨i, q1, q2, q3, q4⟩ | ⟨q1, q2⟩
  · rw [q4, q2]
    rfl
  · exact absurd rfl (q1 s hs)
theorem f_slot_n {M : zM} {C : Nat} {S : Nat → Nat} (hC : L_m C M S) {num : Nat} (hn : num < 2 ^ 30) (h : ∀ s, s < 4 → S (2394 + s) ≠ num + 1) (hb : ∀ s, s < 12 → S (2394 + s) < 2 ^ 30) : fL_slot C (nI num) M = some (-nI 1) := by
  unfold fL_slot
  rcases z_loopW (f := fun s9 => fL_slot_L1 C (nI num) M s9) (fun i => False) (fun i => Sum.inr (nI i)) (Sum.inl ()) 0 4 (by decide) (s := 0) rfl (fun i _ => Or.inr id) (fun i hi4 _ => by
    have hb2 := hb i (by omega)
    have hne2 := h i hi4
    simp (disch := first | omega | assumption) only [l_0, l_1, l_2, l_3, l_4, l_5, l_6, l_7, l_8, l_11, l_12, l_15, l_16, l_31, l_32, l_66, l_80, l_100, l_127, l_128, l_768, l_2304, l_2310, l_2316, l_2388, l_2394, l_2406, l_2418, l_2430, l_2558, l_2686, l_2814, l_2942, l_3070, l_3390, l_3394, l_3395, l_3396, l_3397, n_leT, n_leF, n_ltT, n_ltF, n_eqT, n_eqF, nI_add, pk_mul, n_sub, z_ldn, z_san, z_bs, z_b2s, z_b3s, z_ocN, z_ocS, z_oxL, z_oxR, z_scL, z_scR, ↓reduceIte, Nat.zero_add, Nat.add_zero, Nat.zero_lt_succ, true_and, and_true, eq_self, n_div, n_mod, z_ldJn, z_saJn, f_blk, f_plc, l_9, l_10, l_13, l_14, l_17, l_18, l_19, l_20, l_21, l_22, l_24, l_28, l_60, l_61, l_62, l_64, l_98, l_99, fL_slot_L1, (hC.2.2 i hi4).1]) (fun i hi4 hie => hie.elim) (by simp (disch := first | omega | assumption) only [l_0, l_1, l_2, l_3, l_4, l_5, l_6, l_7, l_8, l_11, l_12, l_15, l_16, l_31, l_32, l_66, l_80, l_100, l_127, l_128, l_768, l_2304, l_2310, l_2316, l_2388, l_2394, l_2406, l_2418, l_2430, l_2558, l_2686, l_2814, l_2942, l_3070, l_3390, l_3394, l_3395, l_3396, l_3397, n_leT, n_leF, n_ltT, n_ltF, n_eqT, n_eqF, nI_add, pk_mul, n_sub, z_ldn, z_san, z_bs, z_b2s, z_b3s, z_ocN, z_ocS, z_oxL, z_oxR, z_scL, z_scR, ↓reduceIte, Nat.zero_add, Nat.add_zero, Nat.zero_lt_succ, true_and, and_true, eq_self, n_div, n_mod, z_ldJn, z_saJn, f_blk, f_plc, l_9, l_10, l_13, l_14, l_17, l_18, l_19, l_20, l_21, l_22, l_24, l_28, l_60, l_61, l_62, l_64, l_98, l_99, fL_slot_L1]) with ⟨i, q1, q2, q3, q4⟩ | ⟨q1, q2⟩
  · exact q2.elim
  · rw [q2]
    rfl
/-- a dataset's origin, by its number -/
theorem onum_iff {n : Nat} {S : Nat → Nat} (hI : z_I n S) {d s : Nat} (hd : d < 6) (hs : s < 12) (h0 : S (2394 + s) ≠ 0) : (S (2304 + d) = 1 ∧ z_onum S d = S (2394 + s)) ↔ S (2310 + d) = s + 1 := by
  have h12 := (I_ori hI d hd).1
  unfold z_onum
  constructor
  · rintro ⟨h1, h2⟩
    by_cases c : S (2310 + d) = 0
    · rw [if_pos c] at h2
      omega
    · rw [if_neg c] at h2
      have := I_num hI (S (2310 + d) - 1) s (by omega) hs (by rw [h2]; exact h0) h2
      omega
  · intro h
    rw [if_neg (by omega), h, Nat.add_sub_cancel]
    refine ⟨?_, rfl⟩
    by_cases c : S (2304 + d) = 0
    · have := (I_emp hI d hd c).1
      omega
    · have := I_ex hI d hd
      omega
def q_or (S : Nat → Nat) (s : Nat) : Nat → Nat
  | 0 => 0
  | k + 1 => if q_or S s k = 0 then (if S (2304 + k) = 1 ∧ z_onum S k = S (2394 + s) then 1 else 0) else 1
theorem qor_1 {S : Nat → Nat} {s : Nat} : ∀ {k : Nat}, q_or S s k ≤ 1
  | 0 => Nat.zero_le _
  | k + 1 => by
    show (if q_or S s k = 0 then (if S (2304 + k) = 1 ∧ z_onum S k = S (2394 + s) then 1 else 0) else 1) ≤ 1
    split
    · split <;> omega
    · omega
theorem qor_0 {S : Nat → Nat} {s : Nat} : ∀ {k : Nat}, q_or S s k = 0 ↔ ∀ d, d < k → ¬ (S (2304 + d) = 1 ∧ z_onum S d = S (2394 + s))
  | 0 => ⟨fun _ d hd => absurd hd (Nat.not_lt_zero d), fun _ => rfl⟩
  | k + 1 => by
    have ih := qor_0 (S := S) (s := s) (k := k)
    have e : q_or S s (k + 1) = if q_or S s k = 0 then (if S (2304 + k) = 1 ∧ z_onum S k = S (2394 + s) then 1 else 0) else 1 := rfl
    rw [e]
    constructor
    · intro h d hd
      by_cases c : q_or S s k = 0
      · rw [if_pos c] at h
        by_cases c2 : d = k
        · rw [c2]
          intro c3
          rw [if_pos c3] at h
          exact absurd h (by decide)
        · exact ih.mp c d (by omega)
      · rw [if_neg c] at h
        exact absurd h (by decide)
    · intro h
      rw [if_pos (ih.mpr (fun d hd => h d (by omega))), if_neg (h k (by omega))]
theorem f_isO {n : Nat} {M : zM} {C : Nat} {S : Nat → Nat} (hC : L_m C M S) (hI : z_I n S) (hn : n < 512) (hsm : q_sm S) {s : Nat} (hs : s < 4) (h0 : S (2394 + s) ≠ 0) : fL_isOrigin C (nI s) M = some (nI (orN S s 6)) := by
  have hb := hb30 hI hn
  have e := z_loopC (f := fun q : Int32 × Int32 => fL_isOrigin_L1 C (nI s) M q.1 q.2) (fun k => (nI (q_or S s k), nI k)) 3 (nI (q_or S s 3)) (by decide) (fun k hk => by
    obtain ⟨c1, c2⟩ := hC.2.1 k hk
    have c3 := (hC.2.2 s hs).1
    have hx := I_ex hI k (by omega)
    have hb1 := hb s (by omega)
    have ho : z_onum S k < 2 ^ 30 := by
      unfold z_onum
      have := (I_ori hI k (by omega)).1
      split
      · decide
      · exact hb _ (by omega)
    have q1 := qor_1 (S := S) (s := s) (k := k)
    have es : q_or S s (k + 1) = if q_or S s k = 0 then (if S (2304 + k) = 1 ∧ z_onum S k = S (2394 + s) then 1 else 0) else 1 := rfl
    simp only [es]
    by_cases x1 : q_or S s k = 0
    · by_cases x2 : S (2304 + k) = 1
      · by_cases x3 : z_onum S k = S (2394 + s)
        · simp (disch := first | omega | assumption) only [l_0, l_1, l_2, l_3, l_4, l_5, l_6, l_7, l_8, l_11, l_12, l_15, l_16, l_31, l_32, l_66, l_80, l_100, l_127, l_128, l_768, l_2304, l_2310, l_2316, l_2388, l_2394, l_2406, l_2418, l_2430, l_2558, l_2686, l_2814, l_2942, l_3070, l_3390, l_3394, l_3395, l_3396, l_3397, n_leT, n_leF, n_ltT, n_ltF, n_eqT, n_eqF, nI_add, pk_mul, n_sub, z_ldn, z_san, z_bs, z_b2s, z_b3s, z_ocN, z_ocS, z_oxL, z_oxR, z_scL, z_scR, ↓reduceIte, Nat.zero_add, Nat.add_zero, Nat.zero_lt_succ, true_and, and_true, eq_self, n_div, n_mod, z_ldJn, z_saJn, f_blk, f_plc, l_9, l_10, l_13, l_14, l_17, l_18, l_19, l_20, l_21, l_22, l_24, l_28, l_60, l_61, l_62, l_64, l_98, l_99, fL_isOrigin_L1, c1, c2, c3, x1, x2, x3]
        · simp (disch := first | omega | assumption) only [l_0, l_1, l_2, l_3, l_4, l_5, l_6, l_7, l_8, l_11, l_12, l_15, l_16, l_31, l_32, l_66, l_80, l_100, l_127, l_128, l_768, l_2304, l_2310, l_2316, l_2388, l_2394, l_2406, l_2418, l_2430, l_2558, l_2686, l_2814, l_2942, l_3070, l_3390, l_3394, l_3395, l_3396, l_3397, n_leT, n_leF, n_ltT, n_ltF, n_eqT, n_eqF, nI_add, pk_mul, n_sub, z_ldn, z_san, z_bs, z_b2s, z_b3s, z_ocN, z_ocS, z_oxL, z_oxR, z_scL, z_scR, ↓reduceIte, Nat.zero_add, Nat.add_zero, Nat.zero_lt_succ, true_and, and_true, eq_self, n_div, n_mod, z_ldJn, z_saJn, f_blk, f_plc, l_9, l_10, l_13, l_14, l_17, l_18, l_19, l_20, l_21, l_22, l_24, l_28, l_60, l_61, l_62, l_64, l_98, l_99, fL_isOrigin_L1, c1, c2, c3, x1, x2, if_neg x3]
      · simp (disch := first | omega | assumption) only [l_0, l_1, l_2, l_3, l_4, l_5, l_6, l_7, l_8, l_11, l_12, l_15, l_16, l_31, l_32, l_66, l_80, l_100, l_127, l_128, l_768, l_2304, l_2310, l_2316, l_2388, l_2394, l_2406, l_2418, l_2430, l_2558, l_2686, l_2814, l_2942, l_3070, l_3390, l_3394, l_3395, l_3396, l_3397, n_leT, n_leF, n_ltT, n_ltF, n_eqT, n_eqF, nI_add, pk_mul, n_sub, z_ldn, z_san, z_bs, z_b2s, z_b3s, z_ocN, z_ocS, z_oxL, z_oxR, z_scL, z_scR, ↓reduceIte, Nat.zero_add, Nat.add_zero, Nat.zero_lt_succ, true_and, and_true, eq_self, n_div, n_mod, z_ldJn, z_saJn, f_blk, f_plc, l_9, l_10, l_13, l_14, l_17, l_18, l_19, l_20, l_21, l_22, l_24, l_28, l_60, l_61, l_62, l_64, l_98, l_99, fL_isOrigin_L1, c1, c2, c3, x1, if_neg (show ¬ (S (2304 + k) = 1 ∧ z_onum S k = S (2394 + s)) from fun y => x2 y.1)]
    · simp (disch := first | omega | assumption) only [l_0, l_1, l_2, l_3, l_4, l_5, l_6, l_7, l_8, l_11, l_12, l_15, l_16, l_31, l_32, l_66, l_80, l_100, l_127, l_128, l_768, l_2304, l_2310, l_2316, l_2388, l_2394, l_2406, l_2418, l_2430, l_2558, l_2686, l_2814, l_2942, l_3070, l_3390, l_3394, l_3395, l_3396, l_3397, n_leT, n_leF, n_ltT, n_ltF, n_eqT, n_eqF, nI_add, pk_mul, n_sub, z_ldn, z_san, z_bs, z_b2s, z_b3s, z_ocN, z_ocS, z_oxL, z_oxR, z_scL, z_scR, ↓reduceIte, Nat.zero_add, Nat.add_zero, Nat.zero_lt_succ, true_and, and_true, eq_self, n_div, n_mod, z_ldJn, z_saJn, f_blk, f_plc, l_9, l_10, l_13, l_14, l_17, l_18, l_19, l_20, l_21, l_22, l_24, l_28, l_60, l_61, l_62, l_64, l_98, l_99, fL_isOrigin_L1, if_neg x1]) (by simp (disch := first | omega | assumption) only [l_0, l_1, l_2, l_3, l_4, l_5, l_6, l_7, l_8, l_11, l_12, l_15, l_16, l_31, l_32, l_66, l_80, l_100, l_127, l_128, l_768, l_2304, l_2310, l_2316, l_2388, l_2394, l_2406, l_2418, l_2430, l_2558, l_2686, l_2814, l_2942, l_3070, l_3390, l_3394, l_3395, l_3396, l_3397, n_leT, n_leF, n_ltT, n_ltF, n_eqT, n_eqF, nI_add, pk_mul, n_sub, z_ldn, z_san, z_bs, z_b2s, z_b3s, z_ocN, z_ocS, z_oxL, z_oxR, z_scL, z_scR, ↓reduceIte, Nat.zero_add, Nat.add_zero, Nat.zero_lt_succ, true_and, and_true, eq_self, n_div, n_mod, z_ldJn, z_saJn, f_blk, f_plc, l_9, l_10, l_13, l_14, l_17, l_18, l_19, l_20, l_21, l_22, l_24, l_28, l_60, l_61, l_62, l_64, l_98, l_99, fL_isOrigin_L1])
  have q1 := qor_1 (S := S) (s := s) (k := 3)
  have o1 := orN_1 (S := S) (s := s) (i := 6)
  have heq : q_or S s 3 = orN S s 6 := by
    have h1 : q_or S s 3 = 0 ↔ orN S s 6 = 0 := by
      rw [qor_0, orN_0]
      constructor
      · intro h d hd q
        by_cases c : d < 3
        · exact h d c ((onum_iff hI hd (by omega) h0).mpr q)
        · have := (I_emp hI d hd (hsm.2.1 d (by omega) hd)).1
          omega
      · intro h d hd q
        exact h d (by omega) ((onum_iff hI (by omega) (by omega) h0).mp q)
    by_cases c : q_or S s 3 = 0
    · rw [c, h1.mp c]
    · have : orN S s 6 ≠ 0 := fun x => c (h1.mpr x)
      omega
  unfold fL_isOrigin
  rw [show z_loop (fun q : Int32 × Int32 => fL_isOrigin_L1 C (nI s) M q.1 q.2) z_FU (0, 0) = _ from e, heq, z_bs]
  refine z_bzp ?_
  have : orN S s 6 = 0 ∨ orN S s 6 = 1 := by omega
  rcases this with x | x <;> rw [x]
  · exact Or.inl rfl
  · exact Or.inr rfl
theorem f_drop {M : zM} {X C s : Nat} (hs : s < 4) (hXC : X ≠ C) : ∃ M', fL_drop X C (nI s) M = some M' ∧ M' C = upd (M C) (12 + s) (nI 0) ∧ (∀ k, M' X k = if 12 + 4 * s ≤ k ∧ k < 12 + 4 * s + 4 then nI 0 else M X k) ∧ ∀ a, a ≠ X → a ≠ C → M' a = M a := by
  obtain ⟨M', g1, g2, g3⟩ := z_loopR (f := fun q : Int32 × zM => fL_drop_L1 X (nI s) q.1 q.2) X (12 + 4 * s) 0 4 (fun _ => nI 0) (by decide) (s := 0) (M := z_st M C (12 + s) (nI 0)) rfl (fun i M' hi _ _ => by simp (disch := first | omega | assumption) only [l_0, l_1, l_2, l_3, l_4, l_5, l_6, l_7, l_8, l_11, l_12, l_15, l_16, l_31, l_32, l_66, l_80, l_100, l_127, l_128, l_768, l_2304, l_2310, l_2316, l_2388, l_2394, l_2406, l_2418, l_2430, l_2558, l_2686, l_2814, l_2942, l_3070, l_3390, l_3394, l_3395, l_3396, l_3397, n_leT, n_leF, n_ltT, n_ltF, n_eqT, n_eqF, nI_add, pk_mul, n_sub, z_ldn, z_san, z_bs, z_b2s, z_b3s, z_ocN, z_ocS, z_oxL, z_oxR, z_scL, z_scR, ↓reduceIte, Nat.zero_add, Nat.add_zero, Nat.zero_lt_succ, true_and, and_true, eq_self, n_div, n_mod, z_ldJn, z_saJn, f_blk, f_plc, l_9, l_10, l_13, l_14, l_17, l_18, l_19, l_20, l_21, l_22, l_24, l_28, l_60, l_61, l_62, l_64, l_98, l_99, fL_drop_L1]) (fun M' => by simp (disch := first | omega | assumption) only [l_0, l_1, l_2, l_3, l_4, l_5, l_6, l_7, l_8, l_11, l_12, l_15, l_16, l_31, l_32, l_66, l_80, l_100, l_127, l_128, l_768, l_2304, l_2310, l_2316, l_2388, l_2394, l_2406, l_2418, l_2430, l_2558, l_2686, l_2814, l_2942, l_3070, l_3390, l_3394, l_3395, l_3396, l_3397, n_leT, n_leF, n_ltT, n_ltF, n_eqT, n_eqF, nI_add, pk_mul, n_sub, z_ldn, z_san, z_bs, z_b2s, z_b3s, z_ocN, z_ocS, z_oxL, z_oxR, z_scL, z_scR, ↓reduceIte, Nat.zero_add, Nat.add_zero, Nat.zero_lt_succ, true_and, and_true, eq_self, n_div, n_mod, z_ldJn, z_saJn, f_blk, f_plc, l_9, l_10, l_13, l_14, l_17, l_18, l_19, l_20, l_21, l_22, l_24, l_28, l_60, l_61, l_62, l_64, l_98, l_99, fL_drop_L1])
  refine ⟨M', ?_, by rw [g2 _ hXC.symm, s_s], fun k => by rw [g3 k, s_n hXC], fun a h1 h2 => by rw [g2 a h1, s_n h2]⟩
  unfold fL_drop
  rw [show (z_sa M C 32 (12 + nI s) 0) = some (z_st M C (12 + s) (nI 0)) by simp (disch := first | omega | assumption) only [l_0, l_1, l_2, l_3, l_4, l_5, l_6, l_7, l_8, l_11, l_12, l_15, l_16, l_31, l_32, l_66, l_80, l_100, l_127, l_128, l_768, l_2304, l_2310, l_2316, l_2388, l_2394, l_2406, l_2418, l_2430, l_2558, l_2686, l_2814, l_2942, l_3070, l_3390, l_3394, l_3395, l_3396, l_3397, n_leT, n_leF, n_ltT, n_ltF, n_eqT, n_eqF, nI_add, pk_mul, n_sub, z_ldn, z_san, z_bs, z_b2s, z_b3s, z_ocN, z_ocS, z_oxL, z_oxR, z_scL, z_scR, ↓reduceIte, Nat.zero_add, Nat.add_zero, Nat.zero_lt_succ, true_and, and_true, eq_self, n_div, n_mod, z_ldJn, z_saJn, f_blk, f_plc, l_9, l_10, l_13, l_14, l_17, l_18, l_19, l_20, l_21, l_22, l_24, l_28, l_60, l_61, l_62, l_64, l_98, l_99], z_bs, show z_loop (fun q : Int32 × zM => fL_drop_L1 X (nI s) q.1 q.2) z_FU (0, z_st M C (12 + s) (nI 0)) = _ from g1]
  rfl
theorem sum_lt {r : Nat} : ∀ {c : Nat}, r ≤ c → sumN (fun q => if q < r then 1 else 0) c = r
  | 0, h => by
    have : r = 0 := by omega
    rw [this]
    rfl
  | c + 1, h => by
    show sumN (fun q => if q < r then 1 else 0) c + (if c < r then 1 else 0) = r
    by_cases x : r = c + 1
    · rw [if_pos (by omega), sumN_cg (g' := fun _ => 1) (fun i hi => if_pos (by omega)), x]
      have : ∀ m : Nat, sumN (fun _ => 1) m = m := by
        intro m
        induction m with
        | zero => rfl
        | succ m ih =>
          show sumN (fun _ => 1) m + 1 = m + 1
          rw [ih]
      rw [this]
    · rw [if_neg (by omega), sum_lt (by omega), Nat.add_zero]
/-- so many snapshots of d have a number below i -/
def q_c (S : Nat → Nat) (d i : Nat) : Nat := sumN (fun r => if S (2394 + z_ord S d r) ≤ i then 1 else 0) (S (2388 + d))
theorem qc_r {n : Nat} {S : Nat → Nat} (hI : z_I n S) {d r i : Nat} (hd : d < 6) (hr : r < S (2388 + d)) (h : S (2394 + z_ord S d r) = i + 1) : q_c S d i = r ∧ q_c S d (i + 1) = r + 1 := by
  have as := I_asc hI d hd
  refine ⟨?_, ?_⟩
  · unfold q_c
    rw [sumN_cg (g' := fun q => if q < r then 1 else 0) (fun q hq => ?_), sum_lt (by omega)]
    by_cases c : q < r
    · have := as q r c hr
      rw [if_pos c, if_pos (by omega)]
    · rw [if_neg c, if_neg]
      by_cases c2 : q = r
      · rw [c2, h]
        omega
      · have := as r q (by omega) hq
        omega
  · unfold q_c
    rw [sumN_cg (g' := fun q => if q < r + 1 then 1 else 0) (fun q hq => ?_), sum_lt (by omega)]
    by_cases c : q < r + 1
    · rw [if_pos c, if_pos]
      by_cases c2 : q = r
      · rw [c2, h]
        exact Nat.le_refl _
      · have := as q r (by omega) hr
        omega
    · have := as r q (by omega) hq
      rw [if_neg c, if_neg (by omega)]
theorem qc_n {S : Nat → Nat} {d i : Nat} (h : ∀ r, r < S (2388 + d) → S (2394 + z_ord S d r) ≠ i + 1) : q_c S d (i + 1) = q_c S d i := by
  unfold q_c
  exact sumN_cg (fun r hr => by
    have := h r hr
    by_cases c : S (2394 + z_ord S d r) ≤ i
    · rw [if_pos c, if_pos (by omega)]
    · rw [if_neg c, if_neg (by omega)])
/-- the number of the snapshot at a place of d's order, or none -/
def q_at (S : Nat → Nat) (d p : Nat) : Int32 := if p < S (2388 + d) then nI (S (2394 + z_ord S d p) - 1) else -nI 1
set_option maxHeartbeats 1000000 in
theorem f_numAt {n : Nat} {M : zM} {C : Nat} {S : Nat → Nat} (hC : L_m C M S) (hI : z_I n S) (hn : n < 512) (hsm : q_sm S) {d p : Nat} (hd : d < 6) (hp : p < 20) : fL_numberAt C (nI d) (nI p) M = some (q_at S d p) := by
  have hb := hb30 hI hn
  have hbd := (I_bnd hI).1
  obtain ⟨r, q1, q2⟩ := z_loopF (f := fun q : Int32 × Int32 => fL_numberAt_L1 C (nI d) M q.1 q.2) (fun i s => s = (nI (p - q_c S d i), nI i) ∧ q_c S d i ≤ p) (fun r => z_sc r (fun _ => some (-1)) (fun u9 => some u9) = some (q_at S d p)) (S 3394) (s := (nI p, nI 0)) (by omega) (fun i s hi hI9 => by
    obtain ⟨rfl, hc⟩ := hI9
    have c1 := hC.1.2.1
    have hcnt := (I_ord hI d hd).1
    rcases Nat.lt_or_ge i (S 3394) with hlt | hge
    · by_cases ex : ∃ s, s < 12 ∧ S (2394 + s) = i + 1
      · obtain ⟨s, hs, hsn⟩ := ex
        have hs4 : s < 4 := by
          rcases Nat.lt_or_ge s 4 with x | x
          · exact x
          · have := hsm.2.2.1 s x hs
            omega
        have hsl := f_slot_y hC hs4 hsn (I_num hI) hb
        obtain ⟨m1, m2⟩ := (hC.2.2 s hs4).2 (by omega)
        have hl := I_liv hI s hs (by omega)
        have h6 := hl.2.1
        by_cases ho : S (2418 + s) = d
        · obtain ⟨r, hr, hrs⟩ := hl.2.2.2
          rw [ho] at hr hrs
          obtain ⟨k1, k2⟩ := qc_r hI hd hr (by rw [hrs]; exact hsn)
          rw [k1] at hc
          by_cases hz : p = r
          · right
            have ea : q_at S d p = nI i := by
              unfold q_at
              rw [if_pos (by omega), hz, hrs, hsn, Nat.add_sub_cancel]
            refine ⟨Sum.inr (nI i), ?_, by rw [ea]; rfl⟩
            have e0 : p - q_c S d i = 0 := by omega
            simp (disch := first | omega | assumption) only [l_0, l_1, l_2, l_3, l_4, l_5, l_6, l_7, l_8, l_11, l_12, l_15, l_16, l_31, l_32, l_66, l_80, l_100, l_127, l_128, l_768, l_2304, l_2310, l_2316, l_2388, l_2394, l_2406, l_2418, l_2430, l_2558, l_2686, l_2814, l_2942, l_3070, l_3390, l_3394, l_3395, l_3396, l_3397, n_leT, n_leF, n_ltT, n_ltF, n_eqT, n_eqF, nI_add, pk_mul, n_sub, z_ldn, z_san, z_bs, z_b2s, z_b3s, z_ocN, z_ocS, z_oxL, z_oxR, z_scL, z_scR, ↓reduceIte, Nat.zero_add, Nat.add_zero, Nat.zero_lt_succ, true_and, and_true, eq_self, n_div, n_mod, z_ldJn, z_saJn, f_blk, f_plc, l_9, l_10, l_13, l_14, l_17, l_18, l_19, l_20, l_21, l_22, l_24, l_28, l_60, l_61, l_62, l_64, l_98, l_99, fL_numberAt_L1, c1, hsl, m1, ho, e0]
          · left
            refine ⟨hlt, _, ?_, rfl, by omega⟩
            have e0 : p - q_c S d (i + 1) = p - q_c S d i - 1 := by omega
            have e1 : p - q_c S d i ≠ 0 := by omega
            simp (disch := first | omega | assumption) only [l_0, l_1, l_2, l_3, l_4, l_5, l_6, l_7, l_8, l_11, l_12, l_15, l_16, l_31, l_32, l_66, l_80, l_100, l_127, l_128, l_768, l_2304, l_2310, l_2316, l_2388, l_2394, l_2406, l_2418, l_2430, l_2558, l_2686, l_2814, l_2942, l_3070, l_3390, l_3394, l_3395, l_3396, l_3397, n_leT, n_leF, n_ltT, n_ltF, n_eqT, n_eqF, nI_add, pk_mul, n_sub, z_ldn, z_san, z_bs, z_b2s, z_b3s, z_ocN, z_ocS, z_oxL, z_oxR, z_scL, z_scR, ↓reduceIte, Nat.zero_add, Nat.add_zero, Nat.zero_lt_succ, true_and, and_true, eq_self, n_div, n_mod, z_ldJn, z_saJn, f_blk, f_plc, l_9, l_10, l_13, l_14, l_17, l_18, l_19, l_20, l_21, l_22, l_24, l_28, l_60, l_61, l_62, l_64, l_98, l_99, fL_numberAt_L1, c1, hsl, m1, ho, e0]
        · left
          have hq := qc_n (S := S) (d := d) (i := i) (fun r hr x => by
            obtain ⟨o1, o2, o3⟩ := (I_ord hI d hd).2 r hr
            have := I_num hI _ s o1 hs o2 (by rw [x, hsn])
            rw [this] at o3
            exact ho o3)
          refine ⟨hlt, _, ?_, rfl, by rw [hq]; exact hc⟩
          rw [hq]
          simp (disch := first | omega | assumption) only [l_0, l_1, l_2, l_3, l_4, l_5, l_6, l_7, l_8, l_11, l_12, l_15, l_16, l_31, l_32, l_66, l_80, l_100, l_127, l_128, l_768, l_2304, l_2310, l_2316, l_2388, l_2394, l_2406, l_2418, l_2430, l_2558, l_2686, l_2814, l_2942, l_3070, l_3390, l_3394, l_3395, l_3396, l_3397, n_leT, n_leF, n_ltT, n_ltF, n_eqT, n_eqF, nI_add, pk_mul, n_sub, z_ldn, z_san, z_bs, z_b2s, z_b3s, z_ocN, z_ocS, z_oxL, z_oxR, z_scL, z_scR, ↓reduceIte, Nat.zero_add, Nat.add_zero, Nat.zero_lt_succ, true_and, and_true, eq_self, n_div, n_mod, z_ldJn, z_saJn, f_blk, f_plc, l_9, l_10, l_13, l_14, l_17, l_18, l_19, l_20, l_21, l_22, l_24, l_28, l_60, l_61, l_62, l_64, l_98, l_99, fL_numberAt_L1, c1, hsl, m1, Nat.sub_zero]
      · left
        have hsl := f_slot_n hC (num := i) (by omega) (fun s hs x => ex ⟨s, by omega, x⟩) hb
        have hq := qc_n (S := S) (d := d) (i := i) (fun r hr x => ex ⟨_, ((I_ord hI d hd).2 r hr).1, x⟩)
        refine ⟨hlt, _, ?_, rfl, by rw [hq]; exact hc⟩
        rw [hq]
        simp (disch := first | omega | assumption) only [l_0, l_1, l_2, l_3, l_4, l_5, l_6, l_7, l_8, l_11, l_12, l_15, l_16, l_31, l_32, l_66, l_80, l_100, l_127, l_128, l_768, l_2304, l_2310, l_2316, l_2388, l_2394, l_2406, l_2418, l_2430, l_2558, l_2686, l_2814, l_2942, l_3070, l_3390, l_3394, l_3395, l_3396, l_3397, n_leT, n_leF, n_ltT, n_ltF, n_eqT, n_eqF, nI_add, pk_mul, n_sub, z_ldn, z_san, z_bs, z_b2s, z_b3s, z_ocN, z_ocS, z_oxL, z_oxR, z_scL, z_scR, ↓reduceIte, Nat.zero_add, Nat.add_zero, Nat.zero_lt_succ, true_and, and_true, eq_self, n_div, n_mod, z_ldJn, z_saJn, f_blk, f_plc, l_9, l_10, l_13, l_14, l_17, l_18, l_19, l_20, l_21, l_22, l_24, l_28, l_60, l_61, l_62, l_64, l_98, l_99, fL_numberAt_L1, c1, hsl, n_m1lt, Nat.sub_zero]
    · right
      have hie : i = S 3394 := by omega
      have hall : q_c S d i = S (2388 + d) := by
        unfold q_c
        rw [sumN_cg (g' := fun q => if q < S (2388 + d) then 1 else 0) (fun q hq => ?_), sum_lt (Nat.le_refl _)]
        obtain ⟨o1, o2, o3⟩ := (I_ord hI d hd).2 q hq
        have := (I_liv hI _ o1 o2).1
        rw [if_pos hq, if_pos (by omega)]
      have ea : q_at S d p = -nI 1 := if_neg (by omega)
      refine ⟨Sum.inl (), ?_, by rw [ea]; rfl⟩
      simp (disch := first | omega | assumption) only [l_0, l_1, l_2, l_3, l_4, l_5, l_6, l_7, l_8, l_11, l_12, l_15, l_16, l_31, l_32, l_66, l_80, l_100, l_127, l_128, l_768, l_2304, l_2310, l_2316, l_2388, l_2394, l_2406, l_2418, l_2430, l_2558, l_2686, l_2814, l_2942, l_3070, l_3390, l_3394, l_3395, l_3396, l_3397, n_leT, n_leF, n_ltT, n_ltF, n_eqT, n_eqF, nI_add, pk_mul, n_sub, z_ldn, z_san, z_bs, z_b2s, z_b3s, z_ocN, z_ocS, z_oxL, z_oxR, z_scL, z_scR, ↓reduceIte, Nat.zero_add, Nat.add_zero, Nat.zero_lt_succ, true_and, and_true, eq_self, n_div, n_mod, z_ldJn, z_saJn, f_blk, f_plc, l_9, l_10, l_13, l_14, l_17, l_18, l_19, l_20, l_21, l_22, l_24, l_28, l_60, l_61, l_62, l_64, l_98, l_99, fL_numberAt_L1, c1, hie]) ⟨by
    have h0 : q_c S d 0 = 0 := sumN_0 (fun r hr => by
      have := ((I_ord hI d hd).2 r hr).2.1
      rw [if_neg (by omega)])
    rw [h0]
    rfl, by
    have h0 : q_c S d 0 = 0 := sumN_0 (fun r hr => by
      have := ((I_ord hI d hd).2 r hr).2.1
      rw [if_neg (by omega)])
    omega⟩
  unfold fL_numberAt
  rw [show z_loop (fun q : Int32 × Int32 => fL_numberAt_L1 C (nI d) M q.1 q.2) z_FU (nI p, 0) = _ from q1, z_bs]
  exact q2
