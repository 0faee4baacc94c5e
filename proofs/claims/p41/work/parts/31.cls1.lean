/-! ===== the calls' arguments, on both sides ===== -/
/-- an int that is one of the first n numbers -/
def z_is (a : Int32) (n : Nat) : Prop := ∃ j, j < n ∧ a = nI j
theorem i_cases (a : Int32) (n : Nat) (hn : n < 2 ^ 31) : (∃ j, j < n ∧ a = nI j) ∨ (¬ (nI 0 ≤ a ∧ a < nI n)) := by
  rcases n_ix a hn with h | h | h
  · exact Or.inr (fun q => absurd q.1 (Int32.not_le.mpr h))
  · exact Or.inr (fun q => absurd q.2 (Int32.not_lt.mpr h))
  · exact Or.inl h
theorem z_is_iff {a : Int32} {n : Nat} (hn : n < 2 ^ 31) : z_is a n ↔ nI 0 ≤ a ∧ a < nI n := by
  constructor
  · rintro ⟨j, hj, rfl⟩
    exact ⟨(nI_leI (by decide) (by omega)).mpr (Nat.zero_le j), (nI_ltI (by omega) hn).mpr hj⟩
  · intro h
    rcases i_cases a n hn with q | q
    · exact q
    · exact absurd h q
theorem z_not {a : Int32} {n : Nat} (hn : n < 2 ^ 31) (h : ¬ z_is a n) : a < nI 0 ∨ nI n ≤ a := by
  rcases n_ix a hn with q | q | q
  · exact Or.inl q
  · exact Or.inr q
  · exact absurd q h
theorem ds_cases {S : Nat → Nat} (a : Int32) (hx : ∀ d, d < 6 → S (2304 + d) ≤ 1) : (∃ d, d < 6 ∧ a = nI d ∧ S (2304 + d) = 1) ∨ ∀ d, d < 6 → a = nI d → S (2304 + d) = 0 := by
  rcases i_cases a 6 (by decide) with ⟨d, hd, rfl⟩ | h
  · have := hx d hd
    by_cases q : S (2304 + d) = 1
    · exact Or.inl ⟨d, hd, rfl, q⟩
    · refine Or.inr (fun d2 hd2 q2 => ?_)
      have := (nI_eq (by omega) (by omega)).mp q2
      subst this
      omega
  · exact Or.inr (fun d hd q => absurd ((z_is_iff (by decide)).mp ⟨d, hd, q⟩) h)
theorem sn_cases {S : Nat → Nat} (a : Int32) : (∃ s, s < 12 ∧ S (2394 + s) ≠ 0 ∧ a = nI (S (2394 + s) - 1)) ∨ ∀ s, s < 12 → S (2394 + s) ≠ 0 → a ≠ nI (S (2394 + s) - 1) := by
  by_cases h : ∃ s, s < 12 ∧ S (2394 + s) ≠ 0 ∧ a = nI (S (2394 + s) - 1)
  · exact Or.inl h
  · exact Or.inr (fun s hs q1 q2 => h ⟨s, hs, q1, q2⟩)
theorem pl_cases (a c : Int32) : (∃ f i, f < 8 ∧ i < 16 ∧ a = nI f ∧ c = nI i) ∨ ¬ (z_is a 8 ∧ z_is c 16) := by
  by_cases h : z_is a 8 ∧ z_is c 16
  · obtain ⟨⟨f, hf, q1⟩, i, hi, q2⟩ := h
    exact Or.inl ⟨f, i, hf, hi, q1, q2⟩
  · exact Or.inr h
theorem is_cases (a : Int32) (n : Nat) : (∃ j, j < n ∧ a = nI j) ∨ ¬ z_is a n := Classical.em _
-- the class
theorem cPl_ok {M : zM} {f i : Nat} (hf : f < 8) (hi : i < 16) : fX6_placeOrThrow (nI f) (nI i) M = some (.inr (nI (16 * f + i))) := by
  unfold fX6_placeOrThrow
  simp (disch := first | omega | assumption) only [l_0, l_1, l_2, l_3, l_4, l_5, l_6, l_7, l_8, l_11, l_12, l_15, l_16, l_31, l_32, l_66, l_80, l_100, l_127, l_128, l_768, l_2304, l_2310, l_2316, l_2388, l_2394, l_2406, l_2418, l_2430, l_2558, l_2686, l_2814, l_2942, l_3070, l_3390, l_3394, l_3395, l_3396, l_3397, n_leT, n_leF, n_ltT, n_ltF, n_eqT, n_eqF, nI_add, pk_mul, n_sub, z_ldn, z_san, z_bs, z_b2s, z_b3s, z_ocN, z_ocS, z_oxL, z_oxR, z_scL, z_scR, ↓reduceIte, Nat.zero_add, Nat.add_zero, Nat.zero_lt_succ, true_and, and_true, eq_self, Nat.mul_comm f 16]
theorem cPl_no {M : zM} {a c : Int32} (h : ¬ (z_is a 8 ∧ z_is c 16)) : fX6_placeOrThrow a c M = some (.inl "java/lang/IndexOutOfBoundsException") := by
  unfold fX6_placeOrThrow
  by_cases h1 : a < 0
  · rw [if_pos h1]
  · rw [if_neg h1]
    by_cases h2 : a < 8
    · rw [if_pos h2]
      have ha : z_is a 8 := (z_is_iff (by decide)).mpr ⟨Int32.not_lt.mp h1, h2⟩
      by_cases h3 : c < 0
      · rw [if_pos h3]
      · rw [if_neg h3]
        by_cases h4 : c < 16
        · exact absurd ⟨ha, (z_is_iff (by decide)).mpr ⟨Int32.not_lt.mp h3, h4⟩⟩ h
        · rw [if_neg h4]
    · rw [if_neg h2]
theorem cBl_ok {M : zM} {k : Nat} (h : k < 128) : fX6_blockOrThrow (nI k) M = some (.inr ()) := by
  unfold fX6_blockOrThrow
  simp (disch := first | omega | assumption) only [l_0, l_1, l_2, l_3, l_4, l_5, l_6, l_7, l_8, l_11, l_12, l_15, l_16, l_31, l_32, l_66, l_80, l_100, l_127, l_128, l_768, l_2304, l_2310, l_2316, l_2388, l_2394, l_2406, l_2418, l_2430, l_2558, l_2686, l_2814, l_2942, l_3070, l_3390, l_3394, l_3395, l_3396, l_3397, n_leT, n_leF, n_ltT, n_ltF, n_eqT, n_eqF, nI_add, pk_mul, n_sub, z_ldn, z_san, z_bs, z_b2s, z_b3s, z_ocN, z_ocS, z_oxL, z_oxR, z_scL, z_scR, ↓reduceIte, Nat.zero_add, Nat.add_zero, Nat.zero_lt_succ, true_and, and_true, eq_self]
theorem cBl_no {M : zM} {a : Int32} (h : ¬ z_is a 128) : fX6_blockOrThrow a M = some (.inl "java/lang/IndexOutOfBoundsException") := by
  unfold fX6_blockOrThrow
  by_cases h1 : a < 0
  · rw [if_pos h1]
  · rw [if_neg h1, if_neg (show ¬ a < 128 from fun h2 => h ((z_is_iff (by decide)).mpr ⟨Int32.not_lt.mp h1, h2⟩))]
theorem cRe_ok {M : zM} {k : Nat} (h : k < 4) : fX6_regionOrThrow (nI k) M = some (.inr ()) := by
  unfold fX6_regionOrThrow
  simp (disch := first | omega | assumption) only [l_0, l_1, l_2, l_3, l_4, l_5, l_6, l_7, l_8, l_11, l_12, l_15, l_16, l_31, l_32, l_66, l_80, l_100, l_127, l_128, l_768, l_2304, l_2310, l_2316, l_2388, l_2394, l_2406, l_2418, l_2430, l_2558, l_2686, l_2814, l_2942, l_3070, l_3390, l_3394, l_3395, l_3396, l_3397, n_leT, n_leF, n_ltT, n_ltF, n_eqT, n_eqF, nI_add, pk_mul, n_sub, z_ldn, z_san, z_bs, z_b2s, z_b3s, z_ocN, z_ocS, z_oxL, z_oxR, z_scL, z_scR, ↓reduceIte, Nat.zero_add, Nat.add_zero, Nat.zero_lt_succ, true_and, and_true, eq_self]
theorem cRe_no {M : zM} {a : Int32} (h : ¬ z_is a 4) : fX6_regionOrThrow a M = some (.inl "java/lang/IndexOutOfBoundsException") := by
  unfold fX6_regionOrThrow
  by_cases h1 : a < 0
  · rw [if_pos h1]
  · rw [if_neg h1, if_neg (show ¬ a < 4 from fun h2 => h ((z_is_iff (by decide)).mpr ⟨Int32.not_lt.mp h1, h2⟩))]
theorem cLo_ok {M : zM} {k : Nat} (h : k < 4) : fX6_logOrThrow 0 (nI k) M = some (.inr (1 + 63 + 5 * k)) := by
  unfold fX6_logOrThrow
  simp (disch := first | omega | assumption) only [l_0, l_1, l_2, l_3, l_4, l_5, l_6, l_7, l_8, l_11, l_12, l_15, l_16, l_31, l_32, l_66, l_80, l_100, l_127, l_128, l_768, l_2304, l_2310, l_2316, l_2388, l_2394, l_2406, l_2418, l_2430, l_2558, l_2686, l_2814, l_2942, l_3070, l_3390, l_3394, l_3395, l_3396, l_3397, n_leT, n_leF, n_ltT, n_ltF, n_eqT, n_eqF, nI_add, pk_mul, n_sub, z_ldn, z_san, z_bs, z_b2s, z_b3s, z_ocN, z_ocS, z_oxL, z_oxR, z_scL, z_scR, ↓reduceIte, Nat.zero_add, Nat.add_zero, Nat.zero_lt_succ, true_and, and_true, eq_self, z_lq13]
theorem cLo_no {M : zM} {a : Int32} (h : ¬ z_is a 4) : fX6_logOrThrow 0 a M = some (.inl "java/lang/IndexOutOfBoundsException") := by
  unfold fX6_logOrThrow
  by_cases h1 : a < 0
  · rw [if_pos h1]
  · rw [if_neg h1, if_neg (show ¬ a < 4 from fun h2 => h ((z_is_iff (by decide)).mpr ⟨Int32.not_lt.mp h1, h2⟩))]
theorem cFd_ok {V : Nat} {M : zM} {S : Nat → Nat} (hR : R_ds V M S) {d : Nat} (hd : d < 6) (h : S (2304 + d) = 1) : fX5_findDataset V (nI d) M = some (some (V + 9 + 3 * d)) := by
  unfold fX5_findDataset
  simp (disch := first | omega | assumption) only [l_0, l_1, l_2, l_3, l_4, l_5, l_6, l_7, l_8, l_11, l_12, l_15, l_16, l_31, l_32, l_66, l_80, l_100, l_127, l_128, l_768, l_2304, l_2310, l_2316, l_2388, l_2394, l_2406, l_2418, l_2430, l_2558, l_2686, l_2814, l_2942, l_3070, l_3390, l_3394, l_3395, l_3396, l_3397, n_leT, n_leF, n_ltT, n_ltF, n_eqT, n_eqF, nI_add, pk_mul, n_sub, z_ldn, z_san, z_bs, z_b2s, z_b3s, z_ocN, z_ocS, z_oxL, z_oxR, z_scL, z_scR, ↓reduceIte, Nat.zero_add, Nat.add_zero, Nat.zero_lt_succ, true_and, and_true, eq_self, z_lq11, (hR d hd).1, h]
theorem cFd_no {V : Nat} {M : zM} {S : Nat → Nat} (hR : R_ds V M S) {a : Int32} (h : ∀ d, d < 6 → a = nI d → S (2304 + d) = 0) : fX5_findDataset V a M = some none := by
  unfold fX5_findDataset
  by_cases h1 : a < 0
  · rw [if_pos h1]
  · rw [if_neg h1]
    by_cases h2 : 6 ≤ a
    · rw [if_pos h2]
    · rw [if_neg h2]
      obtain ⟨d, hd, rfl⟩ := (z_is_iff (n := 6) (by decide)).mpr ⟨Int32.not_lt.mp h1, Int32.not_le.mp h2⟩
      simp (disch := first | omega | assumption) only [l_0, l_1, l_2, l_3, l_4, l_5, l_6, l_7, l_8, l_11, l_12, l_15, l_16, l_31, l_32, l_66, l_80, l_100, l_127, l_128, l_768, l_2304, l_2310, l_2316, l_2388, l_2394, l_2406, l_2418, l_2430, l_2558, l_2686, l_2814, l_2942, l_3070, l_3390, l_3394, l_3395, l_3396, l_3397, n_leT, n_leF, n_ltT, n_ltF, n_eqT, n_eqF, nI_add, pk_mul, n_sub, z_ldn, z_san, z_bs, z_b2s, z_b3s, z_ocN, z_ocS, z_oxL, z_oxR, z_scL, z_scR, ↓reduceIte, Nat.zero_add, Nat.add_zero, Nat.zero_lt_succ, true_and, and_true, eq_self, z_lq11, (hR d hd).1, h d hd rfl]
theorem kd_ds {V d : Nat} (hV : z_kd V = 5) (hd : d < 6) : z_kd (V + 9 + 3 * d) = 0 := (z_vd hV hd).1
theorem kd_sn {V s : Nat} (hV : z_kd V = 5) (hs : s < 12) : z_kd (V + 27 + 3 * s) = 2 := z_vs hV hs
theorem kd_lg {V r : Nat} (hV : z_kd V = 5) (hr : r < 4) : z_kd (V + 63 + 5 * r) = 1 := (z_vl hV hr).1
theorem kd1_ds {d : Nat} (hd : d < 6) : z_kd (1 + 9 + 3 * d) = 0 := kd_ds (V := 1) rfl hd
theorem kd1_sn {s : Nat} (hs : s < 12) : z_kd (1 + 27 + 3 * s) = 2 := kd_sn (V := 1) rfl hs
theorem kd1_lg {r : Nat} (hr : r < 4) : z_kd (1 + 63 + 5 * r) = 1 := kd_lg (V := 1) rfl hr
theorem cDs_ok {M : zM} {S : Nat → Nat} (hR : R_ds 1 M S) {d : Nat} (hd : d < 6) (h : S (2304 + d) = 1) : fX6_datasetOrThrow 0 (nI d) M = some (.inr (1 + 9 + 3 * d)) := by
  unfold fX6_datasetOrThrow
  rw [cFd_ok (V := 0 + 1) hR hd h, z_bs, z_ocS, z_gdp (kd_ds (V := 1) rfl hd)]
theorem cDs_no {M : zM} {S : Nat → Nat} (hR : R_ds 1 M S) {a : Int32} (h : ∀ d, d < 6 → a = nI d → S (2304 + d) = 0) : fX6_datasetOrThrow 0 a M = some (.inl "java/lang/IndexOutOfBoundsException") := by
  unfold fX6_datasetOrThrow
  rw [cFd_no (V := 0 + 1) hR h, z_bs, z_ocN]
theorem cFs_ok {V : Nat} {M : zM} {S : Nat → Nat} (hR : R_sn V M S) (hi : ∀ s t, s < 12 → t < 12 → S (2394 + s) ≠ 0 → S (2394 + s) = S (2394 + t) → s = t) (hb : ∀ s, s < 12 → S (2394 + s) < 2 ^ 30) {s : Nat} (hs : s < 12) (h : S (2394 + s) ≠ 0) : fX5_findSnapshot V (nI (S (2394 + s) - 1)) M = some (some (V + 27 + 3 * s)) := by
  unfold fX5_findSnapshot
  have hb1 := hb s hs
  rcases z_loopW (f := fun s9 => fX5_findSnapshot_L1 V (nI (S (2394 + s) - 1)) M s9) (fun i => i = s) (fun _ => .inr (some (V + 27 + 3 * s))) (.inl ()) 0 12 (by decide) (s := 0) rfl (fun i _ => Classical.em _) (fun i hi12 hne => by
    have hb2 := hb i hi12
    by_cases he : S (2394 + i) = 0
    · simp (disch := first | omega | assumption) only [l_0, l_1, l_2, l_3, l_4, l_5, l_6, l_7, l_8, l_11, l_12, l_15, l_16, l_31, l_32, l_66, l_80, l_100, l_127, l_128, l_768, l_2304, l_2310, l_2316, l_2388, l_2394, l_2406, l_2418, l_2430, l_2558, l_2686, l_2814, l_2942, l_3070, l_3390, l_3394, l_3395, l_3396, l_3397, n_leT, n_leF, n_ltT, n_ltF, n_eqT, n_eqF, nI_add, pk_mul, n_sub, z_ldn, z_san, z_bs, z_b2s, z_b3s, z_ocN, z_ocS, z_oxL, z_oxR, z_scL, z_scR, ↓reduceIte, Nat.zero_add, Nat.add_zero, Nat.zero_lt_succ, true_and, and_true, eq_self, fX5_findSnapshot_L1, z_lq12, (hR i hi12).1, if_pos he]
    · have hne2 : S (2394 + i) ≠ S (2394 + s) := fun q => hne (hi i s hi12 hs he q)
      simp (disch := first | omega | assumption) only [l_0, l_1, l_2, l_3, l_4, l_5, l_6, l_7, l_8, l_11, l_12, l_15, l_16, l_31, l_32, l_66, l_80, l_100, l_127, l_128, l_768, l_2304, l_2310, l_2316, l_2388, l_2394, l_2406, l_2418, l_2430, l_2558, l_2686, l_2814, l_2942, l_3070, l_3390, l_3394, l_3395, l_3396, l_3397, n_leT, n_leF, n_ltT, n_ltF, n_eqT, n_eqF, nI_add, pk_mul, n_sub, z_ldn, z_san, z_bs, z_b2s, z_b3s, z_ocN, z_ocS, z_oxL, z_oxR, z_scL, z_scR, ↓reduceIte, Nat.zero_add, Nat.add_zero, Nat.zero_lt_succ, true_and, and_true, eq_self, fX5_findSnapshot_L1, z_lq12, (hR i hi12).1, if_neg he, ((hR i hi12).2 he).1]) (fun i hi12 hie => by
    subst hie
    simp (disch := first | omega | assumption) only [l_0, l_1, l_2, l_3, l_4, l_5, l_6, l_7, l_8, l_11, l_12, l_15, l_16, l_31, l_32, l_66, l_80, l_100, l_127, l_128, l_768, l_2304, l_2310, l_2316, l_2388, l_2394, l_2406, l_2418, l_2430, l_2558, l_2686, l_2814, l_2942, l_3070, l_3390, l_3394, l_3395, l_3396, l_3397, n_leT, n_leF, n_ltT, n_ltF, n_eqT, n_eqF, nI_add, pk_mul, n_sub, z_ldn, z_san, z_bs, z_b2s, z_b3s, z_ocN, z_ocS, z_oxL, z_oxR, z_scL, z_scR, ↓reduceIte, Nat.zero_add, Nat.add_zero, Nat.zero_lt_succ, true_and, and_true, eq_self, fX5_findSnapshot_L1, z_lq12, (hR i hi12).1, if_neg h, ((hR i hi12).2 h).1]) (by simp (disch := first | omega | assumption) only [l_0, l_1, l_2, l_3, l_4, l_5, l_6, l_7, l_8, l_11, l_12, l_15, l_16, l_31, l_32, l_66, l_80, l_100, l_127, l_128, l_768, l_2304, l_2310, l_2316, l_2388, l_2394, l_2406, l_2418, l_2430, l_2558, l_2686, l_2814, l_2942, l_3070, l_3390, l_3394, l_3395, l_3396, l_3397, n_leT, n_leF, n_ltT, n_ltF, n_eqT, n_eqF, nI_add, pk_mul, n_sub, z_ldn, z_san, z_bs, z_b2s, z_b3s, z_ocN, z_ocS, z_oxL, z_oxR, z_scL, z_scR, ↓reduceIte, Nat.zero_add, Nat.add_zero, Nat.zero_lt_succ, true_and, and_true, eq_self, fX5_findSnapshot_L1]) with ⟨i, q1, q2, q3, q4⟩ | ⟨q1, q2⟩
  · rw [q4]
    rfl
  · exact absurd rfl (q1 s hs)
theorem cFs_no {V : Nat} {M : zM} {S : Nat → Nat} (hR : R_sn V M S) {a : Int32} (h : ∀ s, s < 12 → S (2394 + s) ≠ 0 → a ≠ nI (S (2394 + s) - 1)) : fX5_findSnapshot V a M = some none := by
  unfold fX5_findSnapshot
  rcases z_loopW (f := fun s9 => fX5_findSnapshot_L1 V a M s9) (fun i => False) (fun _ => .inl ()) (.inl ()) 0 12 (by decide) (s := 0) rfl (fun i _ => Or.inr id) (fun i hi12 _ => by
    by_cases he : S (2394 + i) = 0
    · simp (disch := first | omega | assumption) only [l_0, l_1, l_2, l_3, l_4, l_5, l_6, l_7, l_8, l_11, l_12, l_15, l_16, l_31, l_32, l_66, l_80, l_100, l_127, l_128, l_768, l_2304, l_2310, l_2316, l_2388, l_2394, l_2406, l_2418, l_2430, l_2558, l_2686, l_2814, l_2942, l_3070, l_3390, l_3394, l_3395, l_3396, l_3397, n_leT, n_leF, n_ltT, n_ltF, n_eqT, n_eqF, nI_add, pk_mul, n_sub, z_ldn, z_san, z_bs, z_b2s, z_b3s, z_ocN, z_ocS, z_oxL, z_oxR, z_scL, z_scR, ↓reduceIte, Nat.zero_add, Nat.add_zero, Nat.zero_lt_succ, true_and, and_true, eq_self, fX5_findSnapshot_L1, z_lq12, (hR i hi12).1, if_pos he]
    · have hq : (nI (S (2394 + i) - 1) = a) = False := eq_false (fun q => h i hi12 he q.symm)
      simp (disch := first | omega | assumption) only [l_0, l_1, l_2, l_3, l_4, l_5, l_6, l_7, l_8, l_11, l_12, l_15, l_16, l_31, l_32, l_66, l_80, l_100, l_127, l_128, l_768, l_2304, l_2310, l_2316, l_2388, l_2394, l_2406, l_2418, l_2430, l_2558, l_2686, l_2814, l_2942, l_3070, l_3390, l_3394, l_3395, l_3396, l_3397, n_leT, n_leF, n_ltT, n_ltF, n_eqT, n_eqF, nI_add, pk_mul, n_sub, z_ldn, z_san, z_bs, z_b2s, z_b3s, z_ocN, z_ocS, z_oxL, z_oxR, z_scL, z_scR, ↓reduceIte, Nat.zero_add, Nat.add_zero, Nat.zero_lt_succ, true_and, and_true, eq_self, fX5_findSnapshot_L1, z_lq12, (hR i hi12).1, if_neg he, ((hR i hi12).2 he).1, hq]) (fun i hi12 hie => hie.elim) (by simp (disch := first | omega | assumption) only [l_0, l_1, l_2, l_3, l_4, l_5, l_6, l_7, l_8, l_11, l_12, l_15, l_16, l_31, l_32, l_66, l_80, l_100, l_127, l_128, l_768, l_2304, l_2310, l_2316, l_2388, l_2394, l_2406, l_2418, l_2430, l_2558, l_2686, l_2814, l_2942, l_3070, l_3390, l_3394, l_3395, l_3396, l_3397, n_leT, n_leF, n_ltT, n_ltF, n_eqT, n_eqF, nI_add, pk_mul, n_sub, z_ldn, z_san, z_bs, z_b2s, z_b3s, z_ocN, z_ocS, z_oxL, z_oxR, z_scL, z_scR, ↓reduceIte, Nat.zero_add, Nat.add_zero, Nat.zero_lt_succ, true_and, and_true, eq_self, fX5_findSnapshot_L1]) with ⟨i, q1, q2, q3, q4⟩ | ⟨q1, q2⟩
  · exact q2.elim
  · rw [q2]
    rfl
theorem cSn_ok {M : zM} {S : Nat → Nat} (hR : R_sn 1 M S) (hi : ∀ s t, s < 12 → t < 12 → S (2394 + s) ≠ 0 → S (2394 + s) = S (2394 + t) → s = t) (hb : ∀ s, s < 12 → S (2394 + s) < 2 ^ 30) {s : Nat} (hs : s < 12) (h : S (2394 + s) ≠ 0) : fX6_snapshotOrThrow 0 (nI (S (2394 + s) - 1)) M = some (.inr (1 + 27 + 3 * s)) := by
  unfold fX6_snapshotOrThrow
  rw [cFs_ok (V := 0 + 1) hR hi hb hs h, z_bs, z_ocS, z_gdp (kd_sn (V := 1) rfl hs)]
theorem cSn_no {M : zM} {S : Nat → Nat} (hR : R_sn 1 M S) {a : Int32} (h : ∀ s, s < 12 → S (2394 + s) ≠ 0 → a ≠ nI (S (2394 + s) - 1)) : fX6_snapshotOrThrow 0 a M = some (.inl "java/lang/IndexOutOfBoundsException") := by
  unfold fX6_snapshotOrThrow
  rw [cFs_no (V := 0 + 1) hR h, z_bs, z_ocN]
-- blocks, in the class: 'nI 0 - nI 1' is no block
theorem cBo {T p : Nat} {M : zM} (hp : p < 128) : fX4_blockOf T (nI p) M = some (M (T + 1) p) := by
  unfold fX4_blockOf
  simp (disch := first | omega | assumption) only [l_0, l_1, l_2, l_3, l_4, l_5, l_6, l_7, l_8, l_11, l_12, l_15, l_16, l_31, l_32, l_66, l_80, l_100, l_127, l_128, l_768, l_2304, l_2310, l_2316, l_2388, l_2394, l_2406, l_2418, l_2430, l_2558, l_2686, l_2814, l_2942, l_3070, l_3390, l_3394, l_3395, l_3396, l_3397, n_leT, n_leF, n_ltT, n_ltF, n_eqT, n_eqF, nI_add, pk_mul, n_sub, z_ldn, z_san, z_bs, z_b2s, z_b3s, z_ocN, z_ocS, z_oxL, z_oxR, z_scL, z_scR, ↓reduceIte, Nat.zero_add, Nat.add_zero, Nat.zero_lt_succ, true_and, and_true, eq_self]
theorem cIb0 {M : zM} : fX3_isBlock (nI 0 - nI 1) M = some (nI 0) := by
  unfold fX3_isBlock
  simp (disch := first | omega | assumption) only [l_0, l_1, l_2, l_3, l_4, l_5, l_6, l_7, l_8, l_11, l_12, l_15, l_16, l_31, l_32, l_66, l_80, l_100, l_127, l_128, l_768, l_2304, l_2310, l_2316, l_2388, l_2394, l_2406, l_2418, l_2430, l_2558, l_2686, l_2814, l_2942, l_3070, l_3390, l_3394, l_3395, l_3396, l_3397, n_leT, n_leF, n_ltT, n_ltF, n_eqT, n_eqF, nI_add, pk_mul, n_sub, z_ldn, z_san, z_bs, z_b2s, z_b3s, z_ocN, z_ocS, z_oxL, z_oxR, z_scL, z_scR, ↓reduceIte, Nat.zero_add, Nat.add_zero, Nat.zero_lt_succ, true_and, and_true, eq_self, n_m0a]
theorem cIb {M : zM} {b : Nat} (hb : b < 128) : fX3_isBlock (nI b) M = some (nI 1) := by
  unfold fX3_isBlock
  simp (disch := first | omega | assumption) only [l_0, l_1, l_2, l_3, l_4, l_5, l_6, l_7, l_8, l_11, l_12, l_15, l_16, l_31, l_32, l_66, l_80, l_100, l_127, l_128, l_768, l_2304, l_2310, l_2316, l_2388, l_2394, l_2406, l_2418, l_2430, l_2558, l_2686, l_2814, l_2942, l_3070, l_3390, l_3394, l_3395, l_3396, l_3397, n_leT, n_leF, n_ltT, n_ltF, n_eqT, n_eqF, nI_add, pk_mul, n_sub, z_ldn, z_san, z_bs, z_b2s, z_b3s, z_ocN, z_ocS, z_oxL, z_oxR, z_scL, z_scR, ↓reduceIte, Nat.zero_add, Nat.add_zero, Nat.zero_lt_succ, true_and, and_true, eq_self]
theorem cVal0 {sp : Nat} {M : zM} : fX3_valueOf sp (nI 0 - nI 1) M = some (nI 0) := by
  unfold fX3_valueOf
  simp (disch := first | omega | assumption) only [l_0, l_1, l_2, l_3, l_4, l_5, l_6, l_7, l_8, l_11, l_12, l_15, l_16, l_31, l_32, l_66, l_80, l_100, l_127, l_128, l_768, l_2304, l_2310, l_2316, l_2388, l_2394, l_2406, l_2418, l_2430, l_2558, l_2686, l_2814, l_2942, l_3070, l_3390, l_3394, l_3395, l_3396, l_3397, n_leT, n_leF, n_ltT, n_ltF, n_eqT, n_eqF, nI_add, pk_mul, n_sub, z_ldn, z_san, z_bs, z_b2s, z_b3s, z_ocN, z_ocS, z_oxL, z_oxR, z_scL, z_scR, ↓reduceIte, Nat.zero_add, Nat.add_zero, Nat.zero_lt_succ, true_and, and_true, eq_self, cIb0]
theorem cVal {sp b : Nat} {M : zM} (hb : b < 128) : fX3_valueOf sp (nI b) M = some (M (sp + 2) b) := by
  unfold fX3_valueOf
  simp (disch := first | omega | assumption) only [l_0, l_1, l_2, l_3, l_4, l_5, l_6, l_7, l_8, l_11, l_12, l_15, l_16, l_31, l_32, l_66, l_80, l_100, l_127, l_128, l_768, l_2304, l_2310, l_2316, l_2388, l_2394, l_2406, l_2418, l_2430, l_2558, l_2686, l_2814, l_2942, l_3070, l_3390, l_3394, l_3395, l_3396, l_3397, n_leT, n_leF, n_ltT, n_ltF, n_eqT, n_eqF, nI_add, pk_mul, n_sub, z_ldn, z_san, z_bs, z_b2s, z_b3s, z_ocN, z_ocS, z_oxL, z_oxR, z_scL, z_scR, ↓reduceIte, Nat.zero_add, Nat.add_zero, Nat.zero_lt_succ, true_and, and_true, eq_self, cIb]
theorem z_bz0 {α : Type} {o : Option α} : z_bz (nI 0) o = o := if_pos (Or.inl rfl)
theorem z_bz1 {α : Type} {o : Option α} : z_bz (nI 1) o = o := if_pos (Or.inr rfl)
theorem n_m0d : -nI 1 = nI 0 - nI 1 := by decide
theorem n_m1lt : (-nI 1 < nI 0) = True := eq_true (by decide)
theorem hb30 {n : Nat} {S : Nat → Nat} (hI : z_I n S) (hn : n < 512) : ∀ s, s < 12 → S (2394 + s) < 2 ^ 30 := fun s hs => by
  have := I_nb hI s hs
  omega
/-- the place behind the last that isn't 0 -/
def lenN (g : Nat → Nat) : Nat → Nat
  | 0 => 0
  | n + 1 => if g n = 0 then lenN g n else n + 1
/-! ===== the calls that change nothing: counting ===== -/
/-- as many as the places that f lists -/
theorem bij_cnt {m : Nat} {f : Nat → Nat} : ∀ (k : Nat) (g : Nat → Nat), (∀ r, r < k → f r < m) → (∀ r q, r < q → q < k → f r ≠ f q) → (∀ s, s < m → g s ≤ 1) → (∀ s, s < m → (g s = 1 ↔ ∃ r, r < k ∧ f r = s)) → sumN g m = k
  | 0, g, _, _, h0, h1 => sumN_0 (fun s hs => by
    have := h0 s hs
    by_cases q : g s = 1
    · obtain ⟨r, hr, _⟩ := (h1 s hs).mp q
      omega
    · omega)
  | k + 1, g, hf, hi, h0, h1 => by
    have ih := bij_cnt (m := m) (f := f) k (fun s => if s = f k then 0 else g s) (fun r hr => hf r (by omega)) (fun r q h2 h3 => hi r q h2 (by omega)) (fun s hs => by
      have := h0 s hs
      show (if s = f k then 0 else g s) ≤ 1
      split <;> omega) (fun s hs => by
      show (if s = f k then 0 else g s) = 1 ↔ _
      by_cases q : s = f k
      · rw [if_pos q]
        constructor
        · intro h
          omega
        · rintro ⟨r, hr, h2⟩
          exact absurd (h2.trans q) (hi r k hr (by omega))
      · rw [if_neg q, h1 s hs]
        constructor
        · rintro ⟨r, hr, h2⟩
          refine ⟨r, ?_, h2⟩
          rcases Nat.lt_or_ge r k with h3 | h3
          · exact h3
          · have : r = k := by omega
            subst this
            exact absurd h2.symm q
        · rintro ⟨r, hr, h2⟩
          exact ⟨r, by omega, h2⟩)
    have hk := hf k (by omega)
    have h2 := sumN_ch (g := g) (g' := fun s => if s = f k then 0 else g s) hk (fun i _ q => if_neg q)
    have h3 : g (f k) = 1 := (h1 _ hk).mpr ⟨k, by omega, rfl⟩
    rw [if_pos rfl] at h2
    omega
theorem I_inj {n : Nat} {S : Nat → Nat} (hI : z_I n S) {d : Nat} (hd : d < 6) {r q : Nat} (h1 : r < q) (h2 : q < S (2388 + d)) : z_ord S d r ≠ z_ord S d q := fun e => by
  have := I_asc hI d hd r q h1 h2
  rw [e] at this
  omega
theorem I_inj2 {n : Nat} {S : Nat → Nat} (hI : z_I n S) {d : Nat} (hd : d < 6) {r q : Nat} (h1 : r < S (2388 + d)) (h2 : q < S (2388 + d)) (e : z_ord S d r = z_ord S d q) : r = q := by
  rcases Nat.lt_trichotomy r q with h | h | h
  · exact absurd e (I_inj hI hd h h2)
  · exact h
  · exact absurd e.symm (I_inj hI hd h h1)
/-- a snapshot of dataset d in slot s -/
def z_own (S : Nat → Nat) (d s : Nat) : Nat := if S (2394 + s) ≠ 0 ∧ S (2418 + s) = d then 1 else 0
theorem z_own_cnt {n : Nat} {S : Nat → Nat} (hI : z_I n S) {d : Nat} (hd : d < 6) : sumN (z_own S d) 12 = S (2388 + d) :=
  bij_cnt (f := z_ord S d) (S (2388 + d)) (z_own S d) (fun r hr => ((I_ord hI d hd).2 r hr).1) (fun r q h1 h2 => I_inj hI hd h1 h2) (fun s _ => by unfold z_own; split <;> omega) (fun s hs => by
    unfold z_own
    constructor
    · intro h
      by_cases q : S (2394 + s) ≠ 0 ∧ S (2418 + s) = d
      · obtain ⟨_, _, _, r, h1, h2⟩ := I_liv hI s hs q.1
        rw [q.2] at h1 h2
        exact ⟨r, h1, h2⟩
      · rw [if_neg q] at h
        omega
    · rintro ⟨r, hr, h2⟩
      have h3 := (I_ord hI d hd).2 r hr
      rw [h2] at h3
      rw [if_pos h3.2])
/-- the class: whether a slot holds a snapshot of d -/
theorem cBel {V : Nat} {M : zM} {S : Nat → Nat} (hR : R_sn V M S) (ho : ∀ s, s < 12 → S (2394 + s) ≠ 0 → S (2418 + s) < 6) {d s : Nat} (hd : d < 6) (hs : s < 12) : fX2_belongsTo (V + 27 + 3 * s) (nI d) M = some (nI (z_own S d s)) := by
  unfold fX2_belongsTo z_own
  by_cases q : S (2394 + s) = 0
  · simp (disch := first | omega | assumption) only [l_0, l_1, l_2, l_3, l_4, l_5, l_6, l_7, l_8, l_11, l_12, l_15, l_16, l_31, l_32, l_66, l_80, l_100, l_127, l_128, l_768, l_2304, l_2310, l_2316, l_2388, l_2394, l_2406, l_2418, l_2430, l_2558, l_2686, l_2814, l_2942, l_3070, l_3390, l_3394, l_3395, l_3396, l_3397, n_leT, n_leF, n_ltT, n_ltF, n_eqT, n_eqF, nI_add, pk_mul, n_sub, z_ldn, z_san, z_bs, z_b2s, z_b3s, z_ocN, z_ocS, z_oxL, z_oxR, z_scL, z_scR, ↓reduceIte, Nat.zero_add, Nat.add_zero, Nat.zero_lt_succ, true_and, and_true, eq_self, (hR s hs).1, q, ne_eq, not_true_eq_false, false_and]
  · have ho2 := ho s hs q
    by_cases q2 : S (2418 + s) = d
    · simp (disch := first | omega | assumption) only [l_0, l_1, l_2, l_3, l_4, l_5, l_6, l_7, l_8, l_11, l_12, l_15, l_16, l_31, l_32, l_66, l_80, l_100, l_127, l_128, l_768, l_2304, l_2310, l_2316, l_2388, l_2394, l_2406, l_2418, l_2430, l_2558, l_2686, l_2814, l_2942, l_3070, l_3390, l_3394, l_3395, l_3396, l_3397, n_leT, n_leF, n_ltT, n_ltF, n_eqT, n_eqF, nI_add, pk_mul, n_sub, z_ldn, z_san, z_bs, z_b2s, z_b3s, z_ocN, z_ocS, z_oxL, z_oxR, z_scL, z_scR, ↓reduceIte, Nat.zero_add, Nat.add_zero, Nat.zero_lt_succ, true_and, and_true, eq_self, (hR s hs).1, q, q2, ((hR s hs).2 q).2.1, ne_eq, not_false_eq_true]
    · simp (disch := first | omega | assumption) only [l_0, l_1, l_2, l_3, l_4, l_5, l_6, l_7, l_8, l_11, l_12, l_15, l_16, l_31, l_32, l_66, l_80, l_100, l_127, l_128, l_768, l_2304, l_2310, l_2316, l_2388, l_2394, l_2406, l_2418, l_2430, l_2558, l_2686, l_2814, l_2942, l_3070, l_3390, l_3394, l_3395, l_3396, l_3397, n_leT, n_leF, n_ltT, n_ltF, n_eqT, n_eqF, nI_add, pk_mul, n_sub, z_ldn, z_san, z_bs, z_b2s, z_b3s, z_ocN, z_ocS, z_oxL, z_oxR, z_scL, z_scR, ↓reduceIte, Nat.zero_add, Nat.add_zero, Nat.zero_lt_succ, true_and, and_true, eq_self, (hR s hs).1, q, q2, ((hR s hs).2 q).2.1, ne_eq, not_false_eq_true]
theorem I_own6 {n : Nat} {S : Nat → Nat} (hI : z_I n S) : ∀ s, s < 12 → S (2394 + s) ≠ 0 → S (2418 + s) < 6 := fun s hs q => (I_liv hI s hs q).2.1
theorem cSo {V n : Nat} {M : zM} {S : Nat → Nat} (hR : R_sn V M S) (hI : z_I n S) {d : Nat} (hd : d < 6) : fX5_snapshotsOf V (nI d) M = some (nI (S (2388 + d))) := by
  unfold fX5_snapshotsOf
  rw [z_loopS (f := fun s : Int32 × Int32 => fX5_snapshotsOf_L1 V (nI d) M s.1 s.2) (z_own S d) 0 12 (by decide) (s := (0, 0)) rfl (fun i x hi => by
    have hq := cBel hR (I_own6 hI) hd hi
    have h01 : z_own S d i = 0 ∨ z_own S d i = 1 := by unfold z_own; split <;> omega
    rcases h01 with h01 | h01
    · simp (disch := first | omega | assumption) only [l_0, l_1, l_2, l_3, l_4, l_5, l_6, l_7, l_8, l_11, l_12, l_15, l_16, l_31, l_32, l_66, l_80, l_100, l_127, l_128, l_768, l_2304, l_2310, l_2316, l_2388, l_2394, l_2406, l_2418, l_2430, l_2558, l_2686, l_2814, l_2942, l_3070, l_3390, l_3394, l_3395, l_3396, l_3397, n_leT, n_leF, n_ltT, n_ltF, n_eqT, n_eqF, nI_add, pk_mul, n_sub, z_ldn, z_san, z_bs, z_b2s, z_b3s, z_ocN, z_ocS, z_oxL, z_oxR, z_scL, z_scR, ↓reduceIte, Nat.zero_add, Nat.add_zero, Nat.zero_lt_succ, true_and, and_true, eq_self, fX5_snapshotsOf_L1, z_lq12, hq, h01]
    · simp (disch := first | omega | assumption) only [l_0, l_1, l_2, l_3, l_4, l_5, l_6, l_7, l_8, l_11, l_12, l_15, l_16, l_31, l_32, l_66, l_80, l_100, l_127, l_128, l_768, l_2304, l_2310, l_2316, l_2388, l_2394, l_2406, l_2418, l_2430, l_2558, l_2686, l_2814, l_2942, l_3070, l_3390, l_3394, l_3395, l_3396, l_3397, n_leT, n_leF, n_ltT, n_ltF, n_eqT, n_eqF, nI_add, pk_mul, n_sub, z_ldn, z_san, z_bs, z_b2s, z_b3s, z_ocN, z_ocS, z_oxL, z_oxR, z_scL, z_scR, ↓reduceIte, Nat.zero_add, Nat.add_zero, Nat.zero_lt_succ, true_and, and_true, eq_self, fX5_snapshotsOf_L1, z_lq12, hq, h01]) (fun x => by simp (disch := first | omega | assumption) only [l_0, l_1, l_2, l_3, l_4, l_5, l_6, l_7, l_8, l_11, l_12, l_15, l_16, l_31, l_32, l_66, l_80, l_100, l_127, l_128, l_768, l_2304, l_2310, l_2316, l_2388, l_2394, l_2406, l_2418, l_2430, l_2558, l_2686, l_2814, l_2942, l_3070, l_3390, l_3394, l_3395, l_3396, l_3397, n_leT, n_leF, n_ltT, n_ltF, n_eqT, n_eqF, nI_add, pk_mul, n_sub, z_ldn, z_san, z_bs, z_b2s, z_b3s, z_ocN, z_ocS, z_oxL, z_oxR, z_scL, z_scR, ↓reduceIte, Nat.zero_add, Nat.add_zero, Nat.zero_lt_succ, true_and, and_true, eq_self, fX5_snapshotsOf_L1]), z_own_cnt hI hd]
  rfl
/-! ===== the calls that change nothing: blocks ===== -/
/-- how often block b stands in the 128 places from k on -/
def z_in1 (S : Nat → Nat) (k b : Nat) : Nat := cntN (fun p => S (k + p)) (b + 1) 128
theorem z_in1_le {S : Nat → Nat} {k b : Nat} : z_in1 S k b ≤ 128 := cntN_le
theorem cn1 {T : Nat → Nat} {x i : Nat} (h : ¬ T i = x) : cntN T x (i + 1) = cntN T x i := by
  show cntN T x i + (if T i = x then 1 else 0) = _
  rw [if_neg h]
  rfl
theorem cn2 {T : Nat → Nat} {x i : Nat} (h : T i = x) : cntN T x (i + 1) = cntN T x i + 1 := by
  show cntN T x i + (if T i = x then 1 else 0) = _
  rw [if_pos h]
/-- the class: the uses of each block in a table -/
theorem cCu {M : zM} {S : Nat → Nat} {T k : Nat} (hT : ∀ p, p < 128 → M (T + 1) p = nI (S (k + p)) - nI 1) (hx : ∀ p, p < 128 → S (k + p) ≤ 128) (hT1 : T + 1 ≠ 168) : ∃ M', fX6_countUses 0 T M = some M' ∧ (∀ a, a ≠ 168 → M' a = M a) ∧ ∀ b, b < 128 → M' 168 b = nI (z_in1 S k b) := by
  unfold fX6_countUses
  have hq := z_loopM (f := fun s : Int32 × zM => fX6_countUses_L1 0 T s.1 s.2) (fun i M' => (∀ a, a ≠ 168 → M' a = M a) ∧ ∀ b, b < 128 → M' 168 b = nI (cntN (fun p => S (k + p)) (b + 1) i)) (fun M' => (∀ a, a ≠ 168 → M' a = M a) ∧ ∀ b, b < 128 → M' 168 b = nI (z_in1 S k b)) 0 128 (by decide) (s := 0) (M := z_fill M (0 + 168) 0) rfl ⟨fun a ha => by unfold z_fill; exact if_neg ha, fun b _ => by unfold z_fill; rw [if_pos rfl]; rfl⟩ (fun i M' hi hI => by
    obtain ⟨hc, hb⟩ := hI
    have hp := hT i hi
    rw [← hc _ hT1] at hp
    have hx1 := hx i hi
    by_cases q : S (k + i) = 0
    · refine ⟨M', ?_, hc, fun b hb2 => ?_⟩
      · simp (disch := first | omega | assumption) only [l_0, l_1, l_2, l_3, l_4, l_5, l_6, l_7, l_8, l_11, l_12, l_15, l_16, l_31, l_32, l_66, l_80, l_100, l_127, l_128, l_768, l_2304, l_2310, l_2316, l_2388, l_2394, l_2406, l_2418, l_2430, l_2558, l_2686, l_2814, l_2942, l_3070, l_3390, l_3394, l_3395, l_3396, l_3397, n_leT, n_leF, n_ltT, n_ltF, n_eqT, n_eqF, nI_add, pk_mul, n_sub, z_ldn, z_san, z_bs, z_b2s, z_b3s, z_ocN, z_ocS, z_oxL, z_oxR, z_scL, z_scR, ↓reduceIte, Nat.zero_add, Nat.add_zero, Nat.zero_lt_succ, true_and, and_true, eq_self, fX6_countUses_L1, cBo, hp, q, n_m0a]
      · rw [hb b hb2]
        rw [cn1 (by omega)]
    · have hb1 := hb (S (k + i) - 1) (by omega)
      refine ⟨z_st M' 168 (S (k + i) - 1) (nI (cntN (fun p => S (k + p)) (S (k + i) - 1 + 1) i + 1)), ?_, fun a ha => by rw [s_n ha]; exact hc a ha, fun b hb2 => ?_⟩
      · simp (disch := first | omega | assumption) only [l_0, l_1, l_2, l_3, l_4, l_5, l_6, l_7, l_8, l_11, l_12, l_15, l_16, l_31, l_32, l_66, l_80, l_100, l_127, l_128, l_768, l_2304, l_2310, l_2316, l_2388, l_2394, l_2406, l_2418, l_2430, l_2558, l_2686, l_2814, l_2942, l_3070, l_3390, l_3394, l_3395, l_3396, l_3397, n_leT, n_leF, n_ltT, n_ltF, n_eqT, n_eqF, nI_add, pk_mul, n_sub, z_ldn, z_san, z_bs, z_b2s, z_b3s, z_ocN, z_ocS, z_oxL, z_oxR, z_scL, z_scR, ↓reduceIte, Nat.zero_add, Nat.add_zero, Nat.zero_lt_succ, true_and, and_true, eq_self, fX6_countUses_L1, cBo, hp, hb1]
      · rw [s_s]
        by_cases q2 : S (k + i) = b + 1
        · rw [cn2 (T := fun p => S (k + p)) q2, show b = S (k + i) - 1 by omega, u_s]
        · rw [cn1 (T := fun p => S (k + p)) q2, u_n (by omega), hb b hb2]) (fun M' hI => ⟨M', by simp (disch := first | omega | assumption) only [l_0, l_1, l_2, l_3, l_4, l_5, l_6, l_7, l_8, l_11, l_12, l_15, l_16, l_31, l_32, l_66, l_80, l_100, l_127, l_128, l_768, l_2304, l_2310, l_2316, l_2388, l_2394, l_2406, l_2418, l_2430, l_2558, l_2686, l_2814, l_2942, l_3070, l_3390, l_3394, l_3395, l_3396, l_3397, n_leT, n_leF, n_ltT, n_ltF, n_eqT, n_eqF, nI_add, pk_mul, n_sub, z_ldn, z_san, z_bs, z_b2s, z_b3s, z_ocN, z_ocS, z_oxL, z_oxR, z_scL, z_scR, ↓reduceIte, Nat.zero_add, Nat.add_zero, Nat.zero_lt_succ, true_and, and_true, eq_self, fX6_countUses_L1], hI⟩)
  obtain ⟨M', h1, h2⟩ := hq
  refine ⟨M', ?_, h2⟩
  rw [z_bs, h1, z_bs]
theorem I_r2304 {n : Nat} {S : Nat → Nat} (hI : z_I n S) : ∀ b, b < 128 → S (2814 + b) ≤ 2304 := fun b hb => by
  rw [I_ref hI b hb]
  exact cntN_le
/-- the class: a table's own blocks -/
theorem cOw {M : zM} {S : Nat → Nat} {T k : Nat} (hT : ∀ p, p < 128 → M (T + 1) p = nI (S (k + p)) - nI 1) (hx : ∀ p, p < 128 → S (k + p) ≤ 128) (hT1 : T + 1 ≠ 168) (hF : ∀ b, b < 128 → M (1 + 3 + 4) b = nI (S (2814 + b))) (hr : ∀ b, b < 128 → S (2814 + b) ≤ 2304) : ∃ M', fX6_countOwn 0 T M = some (nI (sumN (fun b => if z_in1 S k b = 0 then 0 else if z_in1 S k b = S (2814 + b) then 1 else 0) 128), M') ∧ ∀ a, a ≠ 168 → M' a = M a := by
  obtain ⟨M2, e1, e2, e3⟩ := cCu hT hx hT1
  refine ⟨M2, ?_, e2⟩
  unfold fX6_countOwn
  rw [e1, z_bs]
  have hF2 : ∀ b, b < 128 → M2 (1 + 3 + 4) b = nI (S (2814 + b)) := fun b hb => by rw [e2 _ (by decide)]; exact hF b hb
  rw [z_loopS (f := fun s : Int32 × Int32 => fX6_countOwn_L1 0 M2 s.1 s.2) (fun b => if z_in1 S k b = 0 then 0 else if z_in1 S k b = S (2814 + b) then 1 else 0) 0 128 (by decide) (s := (0, 0)) rfl (fun b x hb => by
    have hz := z_in1_le (S := S) (k := k) (b := b)
    have hr2 := hr b hb
    by_cases q : z_in1 S k b = 0
    · simp (disch := first | omega | assumption) only [l_0, l_1, l_2, l_3, l_4, l_5, l_6, l_7, l_8, l_11, l_12, l_15, l_16, l_31, l_32, l_66, l_80, l_100, l_127, l_128, l_768, l_2304, l_2310, l_2316, l_2388, l_2394, l_2406, l_2418, l_2430, l_2558, l_2686, l_2814, l_2942, l_3070, l_3390, l_3394, l_3395, l_3396, l_3397, n_leT, n_leF, n_ltT, n_ltF, n_eqT, n_eqF, nI_add, pk_mul, n_sub, z_ldn, z_san, z_bs, z_b2s, z_b3s, z_ocN, z_ocS, z_oxL, z_oxR, z_scL, z_scR, ↓reduceIte, Nat.zero_add, Nat.add_zero, Nat.zero_lt_succ, true_and, and_true, eq_self, fX6_countOwn_L1, e3, q]
    · by_cases q3 : z_in1 S k b = S (2814 + b)
      · have q4 : S (2814 + b) ≠ 0 := by omega
        simp (disch := first | omega | assumption) only [l_0, l_1, l_2, l_3, l_4, l_5, l_6, l_7, l_8, l_11, l_12, l_15, l_16, l_31, l_32, l_66, l_80, l_100, l_127, l_128, l_768, l_2304, l_2310, l_2316, l_2388, l_2394, l_2406, l_2418, l_2430, l_2558, l_2686, l_2814, l_2942, l_3070, l_3390, l_3394, l_3395, l_3396, l_3397, n_leT, n_leF, n_ltT, n_ltF, n_eqT, n_eqF, nI_add, pk_mul, n_sub, z_ldn, z_san, z_bs, z_b2s, z_b3s, z_ocN, z_ocS, z_oxL, z_oxR, z_scL, z_scR, ↓reduceIte, Nat.zero_add, Nat.add_zero, Nat.zero_lt_succ, true_and, and_true, eq_self, fX6_countOwn_L1, fX3_usesOf, cIb, e3, hF2, q3, if_neg q4]
      · simp (disch := first | omega | assumption) only [l_0, l_1, l_2, l_3, l_4, l_5, l_6, l_7, l_8, l_11, l_12, l_15, l_16, l_31, l_32, l_66, l_80, l_100, l_127, l_128, l_768, l_2304, l_2310, l_2316, l_2388, l_2394, l_2406, l_2418, l_2430, l_2558, l_2686, l_2814, l_2942, l_3070, l_3390, l_3394, l_3395, l_3396, l_3397, n_leT, n_leF, n_ltT, n_ltF, n_eqT, n_eqF, nI_add, pk_mul, n_sub, z_ldn, z_san, z_bs, z_b2s, z_b3s, z_ocN, z_ocS, z_oxL, z_oxR, z_scL, z_scR, ↓reduceIte, Nat.zero_add, Nat.add_zero, Nat.zero_lt_succ, true_and, and_true, eq_self, fX6_countOwn_L1, fX3_usesOf, cIb, e3, hF2, if_neg q, if_neg q3]) (fun x => by simp (disch := first | omega | assumption) only [l_0, l_1, l_2, l_3, l_4, l_5, l_6, l_7, l_8, l_11, l_12, l_15, l_16, l_31, l_32, l_66, l_80, l_100, l_127, l_128, l_768, l_2304, l_2310, l_2316, l_2388, l_2394, l_2406, l_2418, l_2430, l_2558, l_2686, l_2814, l_2942, l_3070, l_3390, l_3394, l_3395, l_3396, l_3397, n_leT, n_leF, n_ltT, n_ltF, n_eqT, n_eqF, nI_add, pk_mul, n_sub, z_ldn, z_san, z_bs, z_b2s, z_b3s, z_ocN, z_ocS, z_oxL, z_oxR, z_scL, z_scR, ↓reduceIte, Nat.zero_add, Nat.add_zero, Nat.zero_lt_succ, true_and, and_true, eq_self, fX6_countOwn_L1])]
  simp (disch := first | omega | assumption) only [l_0, l_1, l_2, l_3, l_4, l_5, l_6, l_7, l_8, l_11, l_12, l_15, l_16, l_31, l_32, l_66, l_80, l_100, l_127, l_128, l_768, l_2304, l_2310, l_2316, l_2388, l_2394, l_2406, l_2418, l_2430, l_2558, l_2686, l_2814, l_2942, l_3070, l_3390, l_3394, l_3395, l_3396, l_3397, n_leT, n_leF, n_ltT, n_ltF, n_eqT, n_eqF, nI_add, pk_mul, n_sub, z_ldn, z_san, z_bs, z_b2s, z_b3s, z_ocN, z_ocS, z_oxL, z_oxR, z_scL, z_scR, ↓reduceIte, Nat.zero_add, Nat.add_zero, Nat.zero_lt_succ, true_and, and_true, eq_self]
/-! ===== the calls that change nothing: the space ===== -/
theorem cAl {sp : Nat} {M : zM} {S : Nat → Nat} (hst : ∀ b, b < 128 → M (sp + 1) b = nI (z_sta S b)) {b : Nat} (hb : b < 128) : fX3_isAllocated sp (nI b) M = some (nI (if S (2814 + b) = 0 then 0 else 1)) := by
  unfold fX3_isAllocated
  by_cases q : S (2814 + b) = 0
  · by_cases q2 : S (2686 + b) = 0
    · simp (disch := first | omega | assumption) only [l_0, l_1, l_2, l_3, l_4, l_5, l_6, l_7, l_8, l_11, l_12, l_15, l_16, l_31, l_32, l_66, l_80, l_100, l_127, l_128, l_768, l_2304, l_2310, l_2316, l_2388, l_2394, l_2406, l_2418, l_2430, l_2558, l_2686, l_2814, l_2942, l_3070, l_3390, l_3394, l_3395, l_3396, l_3397, n_leT, n_leF, n_ltT, n_ltF, n_eqT, n_eqF, nI_add, pk_mul, n_sub, z_ldn, z_san, z_bs, z_b2s, z_b3s, z_ocN, z_ocS, z_oxL, z_oxR, z_scL, z_scR, ↓reduceIte, Nat.zero_add, Nat.add_zero, Nat.zero_lt_succ, true_and, and_true, eq_self, cIb, hst, z_sta, q, q2, ne_eq, not_true_eq_false]
    · simp (disch := first | omega | assumption) only [l_0, l_1, l_2, l_3, l_4, l_5, l_6, l_7, l_8, l_11, l_12, l_15, l_16, l_31, l_32, l_66, l_80, l_100, l_127, l_128, l_768, l_2304, l_2310, l_2316, l_2388, l_2394, l_2406, l_2418, l_2430, l_2558, l_2686, l_2814, l_2942, l_3070, l_3390, l_3394, l_3395, l_3396, l_3397, n_leT, n_leF, n_ltT, n_ltF, n_eqT, n_eqF, nI_add, pk_mul, n_sub, z_ldn, z_san, z_bs, z_b2s, z_b3s, z_ocN, z_ocS, z_oxL, z_oxR, z_scL, z_scR, ↓reduceIte, Nat.zero_add, Nat.add_zero, Nat.zero_lt_succ, true_and, and_true, eq_self, cIb, hst, z_sta, q, if_pos (show ¬ S (2686 + b) = 0 from q2), ne_eq, not_true_eq_false]
  · simp (disch := first | omega | assumption) only [l_0, l_1, l_2, l_3, l_4, l_5, l_6, l_7, l_8, l_11, l_12, l_15, l_16, l_31, l_32, l_66, l_80, l_100, l_127, l_128, l_768, l_2304, l_2310, l_2316, l_2388, l_2394, l_2406, l_2418, l_2430, l_2558, l_2686, l_2814, l_2942, l_3070, l_3390, l_3394, l_3395, l_3396, l_3397, n_leT, n_leF, n_ltT, n_ltF, n_eqT, n_eqF, nI_add, pk_mul, n_sub, z_ldn, z_san, z_bs, z_b2s, z_b3s, z_ocN, z_ocS, z_oxL, z_oxR, z_scL, z_scR, ↓reduceIte, Nat.zero_add, Nat.add_zero, Nat.zero_lt_succ, true_and, and_true, eq_self, cIb, hst, z_sta, if_pos (show ¬ S (2814 + b) = 0 from q), if_neg q, ne_eq]
theorem z_sta2 {S : Nat → Nat} {b : Nat} : z_sta S b ≤ 2 := by
  unfold z_sta
  split
  · omega
  · split <;> omega
theorem cCt {sp c lo e : Nat} {M : zM} {st : Nat → Nat} (hst : ∀ b, b < 128 → M (sp + 1) b = nI (st b)) (h2 : ∀ b, b < 128 → st b ≤ 2) (hc : c ≤ 2) (he : lo + e ≤ 128) : fX3_count sp (nI c) (nI lo) (nI (lo + e)) M = some (nI (sumN (fun i => if st (lo + i) = c then 1 else 0) e)) := by
  unfold fX3_count
  rw [z_loopS (f := fun s : Int32 × Int32 => fX3_count_L1 sp (nI c) (nI (lo + e)) M s.1 s.2) (fun i => if st (lo + i) = c then 1 else 0) lo e (by omega) (s := (0, nI lo)) rfl (fun i x hi => by
    have h3 := h2 (lo + i) (by omega)
    by_cases q : st (lo + i) = c
    · simp (disch := first | omega | assumption) only [l_0, l_1, l_2, l_3, l_4, l_5, l_6, l_7, l_8, l_11, l_12, l_15, l_16, l_31, l_32, l_66, l_80, l_100, l_127, l_128, l_768, l_2304, l_2310, l_2316, l_2388, l_2394, l_2406, l_2418, l_2430, l_2558, l_2686, l_2814, l_2942, l_3070, l_3390, l_3394, l_3395, l_3396, l_3397, n_leT, n_leF, n_ltT, n_ltF, n_eqT, n_eqF, nI_add, pk_mul, n_sub, z_ldn, z_san, z_bs, z_b2s, z_b3s, z_ocN, z_ocS, z_oxL, z_oxR, z_scL, z_scR, ↓reduceIte, Nat.zero_add, Nat.add_zero, Nat.zero_lt_succ, true_and, and_true, eq_self, fX3_count_L1, cIb, hst, q]
    · simp (disch := first | omega | assumption) only [l_0, l_1, l_2, l_3, l_4, l_5, l_6, l_7, l_8, l_11, l_12, l_15, l_16, l_31, l_32, l_66, l_80, l_100, l_127, l_128, l_768, l_2304, l_2310, l_2316, l_2388, l_2394, l_2406, l_2418, l_2430, l_2558, l_2686, l_2814, l_2942, l_3070, l_3390, l_3394, l_3395, l_3396, l_3397, n_leT, n_leF, n_ltT, n_ltF, n_eqT, n_eqF, nI_add, pk_mul, n_sub, z_ldn, z_san, z_bs, z_b2s, z_b3s, z_ocN, z_ocS, z_oxL, z_oxR, z_scL, z_scR, ↓reduceIte, Nat.zero_add, Nat.add_zero, Nat.zero_lt_succ, true_and, and_true, eq_self, fX3_count_L1, cIb, hst, if_neg q]) (fun x => by simp (disch := first | omega | assumption) only [l_0, l_1, l_2, l_3, l_4, l_5, l_6, l_7, l_8, l_11, l_12, l_15, l_16, l_31, l_32, l_66, l_80, l_100, l_127, l_128, l_768, l_2304, l_2310, l_2316, l_2388, l_2394, l_2406, l_2418, l_2430, l_2558, l_2686, l_2814, l_2942, l_3070, l_3390, l_3394, l_3395, l_3396, l_3397, n_leT, n_leF, n_ltT, n_ltF, n_eqT, n_eqF, nI_add, pk_mul, n_sub, z_ldn, z_san, z_bs, z_b2s, z_b3s, z_ocN, z_ocS, z_oxL, z_oxR, z_scL, z_scR, ↓reduceIte, Nat.zero_add, Nat.add_zero, Nat.zero_lt_succ, true_and, and_true, eq_self, fX3_count_L1])]
  rfl
theorem I_st {V : Nat} {M : zM} {N : Nat → Int32} {S : Nat → Nat} (h : R_sp V M N S) : ∀ b, b < 128 → M (V + 3 + 1) b = nI (z_sta S b) := fun b hb => (h b hb).1
theorem I_p1 {n : Nat} {S : Nat → Nat} (hI : z_I n S) : ∀ b, b < 128 → S (2686 + b) ≤ 1 := fun b hb => (I_pen hI b hb).1
theorem cEn_ok {M : zM} {S : Nat → Nat} (hl : ∀ r, r < 4 → S (3390 + r) ≤ 34) {r j : Nat} (hr : r < 4) (hj : j < S (3390 + r)) (hM : M (1 + 63 + 5 * r) 4 = nI (S (3390 + r))) : fX6_logWithEntryOrThrow 0 (nI r) (nI j) M = some (.inr (1 + 63 + 5 * r)) := by
  unfold fX6_logWithEntryOrThrow
  have h1 := hl r hr
  simp (disch := first | omega | assumption) only [l_0, l_1, l_2, l_3, l_4, l_5, l_6, l_7, l_8, l_11, l_12, l_15, l_16, l_31, l_32, l_66, l_80, l_100, l_127, l_128, l_768, l_2304, l_2310, l_2316, l_2388, l_2394, l_2406, l_2418, l_2430, l_2558, l_2686, l_2814, l_2942, l_3070, l_3390, l_3394, l_3395, l_3396, l_3397, n_leT, n_leF, n_ltT, n_ltF, n_eqT, n_eqF, nI_add, pk_mul, n_sub, z_ldn, z_san, z_bs, z_b2s, z_b3s, z_ocN, z_ocS, z_oxL, z_oxR, z_scL, z_scR, ↓reduceIte, Nat.zero_add, Nat.add_zero, Nat.zero_lt_succ, true_and, and_true, eq_self, cLo_ok hr, z_gdp (kd1_lg hr), hM]
theorem cEn_no {M : zM} {S : Nat → Nat} (hl : ∀ r, r < 4 → S (3390 + r) ≤ 34) (hM : ∀ r, r < 4 → M (1 + 63 + 5 * r) 4 = nI (S (3390 + r))) {a c : Int32} (h : ¬ z_is a 4 ∨ ∃ r, r < 4 ∧ a = nI r ∧ ¬ z_is c (S (3390 + r))) : fX6_logWithEntryOrThrow 0 a c M = some (.inl "java/lang/IndexOutOfBoundsException") := by
  unfold fX6_logWithEntryOrThrow
  rcases h with h | ⟨r, hr, rfl, h⟩
  · simp (disch := first | omega | assumption) only [l_0, l_1, l_2, l_3, l_4, l_5, l_6, l_7, l_8, l_11, l_12, l_15, l_16, l_31, l_32, l_66, l_80, l_100, l_127, l_128, l_768, l_2304, l_2310, l_2316, l_2388, l_2394, l_2406, l_2418, l_2430, l_2558, l_2686, l_2814, l_2942, l_3070, l_3390, l_3394, l_3395, l_3396, l_3397, n_leT, n_leF, n_ltT, n_ltF, n_eqT, n_eqF, nI_add, pk_mul, n_sub, z_ldn, z_san, z_bs, z_b2s, z_b3s, z_ocN, z_ocS, z_oxL, z_oxR, z_scL, z_scR, ↓reduceIte, Nat.zero_add, Nat.add_zero, Nat.zero_lt_succ, true_and, and_true, eq_self, cLo_no h]
  · have h1 := hl r hr
    rcases z_not (by omega) h with q | q
    · have q' : (c < nI 0) = True := eq_true q
      simp (disch := first | omega | assumption) only [l_0, l_1, l_2, l_3, l_4, l_5, l_6, l_7, l_8, l_11, l_12, l_15, l_16, l_31, l_32, l_66, l_80, l_100, l_127, l_128, l_768, l_2304, l_2310, l_2316, l_2388, l_2394, l_2406, l_2418, l_2430, l_2558, l_2686, l_2814, l_2942, l_3070, l_3390, l_3394, l_3395, l_3396, l_3397, n_leT, n_leF, n_ltT, n_ltF, n_eqT, n_eqF, nI_add, pk_mul, n_sub, z_ldn, z_san, z_bs, z_b2s, z_b3s, z_ocN, z_ocS, z_oxL, z_oxR, z_scL, z_scR, ↓reduceIte, Nat.zero_add, Nat.add_zero, Nat.zero_lt_succ, true_and, and_true, eq_self, cLo_ok hr, z_gdp (kd1_lg hr), q']
    · have q1 : (c < nI (S (3390 + r))) = False := eq_false (Int32.not_lt.mpr q)
      have q2 : (c < nI 0) = False := eq_false (fun e => Int32.not_lt.mpr (Int32.le_trans ((nI_leI (by decide) (by omega)).mpr (Nat.zero_le _)) q) e)
      simp (disch := first | omega | assumption) only [l_0, l_1, l_2, l_3, l_4, l_5, l_6, l_7, l_8, l_11, l_12, l_15, l_16, l_31, l_32, l_66, l_80, l_100, l_127, l_128, l_768, l_2304, l_2310, l_2316, l_2388, l_2394, l_2406, l_2418, l_2430, l_2558, l_2686, l_2814, l_2942, l_3070, l_3390, l_3394, l_3395, l_3396, l_3397, n_leT, n_leF, n_ltT, n_ltF, n_eqT, n_eqF, nI_add, pk_mul, n_sub, z_ldn, z_san, z_bs, z_b2s, z_b3s, z_ocN, z_ocS, z_oxL, z_oxR, z_scL, z_scR, ↓reduceIte, Nat.zero_add, Nat.add_zero, Nat.zero_lt_succ, true_and, and_true, eq_self, cLo_ok hr, z_gdp (kd1_lg hr), q2, hM, q1]
theorem en_cases {S : Nat → Nat} (a c : Int32) : (∃ r j, r < 4 ∧ j < S (3390 + r) ∧ a = nI r ∧ c = nI j) ∨ (¬ z_is a 4 ∨ ∃ r, r < 4 ∧ a = nI r ∧ ¬ z_is c (S (3390 + r))) := by
  rcases is_cases a 4 with ⟨r, hr, rfl⟩ | h
  · rcases is_cases c (S (3390 + r)) with ⟨j, hj, rfl⟩ | h
    · exact Or.inl ⟨r, j, hr, hj, rfl, rfl⟩
    · exact Or.inr (Or.inr ⟨r, hr, rfl, h⟩)
  · exact Or.inr (Or.inl h)
theorem n_ng1 {x : Nat} (h : 1 ≤ x) (hx : x < 2 ^ 31) : (nI 0 ≤ -nI x) = False := eq_false (fun q => by
  have h1 : (-nI x).toInt = -(x : Int) := by
    rw [Int32.toInt_neg, nI_toInt hx, Int.bmod_def]
    have e : ((2 ^ 32 : Nat) : Int) = 4294967296 := rfl
    rw [e]
    split <;> omega
  rw [Int32.le_iff_toInt_le, h1, nI_toInt (by decide)] at q
  omega)
theorem n_ng2 {x : Nat} (h : 1 ≤ x) (hx : x < 2 ^ 31) : (-nI x ≤ nI 0) = True := eq_true (by
  rcases Int32.le_total (-nI x) (nI 0) with q | q
  · exact q
  · exact absurd q (n_ng1 h hx ▸ id))
theorem n_nn {x : Nat} : - -nI x = nI x := Int32.neg_neg
theorem lg_self {x : Int64} : lg_cmp x x = nI 0 := (by unfold lg_cmp; simp : lg_cmp x x = 0)
/-! ===== replay ===== -/
theorem z_sb0 {M : zM} {k n i : Nat} (h : i < n) (hn : n < 2 ^ 31) : z_sb M k n (nI i) (nI 0) = some (z_st M k i (nI 0)) := z_sbn h hn (Or.inl rfl)
theorem z_sb1 {M : zM} {k n i : Nat} (h : i < n) (hn : n < 2 ^ 31) : z_sb M k n (nI i) (nI 1) = some (z_st M k i (nI 1)) := z_sbn h hn (Or.inr rfl)
/-- what the first j entries leave marked: F lists first block, blocks, mark -/
def repN (F : Nat → Nat × Nat × Nat) : Nat → Nat → Nat
  | 0, _ => 0
  | j + 1, p => if (F j).1 ≤ p ∧ p < (F j).1 + (F j).2.1 then (F j).2.2 else repN F j p
theorem repN_1 {F : Nat → Nat × Nat × Nat} (hF : ∀ j, (F j).2.2 ≤ 1) : ∀ {j p : Nat}, repN F j p ≤ 1
  | 0, _ => Nat.zero_le _
  | j + 1, p => by
    have h1 := hF j
    have h2 := repN_1 hF (j := j) (p := p)
    show (if (F j).1 ≤ p ∧ p < (F j).1 + (F j).2.1 then (F j).2.2 else repN F j p) ≤ 1
    split <;> omega
/-- the class: one entry -/
theorem cRe1 {X j f l m r : Nat} {M : zM} (hj : j < 66) (hl : f + l ≤ 32) (hm : m ≤ 1) (hr : r < 4) (e0 : M X 0 = nI (32 * r)) (e1 : M (X + 1) j = nI (32 * r + f)) (e2 : M (X + 2) j = nI l) (e3 : M (X + 3) j = nI m) : ∃ M', fX1_replayEntry X (nI j) M = some M' ∧ (∀ a, a ≠ X + 4 → M' a = M a) ∧ ∀ p, M' (X + 4) p = if f ≤ p ∧ p < f + l then nI m else M (X + 4) p := by
  unfold fX1_replayEntry fX1_firstOf fX1_blocksOf
  have hf : 32 * r + f - 32 * r = f := by omega
  have hm2 : m = 0 ∨ m = 1 := by omega
  obtain ⟨M', g1, g2, g3⟩ := z_loopR (f := fun s : Int32 × zM => fX1_replayEntry_L1 X (nI j) M (nI (32 * r + f)) (nI l) s.1 s.2) (X + 4) f f l (fun _ => nI m) (by omega) (s := nI f) (M := M) rfl (fun i M' hi hc _ => by
    have e3' : M' (X + 3) j = nI m := by rw [hc _ (by omega)]; exact e3
    rcases hm2 with rfl | rfl
    · simp (disch := first | omega | assumption) only [l_0, l_1, l_2, l_3, l_4, l_5, l_6, l_7, l_8, l_11, l_12, l_15, l_16, l_31, l_32, l_66, l_80, l_100, l_127, l_128, l_768, l_2304, l_2310, l_2316, l_2388, l_2394, l_2406, l_2418, l_2430, l_2558, l_2686, l_2814, l_2942, l_3070, l_3390, l_3394, l_3395, l_3396, l_3397, n_leT, n_leF, n_ltT, n_ltF, n_eqT, n_eqF, nI_add, pk_mul, n_sub, z_ldn, z_san, z_bs, z_b2s, z_b3s, z_ocN, z_ocS, z_oxL, z_oxR, z_scL, z_scR, ↓reduceIte, Nat.zero_add, Nat.add_zero, Nat.zero_lt_succ, true_and, and_true, eq_self, fX1_replayEntry_L1, fX1_isAllocation, fX1_isEntry, e0, hf, e3', z_sb0]
    · simp (disch := first | omega | assumption) only [l_0, l_1, l_2, l_3, l_4, l_5, l_6, l_7, l_8, l_11, l_12, l_15, l_16, l_31, l_32, l_66, l_80, l_100, l_127, l_128, l_768, l_2304, l_2310, l_2316, l_2388, l_2394, l_2406, l_2418, l_2430, l_2558, l_2686, l_2814, l_2942, l_3070, l_3390, l_3394, l_3395, l_3396, l_3397, n_leT, n_leF, n_ltT, n_ltF, n_eqT, n_eqF, nI_add, pk_mul, n_sub, z_ldn, z_san, z_bs, z_b2s, z_b3s, z_ocN, z_ocS, z_oxL, z_oxR, z_scL, z_scR, ↓reduceIte, Nat.zero_add, Nat.add_zero, Nat.zero_lt_succ, true_and, and_true, eq_self, fX1_replayEntry_L1, fX1_isAllocation, fX1_isEntry, e0, hf, e3', z_sb1]) (fun M' => by simp (disch := first | omega | assumption) only [l_0, l_1, l_2, l_3, l_4, l_5, l_6, l_7, l_8, l_11, l_12, l_15, l_16, l_31, l_32, l_66, l_80, l_100, l_127, l_128, l_768, l_2304, l_2310, l_2316, l_2388, l_2394, l_2406, l_2418, l_2430, l_2558, l_2686, l_2814, l_2942, l_3070, l_3390, l_3394, l_3395, l_3396, l_3397, n_leT, n_leF, n_ltT, n_ltF, n_eqT, n_eqF, nI_add, pk_mul, n_sub, z_ldn, z_san, z_bs, z_b2s, z_b3s, z_ocN, z_ocS, z_oxL, z_oxR, z_scL, z_scR, ↓reduceIte, Nat.zero_add, Nat.add_zero, Nat.zero_lt_succ, true_and, and_true, eq_self, fX1_replayEntry_L1, e0, hf])
  refine ⟨M', ?_, g2, g3⟩
  simp (disch := first | omega | assumption) only [l_0, l_1, l_2, l_3, l_4, l_5, l_6, l_7, l_8, l_11, l_12, l_15, l_16, l_31, l_32, l_66, l_80, l_100, l_127, l_128, l_768, l_2304, l_2310, l_2316, l_2388, l_2394, l_2406, l_2418, l_2430, l_2558, l_2686, l_2814, l_2942, l_3070, l_3390, l_3394, l_3395, l_3396, l_3397, n_leT, n_leF, n_ltT, n_ltF, n_eqT, n_eqF, nI_add, pk_mul, n_sub, z_ldn, z_san, z_bs, z_b2s, z_b3s, z_ocN, z_ocS, z_oxL, z_oxR, z_scL, z_scR, ↓reduceIte, Nat.zero_add, Nat.add_zero, Nat.zero_lt_succ, true_and, and_true, eq_self, fX1_isEntry, e1, e2, e0, hf, g1]
theorem cRp {X k r : Nat} {M : zM} {F : Nat → Nat × Nat × Nat} (hk : k ≤ 66) (hr : r < 4) (hm : ∀ j, (F j).2.2 ≤ 1) (hF : ∀ j, j < k → (F j).1 + (F j).2.1 ≤ 32 ∧ M (X + 1) j = nI (32 * r + (F j).1) ∧ M (X + 2) j = nI (F j).2.1 ∧ M (X + 3) j = nI (F j).2.2) (e0 : M X 0 = nI (32 * r)) (e4 : M X 4 = nI k) : ∃ M', fX1_countReplayed X M = some (nI (sumN (repN F k) 32), M') ∧ ∀ a, a ≠ X + 4 → M' a = M a := by
  unfold fX1_countReplayed
  obtain ⟨M1, g1, g2, g3⟩ := z_loopR (f := fun s : Int32 × zM => fX1_countReplayed_L1 X s.1 s.2) (X + 4) 0 0 32 (fun _ => nI 0) (by decide) (s := 0) (M := M) rfl (fun i M' hi _ _ => by simp (disch := first | omega | assumption) only [l_0, l_1, l_2, l_3, l_4, l_5, l_6, l_7, l_8, l_11, l_12, l_15, l_16, l_31, l_32, l_66, l_80, l_100, l_127, l_128, l_768, l_2304, l_2310, l_2316, l_2388, l_2394, l_2406, l_2418, l_2430, l_2558, l_2686, l_2814, l_2942, l_3070, l_3390, l_3394, l_3395, l_3396, l_3397, n_leT, n_leF, n_ltT, n_ltF, n_eqT, n_eqF, nI_add, pk_mul, n_sub, z_ldn, z_san, z_bs, z_b2s, z_b3s, z_ocN, z_ocS, z_oxL, z_oxR, z_scL, z_scR, ↓reduceIte, Nat.zero_add, Nat.add_zero, Nat.zero_lt_succ, true_and, and_true, eq_self, fX1_countReplayed_L1, z_sb0]) (fun M' => by simp (disch := first | omega | assumption) only [l_0, l_1, l_2, l_3, l_4, l_5, l_6, l_7, l_8, l_11, l_12, l_15, l_16, l_31, l_32, l_66, l_80, l_100, l_127, l_128, l_768, l_2304, l_2310, l_2316, l_2388, l_2394, l_2406, l_2418, l_2430, l_2558, l_2686, l_2814, l_2942, l_3070, l_3390, l_3394, l_3395, l_3396, l_3397, n_leT, n_leF, n_ltT, n_ltF, n_eqT, n_eqF, nI_add, pk_mul, n_sub, z_ldn, z_san, z_bs, z_b2s, z_b3s, z_ocN, z_ocS, z_oxL, z_oxR, z_scL, z_scR, ↓reduceIte, Nat.zero_add, Nat.add_zero, Nat.zero_lt_succ, true_and, and_true, eq_self, fX1_countReplayed_L1])
  obtain ⟨M2, h1, h2, h3⟩ := z_loopM (f := fun s : Int32 × zM => fX1_countReplayed_L2 X s.1 s.2) (fun j M' => (∀ a, a ≠ X + 4 → M' a = M a) ∧ ∀ p, p < 32 → M' (X + 4) p = nI (repN F j p)) (fun M' => (∀ a, a ≠ X + 4 → M' a = M a) ∧ ∀ p, p < 32 → M' (X + 4) p = nI (repN F k p)) 0 k (by omega) (s := 0) (M := M1) rfl ⟨g2, fun p hp => by rw [g3 p, if_pos ⟨Nat.zero_le p, by omega⟩]; rfl⟩ (fun j M' hj hI => by
    obtain ⟨hc, hp⟩ := hI
    obtain ⟨f1, f2, f3, f4⟩ := hF j hj
    obtain ⟨M3, q1, q2, q3⟩ := cRe1 (X := X) (M := M') (show j < 66 by omega) f1 (hm j) hr (by rw [hc _ (by omega)]; exact e0) (by rw [hc _ (by omega)]; exact f2) (by rw [hc _ (by omega)]; exact f3) (by rw [hc _ (by omega)]; exact f4)
    have e4' : M' X 4 = nI k := by rw [hc _ (by omega)]; exact e4
    refine ⟨M3, by simp (disch := first | omega | assumption) only [l_0, l_1, l_2, l_3, l_4, l_5, l_6, l_7, l_8, l_11, l_12, l_15, l_16, l_31, l_32, l_66, l_80, l_100, l_127, l_128, l_768, l_2304, l_2310, l_2316, l_2388, l_2394, l_2406, l_2418, l_2430, l_2558, l_2686, l_2814, l_2942, l_3070, l_3390, l_3394, l_3395, l_3396, l_3397, n_leT, n_leF, n_ltT, n_ltF, n_eqT, n_eqF, nI_add, pk_mul, n_sub, z_ldn, z_san, z_bs, z_b2s, z_b3s, z_ocN, z_ocS, z_oxL, z_oxR, z_scL, z_scR, ↓reduceIte, Nat.zero_add, Nat.add_zero, Nat.zero_lt_succ, true_and, and_true, eq_self, fX1_countReplayed_L2, e4', q1], fun a ha => (q2 a ha).trans (hc a ha), fun p hp2 => ?_⟩
    rw [q3 p, hp p hp2]
    show _ = nI (if (F j).1 ≤ p ∧ p < (F j).1 + (F j).2.1 then (F j).2.2 else repN F j p)
    split <;> rfl) (fun M' hI => by
    have e4' : M' X 4 = nI k := by rw [hI.1 _ (by omega)]; exact e4
    exact ⟨M', by simp (disch := first | omega | assumption) only [l_0, l_1, l_2, l_3, l_4, l_5, l_6, l_7, l_8, l_11, l_12, l_15, l_16, l_31, l_32, l_66, l_80, l_100, l_127, l_128, l_768, l_2304, l_2310, l_2316, l_2388, l_2394, l_2406, l_2418, l_2430, l_2558, l_2686, l_2814, l_2942, l_3070, l_3390, l_3394, l_3395, l_3396, l_3397, n_leT, n_leF, n_ltT, n_ltF, n_eqT, n_eqF, nI_add, pk_mul, n_sub, z_ldn, z_san, z_bs, z_b2s, z_b3s, z_ocN, z_ocS, z_oxL, z_oxR, z_scL, z_scR, ↓reduceIte, Nat.zero_add, Nat.add_zero, Nat.zero_lt_succ, true_and, and_true, eq_self, fX1_countReplayed_L2, e4'], hI⟩)
  refine ⟨M2, ?_, h2⟩
  rw [g1, z_bs, h1, z_bs]
  rw [z_loopS (f := fun s : Int32 × Int32 => fX1_countReplayed_L3 X M2 s.1 s.2) (repN F k) 0 32 (by decide) (s := (0, 0)) rfl (fun p x hp => by
    have q0 := h3 p hp
    have q1 := repN_1 hm (j := k) (p := p)
    have q2 : repN F k p = 0 ∨ repN F k p = 1 := by omega
    rcases q2 with q2 | q2
    · simp (disch := first | omega | assumption) only [l_0, l_1, l_2, l_3, l_4, l_5, l_6, l_7, l_8, l_11, l_12, l_15, l_16, l_31, l_32, l_66, l_80, l_100, l_127, l_128, l_768, l_2304, l_2310, l_2316, l_2388, l_2394, l_2406, l_2418, l_2430, l_2558, l_2686, l_2814, l_2942, l_3070, l_3390, l_3394, l_3395, l_3396, l_3397, n_leT, n_leF, n_ltT, n_ltF, n_eqT, n_eqF, nI_add, pk_mul, n_sub, z_ldn, z_san, z_bs, z_b2s, z_b3s, z_ocN, z_ocS, z_oxL, z_oxR, z_scL, z_scR, ↓reduceIte, Nat.zero_add, Nat.add_zero, Nat.zero_lt_succ, true_and, and_true, eq_self, fX1_countReplayed_L3, q0, q2]
    · simp (disch := first | omega | assumption) only [l_0, l_1, l_2, l_3, l_4, l_5, l_6, l_7, l_8, l_11, l_12, l_15, l_16, l_31, l_32, l_66, l_80, l_100, l_127, l_128, l_768, l_2304, l_2310, l_2316, l_2388, l_2394, l_2406, l_2418, l_2430, l_2558, l_2686, l_2814, l_2942, l_3070, l_3390, l_3394, l_3395, l_3396, l_3397, n_leT, n_leF, n_ltT, n_ltF, n_eqT, n_eqF, nI_add, pk_mul, n_sub, z_ldn, z_san, z_bs, z_b2s, z_b3s, z_ocN, z_ocS, z_oxL, z_oxR, z_scL, z_scR, ↓reduceIte, Nat.zero_add, Nat.add_zero, Nat.zero_lt_succ, true_and, and_true, eq_self, fX1_countReplayed_L3, q0, q2]) (fun x => by simp (disch := first | omega | assumption) only [l_0, l_1, l_2, l_3, l_4, l_5, l_6, l_7, l_8, l_11, l_12, l_15, l_16, l_31, l_32, l_66, l_80, l_100, l_127, l_128, l_768, l_2304, l_2310, l_2316, l_2388, l_2394, l_2406, l_2418, l_2430, l_2558, l_2686, l_2814, l_2942, l_3070, l_3390, l_3394, l_3395, l_3396, l_3397, n_leT, n_leF, n_ltT, n_ltF, n_eqT, n_eqF, nI_add, pk_mul, n_sub, z_ldn, z_san, z_bs, z_b2s, z_b3s, z_ocN, z_ocS, z_oxL, z_oxR, z_scL, z_scR, ↓reduceIte, Nat.zero_add, Nat.add_zero, Nat.zero_lt_succ, true_and, and_true, eq_self, fX1_countReplayed_L3])]
  simp (disch := first | omega | assumption) only [l_0, l_1, l_2, l_3, l_4, l_5, l_6, l_7, l_8, l_11, l_12, l_15, l_16, l_31, l_32, l_66, l_80, l_100, l_127, l_128, l_768, l_2304, l_2310, l_2316, l_2388, l_2394, l_2406, l_2418, l_2430, l_2558, l_2686, l_2814, l_2942, l_3070, l_3390, l_3394, l_3395, l_3396, l_3397, n_leT, n_leF, n_ltT, n_ltF, n_eqT, n_eqF, nI_add, pk_mul, n_sub, z_ldn, z_san, z_bs, z_b2s, z_b3s, z_ocN, z_ocS, z_oxL, z_oxR, z_scL, z_scR, ↓reduceIte, Nat.zero_add, Nat.add_zero, Nat.zero_lt_succ, true_and, and_true, eq_self]
/-! ===== the class: tables and the counts of uses ===== -/
/-- the tables are T, and the counts of uses are T's -/
def z_T (V : Nat) (M : zM) (T : Nat → Nat) : Prop := (∀ t, t < 18 → ∀ p, p < 128 → M (V + 9 + 3 * t + 1 + 1) p = nI (T (128 * t + p)) - nI 1) ∧ (∀ b, b < 128 → M (V + 3 + 4) b = nI (cntN T (b + 1) 2304)) ∧ ∀ k, k < 2304 → T k ≤ 128
theorem z_T_T {V : Nat} {M : zM} {T T' : Nat → Nat} (h : z_T V M T) (hc : ∀ k, k < 2304 → T' k = T k) : z_T V M T' := ⟨fun t ht p hp => by rw [hc _ (by omega)]; exact h.1 t ht p hp, fun b hb => by rw [cntN_cg (T := T') (T' := T) hc]; exact h.2.1 b hb, fun k hk => by rw [hc k hk]; exact h.2.2 k hk⟩
theorem z_T_cg {V : Nat} {M M' : zM} {T : Nat → Nat} (h : z_T V M T) (h1 : M' (V + 3 + 4) = M (V + 3 + 4)) (h2 : ∀ t, t < 18 → M' (V + 9 + 3 * t + 1 + 1) = M (V + 9 + 3 * t + 1 + 1)) : z_T V M' T := ⟨fun t ht p hp => by rw [h2 t ht]; exact h.1 t ht p hp, fun b hb => by rw [h1]; exact h.2.1 b hb, h.2.2⟩
theorem cRm {V y : Nat} {M : zM} (hy : y ≤ 128) : ∃ M', fX3_removeUse (V + 3) (nI y - nI 1) M = some M' ∧ (∀ a, a ≠ V + 3 + 4 → M' a = M a) ∧ ∀ b, b < 128 → M' (V + 3 + 4) b = if b + 1 = y then M (V + 3 + 4) b - nI 1 else M (V + 3 + 4) b := by
  unfold fX3_removeUse
  by_cases q : y = 0
  · subst q
    exact ⟨M, by simp (disch := first | omega | assumption) only [l_0, l_1, l_2, l_3, l_4, l_5, l_6, l_7, l_8, l_11, l_12, l_15, l_16, l_31, l_32, l_66, l_80, l_100, l_127, l_128, l_768, l_2304, l_2310, l_2316, l_2388, l_2394, l_2406, l_2418, l_2430, l_2558, l_2686, l_2814, l_2942, l_3070, l_3390, l_3394, l_3395, l_3396, l_3397, n_leT, n_leF, n_ltT, n_ltF, n_eqT, n_eqF, nI_add, pk_mul, n_sub, z_ldn, z_san, z_bs, z_b2s, z_b3s, z_ocN, z_ocS, z_oxL, z_oxR, z_scL, z_scR, ↓reduceIte, Nat.zero_add, Nat.add_zero, Nat.zero_lt_succ, true_and, and_true, eq_self, cIb0], fun _ _ => rfl, fun b _ => by rw [if_neg (by omega)]⟩
  · refine ⟨z_st M (V + 3 + 4) (y - 1) (M (V + 3 + 4) (y - 1) - nI 1), by simp (disch := first | omega | assumption) only [l_0, l_1, l_2, l_3, l_4, l_5, l_6, l_7, l_8, l_11, l_12, l_15, l_16, l_31, l_32, l_66, l_80, l_100, l_127, l_128, l_768, l_2304, l_2310, l_2316, l_2388, l_2394, l_2406, l_2418, l_2430, l_2558, l_2686, l_2814, l_2942, l_3070, l_3390, l_3394, l_3395, l_3396, l_3397, n_leT, n_leF, n_ltT, n_ltF, n_eqT, n_eqF, nI_add, pk_mul, n_sub, z_ldn, z_san, z_bs, z_b2s, z_b3s, z_ocN, z_ocS, z_oxL, z_oxR, z_scL, z_scR, ↓reduceIte, Nat.zero_add, Nat.add_zero, Nat.zero_lt_succ, true_and, and_true, eq_self, cIb], fun a ha => s_n ha, fun b hb => ?_⟩
    rw [s_s]
    by_cases q2 : b + 1 = y
    · rw [if_pos q2, show b = y - 1 by omega, u_s]
    · rw [if_neg q2, u_n (by omega)]
theorem cAd {V y : Nat} {M : zM} (hy : y ≤ 128) : ∃ M', fX3_addUse (V + 3) (nI y - nI 1) M = some M' ∧ (∀ a, a ≠ V + 3 + 4 → M' a = M a) ∧ ∀ b, b < 128 → M' (V + 3 + 4) b = if b + 1 = y then M (V + 3 + 4) b + nI 1 else M (V + 3 + 4) b := by
  unfold fX3_addUse
  by_cases q : y = 0
  · subst q
    exact ⟨M, by simp (disch := first | omega | assumption) only [l_0, l_1, l_2, l_3, l_4, l_5, l_6, l_7, l_8, l_11, l_12, l_15, l_16, l_31, l_32, l_66, l_80, l_100, l_127, l_128, l_768, l_2304, l_2310, l_2316, l_2388, l_2394, l_2406, l_2418, l_2430, l_2558, l_2686, l_2814, l_2942, l_3070, l_3390, l_3394, l_3395, l_3396, l_3397, n_leT, n_leF, n_ltT, n_ltF, n_eqT, n_eqF, nI_add, pk_mul, n_sub, z_ldn, z_san, z_bs, z_b2s, z_b3s, z_ocN, z_ocS, z_oxL, z_oxR, z_scL, z_scR, ↓reduceIte, Nat.zero_add, Nat.add_zero, Nat.zero_lt_succ, true_and, and_true, eq_self, cIb0], fun _ _ => rfl, fun b _ => by rw [if_neg (by omega)]⟩
  · refine ⟨z_st M (V + 3 + 4) (y - 1) (M (V + 3 + 4) (y - 1) + nI 1), by simp (disch := first | omega | assumption) only [l_0, l_1, l_2, l_3, l_4, l_5, l_6, l_7, l_8, l_11, l_12, l_15, l_16, l_31, l_32, l_66, l_80, l_100, l_127, l_128, l_768, l_2304, l_2310, l_2316, l_2388, l_2394, l_2406, l_2418, l_2430, l_2558, l_2686, l_2814, l_2942, l_3070, l_3390, l_3394, l_3395, l_3396, l_3397, n_leT, n_leF, n_ltT, n_ltF, n_eqT, n_eqF, nI_add, pk_mul, n_sub, z_ldn, z_san, z_bs, z_b2s, z_b3s, z_ocN, z_ocS, z_oxL, z_oxR, z_scL, z_scR, ↓reduceIte, Nat.zero_add, Nat.add_zero, Nat.zero_lt_succ, true_and, and_true, eq_self, cIb], fun a ha => s_n ha, fun b hb => ?_⟩
    rw [s_s]
    by_cases q2 : b + 1 = y
    · rw [if_pos q2, show b = y - 1 by omega, u_s]
    · rw [if_neg q2, u_n (by omega)]
theorem cPut {V t p x : Nat} {M : zM} {T : Nat → Nat} (hT : z_T V M T) (ht : t < 18) (hp : p < 128) (hx : x ≤ 128) : ∃ M', fX5_put V (V + 9 + 3 * t + 1) (nI p) (nI x - nI 1) M = some M' ∧ z_T V M' (updN T (128 * t + p) x) ∧ ∀ a, a ≠ V + 3 + 4 → a ≠ V + 9 + 3 * t + 1 + 1 → M' a = M a := by
  have hy := hT.2.2 (128 * t + p) (by omega)
  obtain ⟨M1, r1, r2, r3⟩ := cRm (V := V) (M := M) hy
  obtain ⟨M2, s1, s2, s3⟩ := cAd (V := V) (M := M1) hx
  have hT1 := hT.1 t ht p hp
  have hk : 128 * t + p < 2304 := by omega
  refine ⟨z_st M2 (V + 9 + 3 * t + 1 + 1) p (nI x - nI 1), ?_, ⟨fun u hu q hq => ?_, fun b hb => ?_, fun k hk => ?_⟩, fun a h1 h2 => by rw [s_n h2, s2 a h1, r2 a h1]⟩
  · unfold fX5_put fX4_set
    simp (disch := first | omega | assumption) only [l_0, l_1, l_2, l_3, l_4, l_5, l_6, l_7, l_8, l_11, l_12, l_15, l_16, l_31, l_32, l_66, l_80, l_100, l_127, l_128, l_768, l_2304, l_2310, l_2316, l_2388, l_2394, l_2406, l_2418, l_2430, l_2558, l_2686, l_2814, l_2942, l_3070, l_3390, l_3394, l_3395, l_3396, l_3397, n_leT, n_leF, n_ltT, n_ltF, n_eqT, n_eqF, nI_add, pk_mul, n_sub, z_ldn, z_san, z_bs, z_b2s, z_b3s, z_ocN, z_ocS, z_oxL, z_oxR, z_scL, z_scR, ↓reduceIte, Nat.zero_add, Nat.add_zero, Nat.zero_lt_succ, true_and, and_true, eq_self, cBo, hT1, r1, s1]
  · by_cases h1 : u = t
    · subst h1
      rw [s_s]
      by_cases h2 : q = p
      · subst h2
        rw [u_s, show updN T (128 * u + q) x (128 * u + q) = x from if_pos rfl]
      · rw [u_n h2, s2 _ (by omega), r2 _ (by omega), hT.1 u hu q hq, show updN T (128 * u + p) x (128 * u + q) = T (128 * u + q) from if_neg (by omega)]
    · rw [s_n (by omega), s2 _ (by omega), r2 _ (by omega), hT.1 u hu q hq, show updN T (128 * t + p) x (128 * u + q) = T (128 * u + q) from if_neg (by omega)]
  · rw [s_n (by omega), s3 b hb, r3 b hb, hT.2.1 b hb]
    have e := cntN_up (T := T) (k := 128 * t + p) (x := x) (y := b + 1) hk
    by_cases h1 : T (128 * t + p) = b + 1
    · have hc : cntN T (b + 1) 2304 ≠ 0 := cntN_pos.mpr ⟨_, hk, h1⟩
      rw [if_pos h1] at e
      rw [if_pos h1.symm, n_sub (by omega)]
      by_cases h2 : x = b + 1
      · rw [if_pos h2] at e
        rw [if_pos h2.symm, nI_add]
        exact congrArg nI (by omega)
      · rw [if_neg h2] at e
        rw [if_neg (show ¬ b + 1 = x from fun q => h2 q.symm)]
        exact congrArg nI (by omega)
    · rw [if_neg h1] at e
      rw [if_neg (show ¬ b + 1 = T (128 * t + p) from fun q => h1 q.symm)]
      by_cases h2 : x = b + 1
      · rw [if_pos h2] at e
        rw [if_pos h2.symm, nI_add]
        exact congrArg nI (by omega)
      · rw [if_neg h2] at e
        rw [if_neg (show ¬ b + 1 = x from fun q => h2 q.symm)]
        exact congrArg nI (by omega)
  · unfold updN
    split
    · exact hx
    · exact hT.2.2 k hk
/-- table t as table u is -/
def z_fillT (T : Nat → Nat) (t u : Nat) : Nat → Nat := fun k => if 128 * t ≤ k ∧ k < 128 * t + 128 then T (128 * u + (k - 128 * t)) else T k
def z_clrT (T : Nat → Nat) (t : Nat) : Nat → Nat := fun k => if 128 * t ≤ k ∧ k < 128 * t + 128 then 0 else T k
theorem cFill {V t u : Nat} {M : zM} {T : Nat → Nat} (hT : z_T V M T) (ht : t < 18) (hu : u < 18) (htu : t ≠ u) : ∃ M', fX5_fill V (V + 9 + 3 * t + 1) (V + 9 + 3 * u + 1) M = some M' ∧ z_T V M' (z_fillT T t u) ∧ ∀ a, a ≠ V + 3 + 4 → a ≠ V + 9 + 3 * t + 1 + 1 → M' a = M a := by
  unfold fX5_fill
  obtain ⟨M', h1, h2⟩ := z_loopM (f := fun s : Int32 × zM => fX5_fill_L1 V (V + 9 + 3 * t + 1) (V + 9 + 3 * u + 1) s.1 s.2) (fun i M' => (∃ T', z_T V M' T' ∧ ∀ k, k < 2304 → T' k = if 128 * t ≤ k ∧ k < 128 * t + i then T (128 * u + (k - 128 * t)) else T k) ∧ ∀ a, a ≠ V + 3 + 4 → a ≠ V + 9 + 3 * t + 1 + 1 → M' a = M a) (fun M' => z_T V M' (z_fillT T t u) ∧ ∀ a, a ≠ V + 3 + 4 → a ≠ V + 9 + 3 * t + 1 + 1 → M' a = M a) 0 128 (by decide) (s := 0) (M := M) rfl ⟨⟨T, hT, fun k _ => by rw [if_neg (by omega)]⟩, fun _ _ _ => rfl⟩ (fun i M' hi hI => by
    obtain ⟨⟨T', a1, a2⟩, a3⟩ := hI
    have b1 := a1.1 u hu i hi
    have b2 : T' (128 * u + i) = T (128 * u + i) := by rw [a2 _ (by omega), if_neg (by omega)]
    rw [b2] at b1
    obtain ⟨M2, c1, c2, c3⟩ := cPut (x := T (128 * u + i)) a1 ht hi (hT.2.2 _ (by omega))
    refine ⟨M2, by simp (disch := first | omega | assumption) only [l_0, l_1, l_2, l_3, l_4, l_5, l_6, l_7, l_8, l_11, l_12, l_15, l_16, l_31, l_32, l_66, l_80, l_100, l_127, l_128, l_768, l_2304, l_2310, l_2316, l_2388, l_2394, l_2406, l_2418, l_2430, l_2558, l_2686, l_2814, l_2942, l_3070, l_3390, l_3394, l_3395, l_3396, l_3397, n_leT, n_leF, n_ltT, n_ltF, n_eqT, n_eqF, nI_add, pk_mul, n_sub, z_ldn, z_san, z_bs, z_b2s, z_b3s, z_ocN, z_ocS, z_oxL, z_oxR, z_scL, z_scR, ↓reduceIte, Nat.zero_add, Nat.add_zero, Nat.zero_lt_succ, true_and, and_true, eq_self, fX5_fill_L1, cBo, b1, c1], ⟨_, c2, fun k hk => ?_⟩, fun a q1 q2 => by rw [c3 a q1 q2, a3 a q1 q2]⟩
    unfold updN
    by_cases q : k = 128 * t + i
    · rw [if_pos q, if_pos (by omega), q, Nat.add_sub_cancel_left]
    · rw [if_neg q, a2 k hk]
      by_cases q2 : 128 * t ≤ k ∧ k < 128 * t + i
      · rw [if_pos q2, if_pos (by omega)]
      · rw [if_neg q2, if_neg (by omega)]) (fun M' hI => by
    obtain ⟨⟨T', a1, a2⟩, a3⟩ := hI
    exact ⟨M', by simp (disch := first | omega | assumption) only [l_0, l_1, l_2, l_3, l_4, l_5, l_6, l_7, l_8, l_11, l_12, l_15, l_16, l_31, l_32, l_66, l_80, l_100, l_127, l_128, l_768, l_2304, l_2310, l_2316, l_2388, l_2394, l_2406, l_2418, l_2430, l_2558, l_2686, l_2814, l_2942, l_3070, l_3390, l_3394, l_3395, l_3396, l_3397, n_leT, n_leF, n_ltT, n_ltF, n_eqT, n_eqF, nI_add, pk_mul, n_sub, z_ldn, z_san, z_bs, z_b2s, z_b3s, z_ocN, z_ocS, z_oxL, z_oxR, z_scL, z_scR, ↓reduceIte, Nat.zero_add, Nat.add_zero, Nat.zero_lt_succ, true_and, and_true, eq_self, fX5_fill_L1], z_T_T a1 (fun k hk => (a2 k hk).symm), a3⟩)
  refine ⟨M', ?_, h2⟩
  rw [h1]
  rfl
theorem cClr {V t : Nat} {M : zM} {T : Nat → Nat} (hT : z_T V M T) (ht : t < 18) : ∃ M', fX5_clear V (V + 9 + 3 * t + 1) M = some M' ∧ z_T V M' (z_clrT T t) ∧ ∀ a, a ≠ V + 3 + 4 → a ≠ V + 9 + 3 * t + 1 + 1 → M' a = M a := by
  unfold fX5_clear
  obtain ⟨M', h1, h2⟩ := z_loopM (f := fun s : Int32 × zM => fX5_clear_L1 V (V + 9 + 3 * t + 1) s.1 s.2) (fun i M' => (∃ T', z_T V M' T' ∧ ∀ k, k < 2304 → T' k = if 128 * t ≤ k ∧ k < 128 * t + i then 0 else T k) ∧ ∀ a, a ≠ V + 3 + 4 → a ≠ V + 9 + 3 * t + 1 + 1 → M' a = M a) (fun M' => z_T V M' (z_clrT T t) ∧ ∀ a, a ≠ V + 3 + 4 → a ≠ V + 9 + 3 * t + 1 + 1 → M' a = M a) 0 128 (by decide) (s := 0) (M := M) rfl ⟨⟨T, hT, fun k _ => by rw [if_neg (by omega)]⟩, fun _ _ _ => rfl⟩ (fun i M' hi hI => by
    obtain ⟨⟨T', a1, a2⟩, a3⟩ := hI
    obtain ⟨M2, c1, c2, c3⟩ := cPut (x := 0) a1 ht hi (by decide)
    refine ⟨M2, by simp (disch := first | omega | assumption) only [l_0, l_1, l_2, l_3, l_4, l_5, l_6, l_7, l_8, l_11, l_12, l_15, l_16, l_31, l_32, l_66, l_80, l_100, l_127, l_128, l_768, l_2304, l_2310, l_2316, l_2388, l_2394, l_2406, l_2418, l_2430, l_2558, l_2686, l_2814, l_2942, l_3070, l_3390, l_3394, l_3395, l_3396, l_3397, n_leT, n_leF, n_ltT, n_ltF, n_eqT, n_eqF, nI_add, pk_mul, n_sub, z_ldn, z_san, z_bs, z_b2s, z_b3s, z_ocN, z_ocS, z_oxL, z_oxR, z_scL, z_scR, ↓reduceIte, Nat.zero_add, Nat.add_zero, Nat.zero_lt_succ, true_and, and_true, eq_self, fX5_clear_L1, show -nI 1 = nI 0 - nI 1 by decide, c1], ⟨_, c2, fun k hk => ?_⟩, fun a q1 q2 => by rw [c3 a q1 q2, a3 a q1 q2]⟩
    unfold updN
    by_cases q : k = 128 * t + i
    · rw [if_pos q, if_pos (by omega)]
    · rw [if_neg q, a2 k hk]
      by_cases q2 : 128 * t ≤ k ∧ k < 128 * t + i
      · rw [if_pos q2, if_pos (by omega)]
      · rw [if_neg q2, if_neg (by omega)]) (fun M' hI => by
    obtain ⟨⟨T', a1, a2⟩, a3⟩ := hI
    exact ⟨M', by simp (disch := first | omega | assumption) only [l_0, l_1, l_2, l_3, l_4, l_5, l_6, l_7, l_8, l_11, l_12, l_15, l_16, l_31, l_32, l_66, l_80, l_100, l_127, l_128, l_768, l_2304, l_2310, l_2316, l_2388, l_2394, l_2406, l_2418, l_2430, l_2558, l_2686, l_2814, l_2942, l_3070, l_3390, l_3394, l_3395, l_3396, l_3397, n_leT, n_leF, n_ltT, n_ltF, n_eqT, n_eqF, nI_add, pk_mul, n_sub, z_ldn, z_san, z_bs, z_b2s, z_b3s, z_ocN, z_ocS, z_oxL, z_oxR, z_scL, z_scR, ↓reduceIte, Nat.zero_add, Nat.add_zero, Nat.zero_lt_succ, true_and, and_true, eq_self, fX5_clear_L1], z_T_T a1 (fun k hk => (a2 k hk).symm), a3⟩)
  refine ⟨M', ?_, h2⟩
  rw [h1]
  rfl
/-- the class: blocks that nothing uses any more -/
theorem cSet {V o : Nat} {M : zM} {st c bi : Nat → Nat} (h1 : ∀ b, b < 128 → M (V + 3 + 1) b = nI (st b) ∧ st b ≤ 2) (h2 : ∀ b, b < 128 → M (V + 3 + 4) b = nI (c b) ∧ c b ≤ 2304) (h3 : ∀ b, b < 128 → M (V + 3 + 3) b = nI (bi b) ∧ bi b < 2 ^ 30) (ho : M V 4 = nI o) (ho2 : o < 2 ^ 30) : ∃ M', fX5_settle V M = some (nI (sumN (fun b => if st b = 1 ∧ c b = 0 then 1 else 0) 128), M') ∧ (∀ a, a ≠ V + 3 + 1 → M' a = M a) ∧ ∀ b, b < 128 → M' (V + 3 + 1) b = nI (if st b = 1 ∧ c b = 0 then (if bi b = o then 0 else 2) else st b) := by
  unfold fX5_settle fX3_retireUnused
  obtain ⟨r, q1, q2⟩ := z_loopA (f := fun s : Int32 × Int32 × zM => fX3_retireUnused_L1 (V + 3) (nI o) s.1 s.2.1 s.2.2) (fun i x M' => x = nI (sumN (fun b => if st b = 1 ∧ c b = 0 then 1 else 0) i) ∧ (∀ a, a ≠ V + 3 + 1 → M' a = M a) ∧ ∀ b, b < 128 → M' (V + 3 + 1) b = nI (if b < i ∧ st b = 1 ∧ c b = 0 then (if bi b = o then 0 else 2) else st b)) (fun r => r.1 = nI (sumN (fun b => if st b = 1 ∧ c b = 0 then 1 else 0) 128) ∧ (∀ a, a ≠ V + 3 + 1 → r.2 a = M a) ∧ ∀ b, b < 128 → r.2 (V + 3 + 1) b = nI (if st b = 1 ∧ c b = 0 then (if bi b = o then 0 else 2) else st b)) 0 128 (by decide) (x := 0) (s := 0) (M := M) rfl ⟨rfl, fun _ _ => rfl, fun b hb => by rw [if_neg (by omega)]; exact (h1 b hb).1⟩ (fun i x M' hi hI => by
    obtain ⟨a1, a2, a3⟩ := hI
    obtain ⟨b1, b2⟩ := h1 i hi
    obtain ⟨c1, c2⟩ := h2 i hi
    obtain ⟨d1, d2⟩ := h3 i hi
    have e1 : M' (V + 3 + 1) i = nI (st i) := by rw [a3 i hi, if_neg (by omega)]
    have e2 : M' (V + 3 + 4) i = nI (c i) := by rw [a2 _ (by omega)]; exact c1
    have e3 : M' (V + 3 + 3) i = nI (bi i) := by rw [a2 _ (by omega)]; exact d1
    subst a1
    by_cases p1 : st i = 1 ∧ c i = 0
    · have hs : sumN (fun b => if st b = 1 ∧ c b = 0 then 1 else 0) (i + 1) = sumN (fun b => if st b = 1 ∧ c b = 0 then 1 else 0) i + 1 := by
        show _ + (if st i = 1 ∧ c i = 0 then 1 else 0) = _
        rw [if_pos p1]
      have hrow : ∀ v : Nat, v = (if bi i = o then 0 else 2) → ∀ b, b < 128 → z_st M' (V + 3 + 1) i (nI v) (V + 3 + 1) b = nI (if b < i + 1 ∧ st b = 1 ∧ c b = 0 then (if bi b = o then 0 else 2) else st b) := fun v hv b hb => by
        rw [s_s]
        by_cases q : b = i
        · subst q
          rw [u_s, if_pos ⟨Nat.lt_succ_self _, p1⟩, hv]
        · rw [u_n q, a3 b hb]
          congr 1
          by_cases q2 : b < i ∧ st b = 1 ∧ c b = 0
          · rw [if_pos q2, if_pos (show b < i + 1 ∧ st b = 1 ∧ c b = 0 from ⟨by omega, q2.2⟩)]
          · rw [if_neg q2, if_neg (show ¬ (b < i + 1 ∧ st b = 1 ∧ c b = 0) from fun q3 => q2 ⟨by omega, q3.2⟩)]
      by_cases p2 : bi i = o
      · refine ⟨_, z_st M' (V + 3 + 1) i (nI 0), ?_, congrArg nI hs.symm, fun a ha => by rw [s_n ha]; exact a2 a ha, hrow 0 (by rw [if_pos p2])⟩
        simp (disch := first | omega | assumption) only [l_0, l_1, l_2, l_3, l_4, l_5, l_6, l_7, l_8, l_11, l_12, l_15, l_16, l_31, l_32, l_66, l_80, l_100, l_127, l_128, l_768, l_2304, l_2310, l_2316, l_2388, l_2394, l_2406, l_2418, l_2430, l_2558, l_2686, l_2814, l_2942, l_3070, l_3390, l_3394, l_3395, l_3396, l_3397, n_leT, n_leF, n_ltT, n_ltF, n_eqT, n_eqF, nI_add, pk_mul, n_sub, z_ldn, z_san, z_bs, z_b2s, z_b3s, z_ocN, z_ocS, z_oxL, z_oxR, z_scL, z_scR, ↓reduceIte, Nat.zero_add, Nat.add_zero, Nat.zero_lt_succ, true_and, and_true, eq_self, fX3_retireUnused_L1, e1, e2, e3, p1.1, p1.2, p2]
      · refine ⟨_, z_st M' (V + 3 + 1) i (nI 2), ?_, congrArg nI hs.symm, fun a ha => by rw [s_n ha]; exact a2 a ha, hrow 2 (by rw [if_neg p2])⟩
        simp (disch := first | omega | assumption) only [l_0, l_1, l_2, l_3, l_4, l_5, l_6, l_7, l_8, l_11, l_12, l_15, l_16, l_31, l_32, l_66, l_80, l_100, l_127, l_128, l_768, l_2304, l_2310, l_2316, l_2388, l_2394, l_2406, l_2418, l_2430, l_2558, l_2686, l_2814, l_2942, l_3070, l_3390, l_3394, l_3395, l_3396, l_3397, n_leT, n_leF, n_ltT, n_ltF, n_eqT, n_eqF, nI_add, pk_mul, n_sub, z_ldn, z_san, z_bs, z_b2s, z_b3s, z_ocN, z_ocS, z_oxL, z_oxR, z_scL, z_scR, ↓reduceIte, Nat.zero_add, Nat.add_zero, Nat.zero_lt_succ, true_and, and_true, eq_self, fX3_retireUnused_L1, e1, e2, e3, p1.1, p1.2]
    · have hs : sumN (fun b => if st b = 1 ∧ c b = 0 then 1 else 0) (i + 1) = sumN (fun b => if st b = 1 ∧ c b = 0 then 1 else 0) i := by
        show _ + (if st i = 1 ∧ c i = 0 then 1 else 0) = _
        rw [if_neg p1]
        rfl
      refine ⟨_, M', ?_, congrArg nI hs.symm, a2, fun b hb => ?_⟩
      · by_cases p2 : st i = 1
        · have p3 : c i ≠ 0 := fun q => p1 ⟨p2, q⟩
          simp (disch := first | omega | assumption) only [l_0, l_1, l_2, l_3, l_4, l_5, l_6, l_7, l_8, l_11, l_12, l_15, l_16, l_31, l_32, l_66, l_80, l_100, l_127, l_128, l_768, l_2304, l_2310, l_2316, l_2388, l_2394, l_2406, l_2418, l_2430, l_2558, l_2686, l_2814, l_2942, l_3070, l_3390, l_3394, l_3395, l_3396, l_3397, n_leT, n_leF, n_ltT, n_ltF, n_eqT, n_eqF, nI_add, pk_mul, n_sub, z_ldn, z_san, z_bs, z_b2s, z_b3s, z_ocN, z_ocS, z_oxL, z_oxR, z_scL, z_scR, ↓reduceIte, Nat.zero_add, Nat.add_zero, Nat.zero_lt_succ, true_and, and_true, eq_self, fX3_retireUnused_L1, e1, e2, p2]
        · simp (disch := first | omega | assumption) only [l_0, l_1, l_2, l_3, l_4, l_5, l_6, l_7, l_8, l_11, l_12, l_15, l_16, l_31, l_32, l_66, l_80, l_100, l_127, l_128, l_768, l_2304, l_2310, l_2316, l_2388, l_2394, l_2406, l_2418, l_2430, l_2558, l_2686, l_2814, l_2942, l_3070, l_3390, l_3394, l_3395, l_3396, l_3397, n_leT, n_leF, n_ltT, n_ltF, n_eqT, n_eqF, nI_add, pk_mul, n_sub, z_ldn, z_san, z_bs, z_b2s, z_b3s, z_ocN, z_ocS, z_oxL, z_oxR, z_scL, z_scR, ↓reduceIte, Nat.zero_add, Nat.add_zero, Nat.zero_lt_succ, true_and, and_true, eq_self, fX3_retireUnused_L1, e1]
      · rw [a3 b hb]
        congr 1
        by_cases q2 : b < i ∧ st b = 1 ∧ c b = 0
        · rw [if_pos q2, if_pos (show b < i + 1 ∧ st b = 1 ∧ c b = 0 from ⟨by omega, q2.2⟩)]
        · rw [if_neg q2, if_neg (show ¬ (b < i + 1 ∧ st b = 1 ∧ c b = 0) from fun q3 => by
            rcases Nat.lt_or_ge b i with q4 | q4
            · exact q2 ⟨q4, q3.2⟩
            · have : b = i := by omega
              subst this
              exact p1 q3.2)]) (fun x M' hI => by
    obtain ⟨a1, a2, a3⟩ := hI
    refine ⟨(x, M'), by simp (disch := first | omega | assumption) only [l_0, l_1, l_2, l_3, l_4, l_5, l_6, l_7, l_8, l_11, l_12, l_15, l_16, l_31, l_32, l_66, l_80, l_100, l_127, l_128, l_768, l_2304, l_2310, l_2316, l_2388, l_2394, l_2406, l_2418, l_2430, l_2558, l_2686, l_2814, l_2942, l_3070, l_3390, l_3394, l_3395, l_3396, l_3397, n_leT, n_leF, n_ltT, n_ltF, n_eqT, n_eqF, nI_add, pk_mul, n_sub, z_ldn, z_san, z_bs, z_b2s, z_b3s, z_ocN, z_ocS, z_oxL, z_oxR, z_scL, z_scR, ↓reduceIte, Nat.zero_add, Nat.add_zero, Nat.zero_lt_succ, true_and, and_true, eq_self, fX3_retireUnused_L1], a1, a2, fun b hb => ?_⟩
    show M' (V + 3 + 1) b = _
    rw [a3 b hb]
    congr 1
    by_cases q2 : st b = 1 ∧ c b = 0
    · rw [if_pos q2, if_pos (show b < 128 ∧ st b = 1 ∧ c b = 0 from ⟨hb, q2⟩)]
    · rw [if_neg q2, if_neg (show ¬ (b < 128 ∧ st b = 1 ∧ c b = 0) from fun q3 => q2 q3.2)])
  obtain ⟨r1, r2⟩ := r
  obtain ⟨q2, q3⟩ := q2
  have q2 : r1 = _ := q2
  subst q2
  refine ⟨r2, ?_, q3⟩
  rw [ho, q1]
  rfl
/-! ===== the model's counts; both sides after a change of tables ===== -/
def lostN (S : Nat → Nat) (b : Nat) : Nat := if cntN S (b + 1) 2304 = 0 ∧ S (2814 + b) ≠ 0 then 1 else 0
/-- what the counts make of S, whose tables have changed -/
def y_mk (S : Nat → Nat) : Nat → Nat := fun k => if 2686 ≤ k ∧ k < 2814 then (if lostN S (k - 2686) = 1 then (if S (k - 128) = S 3395 then 0 else 1) else S k) else if 2814 ≤ k ∧ k < 2942 then cntN S (k - 2814 + 1) 2304 else S k
theorem y_mk_pen {S : Nat → Nat} {b : Nat} (hb : b < 128) : y_mk S (2686 + b) = if lostN S b = 1 then (if S (2558 + b) = S 3395 then 0 else 1) else S (2686 + b) := by
  unfold y_mk
  rw [if_pos ⟨by omega, by omega⟩, Nat.add_sub_cancel_left, show 2686 + b - 128 = 2558 + b by omega]
theorem y_mk_ref {S : Nat → Nat} {b : Nat} (hb : b < 128) : y_mk S (2814 + b) = cntN S (b + 1) 2304 := by
  unfold y_mk
  rw [if_neg (by omega), if_pos ⟨by omega, by omega⟩, Nat.add_sub_cancel_left]
theorem y_mk_o {S : Nat → Nat} {k : Nat} (h : k < 2686 ∨ 2942 ≤ k) : y_mk S k = S k := by
  unfold y_mk
  rw [if_neg (by omega), if_neg (by omega)]
/-- the class before its settling: states st, that fit S but for what the tables' change did -/
def y_Q (V : Nat) (M : zM) (N : Nat → Int32) (S st : Nat → Nat) : Prop := z_T V M S ∧ R_ds V M S ∧ R_sn V M S ∧ (∀ b, b < 128 → M (V + 3 + 1) b = nI (st b) ∧ M (V + 3 + 2) b = N (2430 + b) ∧ M (V + 3 + 3) b = nI (S (2558 + b))) ∧ R_lg V M N S ∧ R_sc V M S
def z_H (S st : Nat → Nat) : Prop := ∀ b, b < 128 → (cntN S (b + 1) 2304 = 0 → st b = z_sta S b) ∧ (cntN S (b + 1) 2304 ≠ 0 → st b = 1 ∧ S (2686 + b) = 0)
theorem z_Q_of {V n : Nat} {M : zM} {N : Nat → Int32} {S : Nat → Nat} (hR : z_R1 V M N S) (hI : z_I n S) : y_Q V M N S (z_sta S) :=
  ⟨⟨hR.1, fun b hb => by rw [← I_ref hI b hb]; exact (hR.2.2.2.1 b hb).2.2.2, I_tab hI⟩, hR.2.1, hR.2.2.1, fun b hb => ⟨(hR.2.2.2.1 b hb).1, (hR.2.2.2.1 b hb).2.1, (hR.2.2.2.1 b hb).2.2.1⟩, hR.2.2.2.2.1, hR.2.2.2.2.2⟩
theorem R_lg_S {V : Nat} {M : zM} {N : Nat → Int32} {S S' : Nat → Nat} (h : R_lg V M N S) (hc : ∀ r, r < 4 → S' (3390 + r) = S (3390 + r)) : R_lg V M N S' := fun r hr => by
  rw [hc r hr]
  exact h r hr
theorem R_lg_N {V : Nat} {M : zM} {N N' : Nat → Int32} {S : Nat → Nat} (h : R_lg V M N S) (hl : ∀ r, r < 4 → S (3390 + r) ≤ 80) (hc : ∀ k, 3070 ≤ k → k < 3390 → N' k = N k) : R_lg V M N' S := fun r hr => by
  obtain ⟨h1, h2, h3⟩ := h r hr
  have hl2 := hl r hr
  refine ⟨h1, h2, fun j hj => ?_⟩
  unfold R_lg1
  rw [hc _ (by omega) (by omega)]
  exact h3 j hj
theorem R_sc_S {V : Nat} {M : zM} {S S' : Nat → Nat} (h : R_sc V M S) (hc : ∀ k, 3394 ≤ k → k < 3397 → S' k = S k) : R_sc V M S' := by
  unfold R_sc
  rw [hc 3395 (by omega) (by omega), hc 3394 (by omega) (by omega), hc 3396 (by omega) (by omega)]
  exact h
theorem R_sp_N {V : Nat} {M : zM} {N N' : Nat → Int32} {S : Nat → Nat} (h : R_sp V M N S) (hc : ∀ k, 2430 ≤ k → k < 2558 → N' k = N k) : R_sp V M N' S := fun b hb => by
  rw [hc _ (by omega) (by omega)]
  exact h b hb
/-- states after settling -/
theorem z_sta_mk {S st : Nat → Nat} (hH : z_H S st) {b : Nat} (hb : b < 128) : z_sta (y_mk S) b = if st b = 1 ∧ cntN S (b + 1) 2304 = 0 then (if S (2558 + b) = S 3395 then 0 else 2) else st b := by
  obtain ⟨h1, h2⟩ := hH b hb
  unfold z_sta
  rw [y_mk_ref hb, y_mk_pen hb]
  by_cases c : cntN S (b + 1) 2304 = 0
  · have e := h1 c
    rw [if_neg (show ¬ cntN S (b + 1) 2304 ≠ 0 from fun q => q c)]
    unfold z_sta at e
    by_cases r : S (2814 + b) = 0
    · rw [if_neg (show ¬ S (2814 + b) ≠ 0 from fun q => q r)] at e
      have hl : lostN S b = 0 := if_neg (fun q => q.2 r)
      rw [if_neg (show ¬ lostN S b = 1 by omega)]
      have e1 : st b ≠ 1 := by
        rw [e]
        split <;> omega
      rw [if_neg (show ¬ (st b = 1 ∧ cntN S (b + 1) 2304 = 0) from fun q => e1 q.1), e]
    · rw [if_pos r] at e
      have hl : lostN S b = 1 := if_pos ⟨c, r⟩
      rw [if_pos hl, if_pos (show st b = 1 ∧ cntN S (b + 1) 2304 = 0 from ⟨e, c⟩)]
      by_cases p : S (2558 + b) = S 3395
      · rw [if_pos p, if_pos p, if_neg (by decide)]
      · rw [if_neg p, if_neg p, if_pos (by decide)]
  · rw [if_pos c, if_neg (show ¬ (st b = 1 ∧ cntN S (b + 1) 2304 = 0) from fun q => c q.2), (h2 c).1]
theorem z_lost_st {S st : Nat → Nat} (hH : z_H S st) {b : Nat} (hb : b < 128) : lostN S b = if st b = 1 ∧ cntN S (b + 1) 2304 = 0 then 1 else 0 := by
  obtain ⟨h1, h2⟩ := hH b hb
  unfold lostN
  by_cases c : cntN S (b + 1) 2304 = 0
  · have e := h1 c
    unfold z_sta at e
    by_cases r : S (2814 + b) = 0
    · rw [if_neg (show ¬ S (2814 + b) ≠ 0 from fun q => q r)] at e
      have e1 : st b ≠ 1 := by
        rw [e]
        split <;> omega
      rw [if_neg (fun q => q.2 r), if_neg (fun q => e1 q.1)]
    · rw [if_pos r] at e
      rw [if_pos ⟨c, r⟩, if_pos ⟨e, c⟩]
  · rw [if_neg (fun q => c q.1), if_neg (fun q => c q.2)]
/-- the rest of the relation, when the states fit -/
theorem z_R1_mk {V n : Nat} {M : zM} {N : Nat → Int32} {S st : Nat → Nat} (hQ : y_Q V M N S st) (hIs : z_Is n S) (hst : ∀ b, b < 128 → M (V + 3 + 1) b = nI (z_sta (y_mk S) b)) : z_R1 V M N (y_mk S) := by
  obtain ⟨q1, q2, q3, q4, q5, q6⟩ := hQ
  refine ⟨fun t ht p hp => by rw [y_mk_o (by omega)]; exact q1.1 t ht p hp, R_ds_S q2 (fun d hd => (hIs.2.2.2.2.2.2.2.1 d hd).1) (fun k k1 k2 => y_mk_o (by omega)), R_sn_S q3 hIs.2.2.2.1 (fun d hd => (hIs.2.2.2.2.2.1 d hd).1) (fun k k1 k2 => y_mk_o (by omega)), fun b hb => ⟨hst b hb, (q4 b hb).2.1, by rw [y_mk_o (by omega)]; exact (q4 b hb).2.2, by rw [y_mk_ref hb]; exact q1.2.1 b hb⟩, R_lg_S q5 (fun r hr => y_mk_o (by omega)), R_sc_S q6 (fun k k1 k2 => y_mk_o (by omega))⟩
theorem z_settle {V n : Nat} {M : zM} {N : Nat → Int32} {S st : Nat → Nat} (hn : n < 520) (hQ : y_Q V M N S st) (hH : z_H S st) (hIs : z_Is n S) (hbi : ∀ b, b < 128 → S (2558 + b) ≤ n + 1) : ∃ M', fX5_settle V M = some (nI (sumN (lostN S) 128), M') ∧ z_R1 V M' N (y_mk S) ∧ ∀ a, a ≠ V + 3 + 1 → M' a = M a := by
  have hst2 : ∀ b, b < 128 → st b ≤ 2 := fun b hb => by
    obtain ⟨h1, h2⟩ := hH b hb
    by_cases c : cntN S (b + 1) 2304 = 0
    · rw [h1 c]
      exact z_sta2
    · rw [(h2 c).1]
      decide
  have ho := hIs.2.2.2.2.2.2.2.2.2.2.1
  obtain ⟨M', s1, s2, s3⟩ := cSet (V := V) (o := S 3395) (M := M) (st := st) (c := fun b => cntN S (b + 1) 2304) (bi := fun b => S (2558 + b)) (fun b hb => ⟨(hQ.2.2.2.1 b hb).1, hst2 b hb⟩) (fun b hb => ⟨hQ.1.2.1 b hb, cntN_le⟩) (fun b hb => ⟨(hQ.2.2.2.1 b hb).2.2, by have := hbi b hb; show S (2558 + b) < 2 ^ 30; omega⟩) hQ.2.2.2.2.2.1 (by omega)
  refine ⟨M', ?_, ?_, s2⟩
  · rw [s1, sumN_cg (g := lostN S) (fun b hb => z_lost_st hH hb)]
  · have hQ2 : y_Q V M' N S (fun b => if st b = 1 ∧ cntN S (b + 1) 2304 = 0 then (if S (2558 + b) = S 3395 then 0 else 2) else st b) := by
      obtain ⟨q1, q2, q3, q4, q5, q6⟩ := hQ
      refine ⟨z_T_cg q1 (s2 _ (by omega)) (fun t ht => s2 _ (by omega)), R_ds_cg q2 (fun k k1 k2 => s2 k (by omega)), R_sn_cg q3 (fun k k1 k2 => s2 k (by omega)), fun b hb => ⟨s3 b hb, ?_, ?_⟩, R_lg_cg q5 (fun r q k1 k2 => s2 _ (by omega)), R_sc_cg q6 (s2 _ (by omega))⟩
      · rw [s2 _ (by omega)]
        exact (q4 b hb).2.1
      · rw [s2 _ (by omega)]
        exact (q4 b hb).2.2
    exact z_R1_mk hQ2 hIs (fun b hb => by rw [z_sta_mk hH hb]; exact s3 b hb)
theorem z_I_mk {n : Nat} {S st : Nat → Nat} (hIs : z_Is n S) (hH : z_H S st) (h1 : ∀ k, k < 2304 → S k ≤ 128) (h2 : ∀ d, d < 6 → S (2304 + d) = 0 → ∀ p, p < 128 → S (128 * d + p) = 0) (h3 : ∀ s, s < 12 → S (2394 + s) = 0 → ∀ p, p < 128 → S (768 + 128 * s + p) = 0) (h4 : ∀ b, b < 128 → S (2686 + b) ≤ 1) (h5 : ∀ b, b < 128 → S (2558 + b) ≤ n + 1) : z_I n (y_mk S) := by
  refine ⟨z_Is_S hIs (fun k k1 k2 => y_mk_o (by omega)) (fun k k1 k2 => y_mk_o (by omega)), fun k hk => by rw [y_mk_o (by omega)]; exact h1 k hk, fun d hd => ?_, fun s hs => ?_, fun b hb => ?_, fun b hb => ?_, fun b hb => by rw [y_mk_o (by omega)]; exact h5 b hb⟩
  · rw [y_mk_o (by omega)]
    intro q p hp
    rw [y_mk_o (by omega)]
    exact h2 d hd q p hp
  · rw [y_mk_o (by omega)]
    intro q p hp
    rw [y_mk_o (by omega)]
    exact h3 s hs q p hp
  · rw [y_mk_ref hb, cntN_cg (T := y_mk S) (T' := S) (fun i hi => y_mk_o (by omega))]
  · rw [y_mk_ref hb, y_mk_pen hb]
    have := h4 b hb
    refine ⟨by split <;> (try split) <;> omega, fun c => ?_⟩
    have hl : lostN S b = 0 := if_neg (fun q => c q.1)
    rw [if_neg (by omega), ((hH b hb).2 c).2]
/-- blocks of the new tables all stood in the old ones -/
theorem z_H_of {n : Nat} {S S1 : Nat → Nat} (hI : z_I n S) (ht : ∀ k, k < 2304 → S1 k = 0 ∨ ∃ j, j < 2304 ∧ S j = S1 k) (hr : ∀ k, 2686 ≤ k → k < 2942 → S1 k = S k) : z_H S1 (z_sta S) := fun b hb => by
  have e : z_sta S1 b = z_sta S b := by
    unfold z_sta
    rw [hr _ (by omega) (by omega), hr (2686 + b) (by omega) (by omega)]
  refine ⟨fun _ => e.symm, fun c => ?_⟩
  obtain ⟨k, hk, q⟩ := cntN_pos.mp c
  rcases ht k hk with h1 | ⟨j, hj, h1⟩
  · omega
  · have h2 : S (2814 + b) ≠ 0 := by
      rw [I_ref hI b hb]
      exact cntN_pos.mpr ⟨j, hj, h1.trans q⟩
    refine ⟨if_pos h2, ?_⟩
    rw [hr _ (by omega) (by omega)]
    exact (I_pen hI b hb).2 h2
