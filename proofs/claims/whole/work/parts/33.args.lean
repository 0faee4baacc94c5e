/-! ===== the calls' arguments, on both sides ===== -/
/-- an int that is one of the first n numbers -/
def z_is (a : Int32) (n : Nat) : Prop := ∃ j, j < n ∧ a = nI j
theorem i_cases (a : Int32) (n : Nat) (hn : n < 2 ^ 31) : (∃ j, j < n ∧ a = nI j) ∨ (¬ (nI 0 ≤ a ∧ a < nI n)) := by
  rcases n_ix a hn with h | h | h
  · exact Or.inr (fun q => absurd q.1 (Int32.not_le.mpr h))
  · exact Or.inr (fun q => absurd q.2 (Int32.not_lt.mpr h))
  · exact Or.inl h
theorem z_is_iff {a : Int32} {n : Nat} (hn : n < 2 ^ 31) : z_is a n ↔ nI 0 ≤ a ∧ a < nI n := by
  constructor
  · rintro ⟨j, hj, rfl⟩
    exact ⟨(nI_leI (by decide) (by omega)).mpr (Nat.zero_le j), (nI_ltI (by omega) hn).mpr hj⟩
  · intro h
    rcases i_cases a n hn with q | q
    · exact q
    · exact absurd h q
theorem z_not {a : Int32} {n : Nat} (hn : n < 2 ^ 31) (h : ¬ z_is a n) : a < nI 0 ∨ nI n ≤ a := by
  rcases n_ix a hn with q | q | q
  · exact Or.inl q
  · exact Or.inr q
  · exact absurd q h
theorem ds_cases {S : Nat → Nat} (a : Int32) (hx : ∀ d, d < 6 → S (2304 + d) ≤ 1) : (∃ d, d < 6 ∧ a = nI d ∧ S (2304 + d) = 1) ∨ ∀ d, d < 6 → a = nI d → S (2304 + d) = 0 := by
  rcases i_cases a 6 (by decide) with ⟨d, hd, rfl⟩ | h
  · have := hx d hd
    by_cases q : S (2304 + d) = 1
    · exact Or.inl ⟨d, hd, rfl, q⟩
    · refine Or.inr (fun d2 hd2 q2 => ?_)
      have := (nI_eq (by omega) (by omega)).mp q2
      subst this
      omega
  · exact Or.inr (fun d hd q => absurd ((z_is_iff (by decide)).mp ⟨d, hd, q⟩) h)
theorem sn_cases {S : Nat → Nat} (a : Int32) : (∃ s, s < 12 ∧ S (2394 + s) ≠ 0 ∧ a = nI (S (2394 + s) - 1)) ∨ ∀ s, s < 12 → S (2394 + s) ≠ 0 → a ≠ nI (S (2394 + s) - 1) := by
  by_cases h : ∃ s, s < 12 ∧ S (2394 + s) ≠ 0 ∧ a = nI (S (2394 + s) - 1)
  · exact Or.inl h
  · exact Or.inr (fun s hs q1 q2 => h ⟨s, hs, q1, q2⟩)
theorem pl_cases (a c : Int32) : (∃ f i, f < 8 ∧ i < 16 ∧ a = nI f ∧ c = nI i) ∨ ¬ (z_is a 8 ∧ z_is c 16) := by
  by_cases h : z_is a 8 ∧ z_is c 16
  · obtain ⟨⟨f, hf, q1⟩, i, hi, q2⟩ := h
    exact Or.inl ⟨f, i, hf, hi, q1, q2⟩
  · exact Or.inr h
theorem is_cases (a : Int32) (n : Nat) : (∃ j, j < n ∧ a = nI j) ∨ ¬ z_is a n := Classical.em _
-- the class
theorem cPl_ok {M : zM} {f i : Nat} (hf : f < 8) (hi : i < 16) : fX6_placeOrThrow (nI f) (nI i) M = some (.inr (nI (16 * f + i))) := by
  unfold fX6_placeOrThrow
  simp (disch := first | omega | assumption) only [l_0, l_1, l_2, l_3, l_4, l_5, l_6, l_7, l_8, l_11, l_12, l_15, l_16, l_31, l_32, l_66, l_80, l_100, l_127, l_128, l_768, l_2304, l_2310, l_2316, l_2388, l_2394, l_2406, l_2418, l_2430, l_2558, l_2686, l_2814, l_2942, l_3070, l_3390, l_3394, l_3395, l_3396, l_3397, n_leT, n_leF, n_ltT, n_ltF, n_eqT, n_eqF, nI_add, pk_mul, n_sub, z_ldn, z_san, z_bs, z_b2s, z_b3s, z_ocN, z_ocS, z_oxL, z_oxR, z_scL, z_scR, ↓reduceIte, st_170, st_171, st_172, st_173, Nat.zero_add, Nat.add_zero, Nat.zero_lt_succ, true_and, and_true, Nat.mul_comm f 16]
theorem cPl_no {M : zM} {a c : Int32} (h : ¬ (z_is a 8 ∧ z_is c 16)) : fX6_placeOrThrow a c M = some (.inl "java/lang/IndexOutOfBoundsException") := by
  unfold fX6_placeOrThrow
  by_cases h1 : a < 0
  · rw [if_pos h1]
  · rw [if_neg h1]
    by_cases h2 : a < 8
    · rw [if_pos h2]
      have ha : z_is a 8 := (z_is_iff (by decide)).mpr ⟨Int32.not_lt.mp h1, h2⟩
      by_cases h3 : c < 0
      · rw [if_pos h3]
      · rw [if_neg h3]
        by_cases h4 : c < 16
        · exact absurd ⟨ha, (z_is_iff (by decide)).mpr ⟨Int32.not_lt.mp h3, h4⟩⟩ h
        · rw [if_neg h4]
    · rw [if_neg h2]
theorem cBl_ok {M : zM} {k : Nat} (h : k < 128) : fX6_blockOrThrow (nI k) M = some (.inr ()) := by
  unfold fX6_blockOrThrow
  simp (disch := first | omega | assumption) only [l_0, l_1, l_2, l_3, l_4, l_5, l_6, l_7, l_8, l_11, l_12, l_15, l_16, l_31, l_32, l_66, l_80, l_100, l_127, l_128, l_768, l_2304, l_2310, l_2316, l_2388, l_2394, l_2406, l_2418, l_2430, l_2558, l_2686, l_2814, l_2942, l_3070, l_3390, l_3394, l_3395, l_3396, l_3397, n_leT, n_leF, n_ltT, n_ltF, n_eqT, n_eqF, nI_add, pk_mul, n_sub, z_ldn, z_san, z_bs, z_b2s, z_b3s, z_ocN, z_ocS, z_oxL, z_oxR, z_scL, z_scR, ↓reduceIte, st_170, st_171, st_172, st_173, Nat.zero_add, Nat.add_zero, Nat.zero_lt_succ, true_and, and_true]
theorem cBl_no {M : zM} {a : Int32} (h : ¬ z_is a 128) : fX6_blockOrThrow a M = some (.inl "java/lang/IndexOutOfBoundsException") := by
  unfold fX6_blockOrThrow
  by_cases h1 : a < 0
  · rw [if_pos h1]
  · rw [if_neg h1, if_neg (show ¬ a < 128 from fun h2 => h ((z_is_iff (by decide)).mpr ⟨Int32.not_lt.mp h1, h2⟩))]
theorem cRe_ok {M : zM} {k : Nat} (h : k < 4) : fX6_regionOrThrow (nI k) M = some (.inr ()) := by
  unfold fX6_regionOrThrow
  simp (disch := first | omega | assumption) only [l_0, l_1, l_2, l_3, l_4, l_5, l_6, l_7, l_8, l_11, l_12, l_15, l_16, l_31, l_32, l_66, l_80, l_100, l_127, l_128, l_768, l_2304, l_2310, l_2316, l_2388, l_2394, l_2406, l_2418, l_2430, l_2558, l_2686, l_2814, l_2942, l_3070, l_3390, l_3394, l_3395, l_3396, l_3397, n_leT, n_leF, n_ltT, n_ltF, n_eqT, n_eqF, nI_add, pk_mul, n_sub, z_ldn, z_san, z_bs, z_b2s, z_b3s, z_ocN, z_ocS, z_oxL, z_oxR, z_scL, z_scR, ↓reduceIte, st_170, st_171, st_172, st_173, Nat.zero_add, Nat.add_zero, Nat.zero_lt_succ, true_and, and_true]
theorem cRe_no {M : zM} {a : Int32} (h : ¬ z_is a 4) : fX6_regionOrThrow a M = some (.inl "java/lang/IndexOutOfBoundsException") := by
  unfold fX6_regionOrThrow
  by_cases h1 : a < 0
  · rw [if_pos h1]
  · rw [if_neg h1, if_neg (show ¬ a < 4 from fun h2 => h ((z_is_iff (by decide)).mpr ⟨Int32.not_lt.mp h1, h2⟩))]
theorem cLo_ok {M : zM} {k : Nat} (h : k < 4) : fX6_logOrThrow 0 (nI k) M = some (.inr (1 + 63 + 5 * k)) := by
  unfold fX6_logOrThrow
  simp (disch := first | omega | assumption) only [l_0, l_1, l_2, l_3, l_4, l_5, l_6, l_7, l_8, l_11, l_12, l_15, l_16, l_31, l_32, l_66, l_80, l_100, l_127, l_128, l_768, l_2304, l_2310, l_2316, l_2388, l_2394, l_2406, l_2418, l_2430, l_2558, l_2686, l_2814, l_2942, l_3070, l_3390, l_3394, l_3395, l_3396, l_3397, n_leT, n_leF, n_ltT, n_ltF, n_eqT, n_eqF, nI_add, pk_mul, n_sub, z_ldn, z_san, z_bs, z_b2s, z_b3s, z_ocN, z_ocS, z_oxL, z_oxR, z_scL, z_scR, ↓reduceIte, st_170, st_171, st_172, st_173, Nat.zero_add, Nat.add_zero, Nat.zero_lt_succ, true_and, and_true, z_lq13]
theorem cLo_no {M : zM} {a : Int32} (h : ¬ z_is a 4) : fX6_logOrThrow 0 a M = some (.inl "java/lang/IndexOutOfBoundsException") := by
  unfold fX6_logOrThrow
  by_cases h1 : a < 0
  · rw [if_pos h1]
  · rw [if_neg h1, if_neg (show ¬ a < 4 from fun h2 => h ((z_is_iff (by decide)).mpr ⟨Int32.not_lt.mp h1, h2⟩))]
theorem cFd_ok {V : Nat} {M : zM} {S : Nat → Nat} (hR : R_ds V M S) {d : Nat} (hd : d < 6) (h : S (2304 + d) = 1) : fX5_findDataset V (nI d) M = some (some (V + 9 + 3 * d)) := by
  unfold fX5_findDataset
  simp (disch := first | omega | assumption) only [l_0, l_1, l_2, l_3, l_4, l_5, l_6, l_7, l_8, l_11, l_12, l_15, l_16, l_31, l_32, l_66, l_80, l_100, l_127, l_128, l_768, l_2304, l_2310, l_2316, l_2388, l_2394, l_2406, l_2418, l_2430, l_2558, l_2686, l_2814, l_2942, l_3070, l_3390, l_3394, l_3395, l_3396, l_3397, n_leT, n_leF, n_ltT, n_ltF, n_eqT, n_eqF, nI_add, pk_mul, n_sub, z_ldn, z_san, z_bs, z_b2s, z_b3s, z_ocN, z_ocS, z_oxL, z_oxR, z_scL, z_scR, ↓reduceIte, st_170, st_171, st_172, st_173, Nat.zero_add, Nat.add_zero, Nat.zero_lt_succ, true_and, and_true, z_lq11, (hR d hd).1, h]
theorem cFd_no {V : Nat} {M : zM} {S : Nat → Nat} (hR : R_ds V M S) {a : Int32} (h : ∀ d, d < 6 → a = nI d → S (2304 + d) = 0) : fX5_findDataset V a M = some none := by
  unfold fX5_findDataset
  by_cases h1 : a < 0
  · rw [if_pos h1]
  · rw [if_neg h1]
    by_cases h2 : 6 ≤ a
    · rw [if_pos h2]
    · rw [if_neg h2]
      obtain ⟨d, hd, rfl⟩ := (z_is_iff (n := 6) (by decide)).mpr ⟨Int32.not_lt.mp h1, Int32.not_le.mp h2⟩
      simp (disch := first | omega | assumption) only [l_0, l_1, l_2, l_3, l_4, l_5, l_6, l_7, l_8, l_11, l_12, l_15, l_16, l_31, l_32, l_66, l_80, l_100, l_127, l_128, l_768, l_2304, l_2310, l_2316, l_2388, l_2394, l_2406, l_2418, l_2430, l_2558, l_2686, l_2814, l_2942, l_3070, l_3390, l_3394, l_3395, l_3396, l_3397, n_leT, n_leF, n_ltT, n_ltF, n_eqT, n_eqF, nI_add, pk_mul, n_sub, z_ldn, z_san, z_bs, z_b2s, z_b3s, z_ocN, z_ocS, z_oxL, z_oxR, z_scL, z_scR, ↓reduceIte, st_170, st_171, st_172, st_173, Nat.zero_add, Nat.add_zero, Nat.zero_lt_succ, true_and, and_true, z_lq11, (hR d hd).1, h d hd rfl]
theorem kd_ds {V d : Nat} (hV : z_kd V = 5) (hd : d < 6) : z_kd (V + 9 + 3 * d) = 0 := (z_vd hV hd).1
theorem kd_sn {V s : Nat} (hV : z_kd V = 5) (hs : s < 12) : z_kd (V + 27 + 3 * s) = 2 := z_vs hV hs
theorem kd_lg {V r : Nat} (hV : z_kd V = 5) (hr : r < 4) : z_kd (V + 63 + 5 * r) = 1 := (z_vl hV hr).1
theorem kd1_ds {d : Nat} (hd : d < 6) : z_kd (1 + 9 + 3 * d) = 0 := kd_ds (V := 1) rfl hd
theorem kd1_sn {s : Nat} (hs : s < 12) : z_kd (1 + 27 + 3 * s) = 2 := kd_sn (V := 1) rfl hs
theorem kd1_lg {r : Nat} (hr : r < 4) : z_kd (1 + 63 + 5 * r) = 1 := kd_lg (V := 1) rfl hr
theorem cDs_ok {M : zM} {S : Nat → Nat} (hR : R_ds 1 M S) {d : Nat} (hd : d < 6) (h : S (2304 + d) = 1) : fX6_datasetOrThrow 0 (nI d) M = some (.inr (1 + 9 + 3 * d)) := by
  unfold fX6_datasetOrThrow
  rw [cFd_ok (V := 0 + 1) hR hd h, z_bs, z_ocS, z_gdp (kd_ds (V := 1) rfl hd)]
theorem cDs_no {M : zM} {S : Nat → Nat} (hR : R_ds 1 M S) {a : Int32} (h : ∀ d, d < 6 → a = nI d → S (2304 + d) = 0) : fX6_datasetOrThrow 0 a M = some (.inl "java/lang/IndexOutOfBoundsException") := by
  unfold fX6_datasetOrThrow
  rw [cFd_no (V := 0 + 1) hR h, z_bs, z_ocN]
theorem cFs_ok {V : Nat} {M : zM} {S : Nat → Nat} (hR : R_sn V M S) (hi : ∀ s t, s < 12 → t < 12 → S (2394 + s) ≠ 0 → S (2394 + s) = S (2394 + t) → s = t) (hb : ∀ s, s < 12 → S (2394 + s) < 2 ^ 30) {s : Nat} (hs : s < 12) (h : S (2394 + s) ≠ 0) : fX5_findSnapshot V (nI (S (2394 + s) - 1)) M = some (some (V + 27 + 3 * s)) := by
  unfold fX5_findSnapshot
  have hb1 := hb s hs
  rcases z_loopW (f := fun s9 => fX5_findSnapshot_L1 V (nI (S (2394 + s) - 1)) M s9) (fun i => i = s) (fun _ => .inr (some (V + 27 + 3 * s))) (.inl ()) 0 12 (by decide) (s := 0) rfl (fun i _ => Classical.em _) (fun i hi12 hne => by
    have hb2 := hb i hi12
    by_cases he : S (2394 + i) = 0
    · simp (disch := first | omega | assumption) only [l_0, l_1, l_2, l_3, l_4, l_5, l_6, l_7, l_8, l_11, l_12, l_15, l_16, l_31, l_32, l_66, l_80, l_100, l_127, l_128, l_768, l_2304, l_2310, l_2316, l_2388, l_2394, l_2406, l_2418, l_2430, l_2558, l_2686, l_2814, l_2942, l_3070, l_3390, l_3394, l_3395, l_3396, l_3397, n_leT, n_leF, n_ltT, n_ltF, n_eqT, n_eqF, nI_add, pk_mul, n_sub, z_ldn, z_san, z_bs, z_b2s, z_b3s, z_ocN, z_ocS, z_oxL, z_oxR, z_scL, z_scR, ↓reduceIte, st_170, st_171, st_172, st_173, Nat.zero_add, Nat.add_zero, Nat.zero_lt_succ, true_and, and_true, fX5_findSnapshot_L1, z_lq12, (hR i hi12).1, if_pos he]
    · have hne2 : S (2394 + i) ≠ S (2394 + s) := fun q => hne (hi i s hi12 hs he q)
      simp (disch := first | omega | assumption) only [l_0, l_1, l_2, l_3, l_4, l_5, l_6, l_7, l_8, l_11, l_12, l_15, l_16, l_31, l_32, l_66, l_80, l_100, l_127, l_128, l_768, l_2304, l_2310, l_2316, l_2388, l_2394, l_2406, l_2418, l_2430, l_2558, l_2686, l_2814, l_2942, l_3070, l_3390, l_3394, l_3395, l_3396, l_3397, n_leT, n_leF, n_ltT, n_ltF, n_eqT, n_eqF, nI_add, pk_mul, n_sub, z_ldn, z_san, z_bs, z_b2s, z_b3s, z_ocN, z_ocS, z_oxL, z_oxR, z_scL, z_scR, ↓reduceIte, st_170, st_171, st_172, st_173, Nat.zero_add, Nat.add_zero, Nat.zero_lt_succ, true_and, and_true, fX5_findSnapshot_L1, z_lq12, (hR i hi12).1, if_neg he, ((hR i hi12).2 he).1]) (fun i hi12 hie => by
    subst hie
    simp (disch := first | omega | assumption) only [l_0, l_1, l_2, l_3, l_4, l_5, l_6, l_7, l_8, l_11, l_12, l_15, l_16, l_31, l_32, l_66, l_80, l_100, l_127, l_128, l_768, l_2304, l_2310, l_2316, l_2388, l_2394, l_2406, l_2418, l_2430, l_2558, l_2686, l_2814, l_2942, l_3070, l_3390, l_3394, l_3395, l_3396, l_3397, n_leT, n_leF, n_ltT, n_ltF, n_eqT, n_eqF, nI_add, pk_mul, n_sub, z_ldn, z_san, z_bs, z_b2s, z_b3s, z_ocN, z_ocS, z_oxL, z_oxR, z_scL, z_scR, ↓reduceIte, st_170, st_171, st_172, st_173, Nat.zero_add, Nat.add_zero, Nat.zero_lt_succ, true_and, and_true, fX5_findSnapshot_L1, z_lq12, (hR i hi12).1, if_neg h, ((hR i hi12).2 h).1]) (by simp (disch := first | omega | assumption) only [l_0, l_1, l_2, l_3, l_4, l_5, l_6, l_7, l_8, l_11, l_12, l_15, l_16, l_31, l_32, l_66, l_80, l_100, l_127, l_128, l_768, l_2304, l_2310, l_2316, l_2388, l_2394, l_2406, l_2418, l_2430, l_2558, l_2686, l_2814, l_2942, l_3070, l_3390, l_3394, l_3395, l_3396, l_3397, n_leT, n_leF, n_ltT, n_ltF, n_eqT, n_eqF, nI_add, pk_mul, n_sub, z_ldn, z_san, z_bs, z_b2s, z_b3s, z_ocN, z_ocS, z_oxL, z_oxR, z_scL, z_scR, ↓reduceIte, st_170, st_171, st_172, st_173, Nat.zero_add, Nat.add_zero, Nat.zero_lt_succ, true_and, and_true, fX5_findSnapshot_L1]) with ⟨i, q1, q2, q3, q4⟩ | ⟨q1, q2⟩
  · rw [q4]
    rfl
  · exact absurd rfl (q1 s hs)
theorem cFs_no {V : Nat} {M : zM} {S : Nat → Nat} (hR : R_sn V M S) {a : Int32} (h : ∀ s, s < 12 → S (2394 + s) ≠ 0 → a ≠ nI (S (2394 + s) - 1)) : fX5_findSnapshot V a M = some none := by
  unfold fX5_findSnapshot
  rcases z_loopW (f := fun s9 => fX5_findSnapshot_L1 V a M s9) (fun i => False) (fun _ => .inl ()) (.inl ()) 0 12 (by decide) (s := 0) rfl (fun i _ => Or.inr id) (fun i hi12 _ => by
    by_cases he : S (2394 + i) = 0
    · simp (disch := first | omega | assumption) only [l_0, l_1, l_2, l_3, l_4, l_5, l_6, l_7, l_8, l_11, l_12, l_15, l_16, l_31, l_32, l_66, l_80, l_100, l_127, l_128, l_768, l_2304, l_2310, l_2316, l_2388, l_2394, l_2406, l_2418, l_2430, l_2558, l_2686, l_2814, l_2942, l_3070, l_3390, l_3394, l_3395, l_3396, l_3397, n_leT, n_leF, n_ltT, n_ltF, n_eqT, n_eqF, nI_add, pk_mul, n_sub, z_ldn, z_san, z_bs, z_b2s, z_b3s, z_ocN, z_ocS, z_oxL, z_oxR, z_scL, z_scR, ↓reduceIte, st_170, st_171, st_172, st_173, Nat.zero_add, Nat.add_zero, Nat.zero_lt_succ, true_and, and_true, fX5_findSnapshot_L1, z_lq12, (hR i hi12).1, if_pos he]
    · have hq : (nI (S (2394 + i) - 1) = a) = False := eq_false (fun q => h i hi12 he q.symm)
      simp (disch := first | omega | assumption) only [l_0, l_1, l_2, l_3, l_4, l_5, l_6, l_7, l_8, l_11, l_12, l_15, l_16, l_31, l_32, l_66, l_80, l_100, l_127, l_128, l_768, l_2304, l_2310, l_2316, l_2388, l_2394, l_2406, l_2418, l_2430, l_2558, l_2686, l_2814, l_2942, l_3070, l_3390, l_3394, l_3395, l_3396, l_3397, n_leT, n_leF, n_ltT, n_ltF, n_eqT, n_eqF, nI_add, pk_mul, n_sub, z_ldn, z_san, z_bs, z_b2s, z_b3s, z_ocN, z_ocS, z_oxL, z_oxR, z_scL, z_scR, ↓reduceIte, st_170, st_171, st_172, st_173, Nat.zero_add, Nat.add_zero, Nat.zero_lt_succ, true_and, and_true, fX5_findSnapshot_L1, z_lq12, (hR i hi12).1, if_neg he, ((hR i hi12).2 he).1, hq]) (fun i hi12 hie => hie.elim) (by simp (disch := first | omega | assumption) only [l_0, l_1, l_2, l_3, l_4, l_5, l_6, l_7, l_8, l_11, l_12, l_15, l_16, l_31, l_32, l_66, l_80, l_100, l_127, l_128, l_768, l_2304, l_2310, l_2316, l_2388, l_2394, l_2406, l_2418, l_2430, l_2558, l_2686, l_2814, l_2942, l_3070, l_3390, l_3394, l_3395, l_3396, l_3397, n_leT, n_leF, n_ltT, n_ltF, n_eqT, n_eqF, nI_add, pk_mul, n_sub, z_ldn, z_san, z_bs, z_b2s, z_b3s, z_ocN, z_ocS, z_oxL, z_oxR, z_scL, z_scR, ↓reduceIte, st_170, st_171, st_172, st_173, Nat.zero_add, Nat.add_zero, Nat.zero_lt_succ, true_and, and_true, fX5_findSnapshot_L1]) with ⟨i, q1, q2, q3, q4⟩ | ⟨q1, q2⟩
  · exact q2.elim
  · rw [q2]
    rfl
theorem cSn_ok {M : zM} {S : Nat → Nat} (hR : R_sn 1 M S) (hi : ∀ s t, s < 12 → t < 12 → S (2394 + s) ≠ 0 → S (2394 + s) = S (2394 + t) → s = t) (hb : ∀ s, s < 12 → S (2394 + s) < 2 ^ 30) {s : Nat} (hs : s < 12) (h : S (2394 + s) ≠ 0) : fX6_snapshotOrThrow 0 (nI (S (2394 + s) - 1)) M = some (.inr (1 + 27 + 3 * s)) := by
  unfold fX6_snapshotOrThrow
  rw [cFs_ok (V := 0 + 1) hR hi hb hs h, z_bs, z_ocS, z_gdp (kd_sn (V := 1) rfl hs)]
theorem cSn_no {M : zM} {S : Nat → Nat} (hR : R_sn 1 M S) {a : Int32} (h : ∀ s, s < 12 → S (2394 + s) ≠ 0 → a ≠ nI (S (2394 + s) - 1)) : fX6_snapshotOrThrow 0 a M = some (.inl "java/lang/IndexOutOfBoundsException") := by
  unfold fX6_snapshotOrThrow
  rw [cFs_no (V := 0 + 1) hR h, z_bs, z_ocN]
-- blocks, in the class: 'nI 0 - nI 1' is no block
theorem cBo {T p : Nat} {M : zM} (hp : p < 128) : fX4_blockOf T (nI p) M = some (M (T + 1) p) := by
  unfold fX4_blockOf
  simp (disch := first | omega | assumption) only [l_0, l_1, l_2, l_3, l_4, l_5, l_6, l_7, l_8, l_11, l_12, l_15, l_16, l_31, l_32, l_66, l_80, l_100, l_127, l_128, l_768, l_2304, l_2310, l_2316, l_2388, l_2394, l_2406, l_2418, l_2430, l_2558, l_2686, l_2814, l_2942, l_3070, l_3390, l_3394, l_3395, l_3396, l_3397, n_leT, n_leF, n_ltT, n_ltF, n_eqT, n_eqF, nI_add, pk_mul, n_sub, z_ldn, z_san, z_bs, z_b2s, z_b3s, z_ocN, z_ocS, z_oxL, z_oxR, z_scL, z_scR, ↓reduceIte, st_170, st_171, st_172, st_173, Nat.zero_add, Nat.add_zero, Nat.zero_lt_succ, true_and, and_true]
theorem cIb0 {M : zM} : fX3_isBlock (nI 0 - nI 1) M = some (nI 0) := by
  unfold fX3_isBlock
  simp (disch := first | omega | assumption) only [l_0, l_1, l_2, l_3, l_4, l_5, l_6, l_7, l_8, l_11, l_12, l_15, l_16, l_31, l_32, l_66, l_80, l_100, l_127, l_128, l_768, l_2304, l_2310, l_2316, l_2388, l_2394, l_2406, l_2418, l_2430, l_2558, l_2686, l_2814, l_2942, l_3070, l_3390, l_3394, l_3395, l_3396, l_3397, n_leT, n_leF, n_ltT, n_ltF, n_eqT, n_eqF, nI_add, pk_mul, n_sub, z_ldn, z_san, z_bs, z_b2s, z_b3s, z_ocN, z_ocS, z_oxL, z_oxR, z_scL, z_scR, ↓reduceIte, st_170, st_171, st_172, st_173, Nat.zero_add, Nat.add_zero, Nat.zero_lt_succ, true_and, and_true, n_m0a]
theorem cIb {M : zM} {b : Nat} (hb : b < 128) : fX3_isBlock (nI b) M = some (nI 1) := by
  unfold fX3_isBlock
  simp (disch := first | omega | assumption) only [l_0, l_1, l_2, l_3, l_4, l_5, l_6, l_7, l_8, l_11, l_12, l_15, l_16, l_31, l_32, l_66, l_80, l_100, l_127, l_128, l_768, l_2304, l_2310, l_2316, l_2388, l_2394, l_2406, l_2418, l_2430, l_2558, l_2686, l_2814, l_2942, l_3070, l_3390, l_3394, l_3395, l_3396, l_3397, n_leT, n_leF, n_ltT, n_ltF, n_eqT, n_eqF, nI_add, pk_mul, n_sub, z_ldn, z_san, z_bs, z_b2s, z_b3s, z_ocN, z_ocS, z_oxL, z_oxR, z_scL, z_scR, ↓reduceIte, st_170, st_171, st_172, st_173, Nat.zero_add, Nat.add_zero, Nat.zero_lt_succ, true_and, and_true]
-- the model
theorem mIn_ok {M : zM} {n hi : Nat} (h : n ≤ hi) (hb : hi < 2 ^ 31) : fX7_in (nI n) (nI 0) (nI hi) M = some (nI 1) := by
  unfold fX7_in
  simp (disch := first | omega | assumption) only [l_0, l_1, l_2, l_3, l_4, l_5, l_6, l_7, l_8, l_11, l_12, l_15, l_16, l_31, l_32, l_66, l_80, l_100, l_127, l_128, l_768, l_2304, l_2310, l_2316, l_2388, l_2394, l_2406, l_2418, l_2430, l_2558, l_2686, l_2814, l_2942, l_3070, l_3390, l_3394, l_3395, l_3396, l_3397, n_leT, n_leF, n_ltT, n_ltF, n_eqT, n_eqF, nI_add, pk_mul, n_sub, z_ldn, z_san, z_bs, z_b2s, z_b3s, z_ocN, z_ocS, z_oxL, z_oxR, z_scL, z_scR, ↓reduceIte, st_170, st_171, st_172, st_173, Nat.zero_add, Nat.add_zero, Nat.zero_lt_succ, true_and, and_true]
theorem mIn_no {M : zM} {a : Int32} {hi : Nat} (hb : hi + 1 < 2 ^ 31) (h : ¬ z_is a (hi + 1)) : fX7_in a (nI 0) (nI hi) M = some (nI 0) := by
  unfold fX7_in
  rcases z_not hb h with q | q
  · rw [if_pos q]
    rfl
  · by_cases h1 : a < nI 0
    · rw [if_pos h1]
      rfl
    · rw [if_neg h1, if_pos]
      · rfl
      · exact Int32.lt_of_lt_of_le (nI_lt (by omega) hb) q
theorem mFile_ok {M : zM} {f : Nat} (hf : f < 8) : fX7_isFile (nI f) M = some (nI 1) := by
  unfold fX7_isFile
  simp (disch := first | omega | assumption) only [l_0, l_1, l_2, l_3, l_4, l_5, l_6, l_7, l_8, l_11, l_12, l_15, l_16, l_31, l_32, l_66, l_80, l_100, l_127, l_128, l_768, l_2304, l_2310, l_2316, l_2388, l_2394, l_2406, l_2418, l_2430, l_2558, l_2686, l_2814, l_2942, l_3070, l_3390, l_3394, l_3395, l_3396, l_3397, n_leT, n_leF, n_ltT, n_ltF, n_eqT, n_eqF, nI_add, pk_mul, n_sub, z_ldn, z_san, z_bs, z_b2s, z_b3s, z_ocN, z_ocS, z_oxL, z_oxR, z_scL, z_scR, ↓reduceIte, st_170, st_171, st_172, st_173, Nat.zero_add, Nat.add_zero, Nat.zero_lt_succ, true_and, and_true, mIn_ok, z_bzp (x := nI 1) (Or.inr rfl)]
theorem mFile_no {M : zM} {a : Int32} (h : ¬ z_is a 8) : fX7_isFile a M = some (nI 0) := by
  unfold fX7_isFile
  simp (disch := first | omega | assumption) only [l_0, l_1, l_2, l_3, l_4, l_5, l_6, l_7, l_8, l_11, l_12, l_15, l_16, l_31, l_32, l_66, l_80, l_100, l_127, l_128, l_768, l_2304, l_2310, l_2316, l_2388, l_2394, l_2406, l_2418, l_2430, l_2558, l_2686, l_2814, l_2942, l_3070, l_3390, l_3394, l_3395, l_3396, l_3397, n_leT, n_leF, n_ltT, n_ltF, n_eqT, n_eqF, nI_add, pk_mul, n_sub, z_ldn, z_san, z_bs, z_b2s, z_b3s, z_ocN, z_ocS, z_oxL, z_oxR, z_scL, z_scR, ↓reduceIte, st_170, st_171, st_172, st_173, Nat.zero_add, Nat.add_zero, Nat.zero_lt_succ, true_and, and_true, mIn_no (hi := 7) (by decide) h, z_bzp (x := nI 0) (Or.inl rfl)]
theorem mSpot_ok {M : zM} {f i : Nat} (hf : f < 8) (hi : i < 16) : fX7_isSpot (nI f) (nI i) M = some (nI 1) := by
  unfold fX7_isSpot
  simp (disch := first | omega | assumption) only [l_0, l_1, l_2, l_3, l_4, l_5, l_6, l_7, l_8, l_11, l_12, l_15, l_16, l_31, l_32, l_66, l_80, l_100, l_127, l_128, l_768, l_2304, l_2310, l_2316, l_2388, l_2394, l_2406, l_2418, l_2430, l_2558, l_2686, l_2814, l_2942, l_3070, l_3390, l_3394, l_3395, l_3396, l_3397, n_leT, n_leF, n_ltT, n_ltF, n_eqT, n_eqF, nI_add, pk_mul, n_sub, z_ldn, z_san, z_bs, z_b2s, z_b3s, z_ocN, z_ocS, z_oxL, z_oxR, z_scL, z_scR, ↓reduceIte, st_170, st_171, st_172, st_173, Nat.zero_add, Nat.add_zero, Nat.zero_lt_succ, true_and, and_true, mFile_ok, mIn_ok]
theorem mSpot_no {M : zM} {a c : Int32} (h : ¬ (z_is a 8 ∧ z_is c 16)) : fX7_isSpot a c M = some (nI 0) := by
  unfold fX7_isSpot
  by_cases h1 : z_is a 8
  · obtain ⟨f, hf, rfl⟩ := id h1
    simp (disch := first | omega | assumption) only [l_0, l_1, l_2, l_3, l_4, l_5, l_6, l_7, l_8, l_11, l_12, l_15, l_16, l_31, l_32, l_66, l_80, l_100, l_127, l_128, l_768, l_2304, l_2310, l_2316, l_2388, l_2394, l_2406, l_2418, l_2430, l_2558, l_2686, l_2814, l_2942, l_3070, l_3390, l_3394, l_3395, l_3396, l_3397, n_leT, n_leF, n_ltT, n_ltF, n_eqT, n_eqF, nI_add, pk_mul, n_sub, z_ldn, z_san, z_bs, z_b2s, z_b3s, z_ocN, z_ocS, z_oxL, z_oxR, z_scL, z_scR, ↓reduceIte, st_170, st_171, st_172, st_173, Nat.zero_add, Nat.add_zero, Nat.zero_lt_succ, true_and, and_true, mFile_ok, mIn_no (hi := 15) (by decide) (fun q => h ⟨h1, q⟩)]
  · simp (disch := first | omega | assumption) only [l_0, l_1, l_2, l_3, l_4, l_5, l_6, l_7, l_8, l_11, l_12, l_15, l_16, l_31, l_32, l_66, l_80, l_100, l_127, l_128, l_768, l_2304, l_2310, l_2316, l_2388, l_2394, l_2406, l_2418, l_2430, l_2558, l_2686, l_2814, l_2942, l_3070, l_3390, l_3394, l_3395, l_3396, l_3397, n_leT, n_leF, n_ltT, n_ltF, n_eqT, n_eqF, nI_add, pk_mul, n_sub, z_ldn, z_san, z_bs, z_b2s, z_b3s, z_ocN, z_ocS, z_oxL, z_oxR, z_scL, z_scR, ↓reduceIte, st_170, st_171, st_172, st_173, Nat.zero_add, Nat.add_zero, Nat.zero_lt_succ, true_and, and_true, mFile_no h1]
theorem mSet_ok {M : zM} {S : Nat → Nat} (hN : ∀ k, k < 2430 → M (169 + 1) k = nI (S k)) {d : Nat} (hd : d < 6) (h : S (2304 + d) = 1) : fX7_isSet 169 (nI d) M = some (nI 1) := by
  unfold fX7_isSet
  simp (disch := first | omega | assumption) only [l_0, l_1, l_2, l_3, l_4, l_5, l_6, l_7, l_8, l_11, l_12, l_15, l_16, l_31, l_32, l_66, l_80, l_100, l_127, l_128, l_768, l_2304, l_2310, l_2316, l_2388, l_2394, l_2406, l_2418, l_2430, l_2558, l_2686, l_2814, l_2942, l_3070, l_3390, l_3394, l_3395, l_3396, l_3397, n_leT, n_leF, n_ltT, n_ltF, n_eqT, n_eqF, nI_add, pk_mul, n_sub, z_ldn, z_san, z_bs, z_b2s, z_b3s, z_ocN, z_ocS, z_oxL, z_oxR, z_scL, z_scR, ↓reduceIte, st_170, st_171, st_172, st_173, Nat.zero_add, Nat.add_zero, Nat.zero_lt_succ, true_and, and_true, mIn_ok, hN, h]
theorem mSet_no {M : zM} {S : Nat → Nat} (hN : ∀ k, k < 2430 → M (169 + 1) k = nI (S k)) {a : Int32} (h : ∀ d, d < 6 → a = nI d → S (2304 + d) = 0) : fX7_isSet 169 a M = some (nI 0) := by
  unfold fX7_isSet
  by_cases h1 : z_is a 6
  · obtain ⟨d, hd, rfl⟩ := h1
    simp (disch := first | omega | assumption) only [l_0, l_1, l_2, l_3, l_4, l_5, l_6, l_7, l_8, l_11, l_12, l_15, l_16, l_31, l_32, l_66, l_80, l_100, l_127, l_128, l_768, l_2304, l_2310, l_2316, l_2388, l_2394, l_2406, l_2418, l_2430, l_2558, l_2686, l_2814, l_2942, l_3070, l_3390, l_3394, l_3395, l_3396, l_3397, n_leT, n_leF, n_ltT, n_ltF, n_eqT, n_eqF, nI_add, pk_mul, n_sub, z_ldn, z_san, z_bs, z_b2s, z_b3s, z_ocN, z_ocS, z_oxL, z_oxR, z_scL, z_scR, ↓reduceIte, st_170, st_171, st_172, st_173, Nat.zero_add, Nat.add_zero, Nat.zero_lt_succ, true_and, and_true, mIn_ok, hN, h d hd rfl]
  · simp (disch := first | omega | assumption) only [l_0, l_1, l_2, l_3, l_4, l_5, l_6, l_7, l_8, l_11, l_12, l_15, l_16, l_31, l_32, l_66, l_80, l_100, l_127, l_128, l_768, l_2304, l_2310, l_2316, l_2388, l_2394, l_2406, l_2418, l_2430, l_2558, l_2686, l_2814, l_2942, l_3070, l_3390, l_3394, l_3395, l_3396, l_3397, n_leT, n_leF, n_ltT, n_ltF, n_eqT, n_eqF, nI_add, pk_mul, n_sub, z_ldn, z_san, z_bs, z_b2s, z_b3s, z_ocN, z_ocS, z_oxL, z_oxR, z_scL, z_scR, ↓reduceIte, st_170, st_171, st_172, st_173, Nat.zero_add, Nat.add_zero, Nat.zero_lt_succ, true_and, and_true, mIn_no (hi := 5) (by decide) h1]
theorem mSlot_ok {M : zM} {S : Nat → Nat} (hN : ∀ k, k < 2430 → M (169 + 1) k = nI (S k)) (hi : ∀ s t, s < 12 → t < 12 → S (2394 + s) ≠ 0 → S (2394 + s) = S (2394 + t) → s = t) (hb : ∀ s, s < 12 → S (2394 + s) < 2 ^ 30) {s : Nat} (hs : s < 12) (h : S (2394 + s) ≠ 0) : fX7_slotOf 169 (nI (S (2394 + s) - 1)) M = some (nI s) := by
  unfold fX7_slotOf
  have hb2 := hb s hs
  have e := z_loopC (f := fun q : Int32 × Int32 => fX7_slotOf_L1 169 (nI (S (2394 + s) - 1)) M q.1 q.2) (fun i => (if s < i then nI s else -1, nI i)) 12 (nI s) (by decide) (fun i hi12 => by
    have hb1 := hb i hi12
    by_cases hq : i = s
    · subst hq
      have hx : S (2394 + i) = S (2394 + i) - 1 + 1 := by omega
      simp (disch := first | omega | assumption) only [l_0, l_1, l_2, l_3, l_4, l_5, l_6, l_7, l_8, l_11, l_12, l_15, l_16, l_31, l_32, l_66, l_80, l_100, l_127, l_128, l_768, l_2304, l_2310, l_2316, l_2388, l_2394, l_2406, l_2418, l_2430, l_2558, l_2686, l_2814, l_2942, l_3070, l_3390, l_3394, l_3395, l_3396, l_3397, n_leT, n_leF, n_ltT, n_ltF, n_eqT, n_eqF, nI_add, pk_mul, n_sub, z_ldn, z_san, z_bs, z_b2s, z_b3s, z_ocN, z_ocS, z_oxL, z_oxR, z_scL, z_scR, ↓reduceIte, st_170, st_171, st_172, st_173, Nat.zero_add, Nat.add_zero, Nat.zero_lt_succ, true_and, and_true, fX7_slotOf_L1, hN, Nat.lt_add_one, Nat.lt_irrefl]
    · have hne : S (2394 + i) ≠ S (2394 + s) := fun q => hq (hi s i hs hi12 h q.symm).symm
      by_cases hl : s < i
      · have hl2 : s < i + 1 := by omega
        simp (disch := first | omega | assumption) only [l_0, l_1, l_2, l_3, l_4, l_5, l_6, l_7, l_8, l_11, l_12, l_15, l_16, l_31, l_32, l_66, l_80, l_100, l_127, l_128, l_768, l_2304, l_2310, l_2316, l_2388, l_2394, l_2406, l_2418, l_2430, l_2558, l_2686, l_2814, l_2942, l_3070, l_3390, l_3394, l_3395, l_3396, l_3397, n_leT, n_leF, n_ltT, n_ltF, n_eqT, n_eqF, nI_add, pk_mul, n_sub, z_ldn, z_san, z_bs, z_b2s, z_b3s, z_ocN, z_ocS, z_oxL, z_oxR, z_scL, z_scR, ↓reduceIte, st_170, st_171, st_172, st_173, Nat.zero_add, Nat.add_zero, Nat.zero_lt_succ, true_and, and_true, fX7_slotOf_L1, hN, if_pos hl, if_pos hl2]
      · have hl2 : ¬ s < i + 1 := by omega
        simp (disch := first | omega | assumption) only [l_0, l_1, l_2, l_3, l_4, l_5, l_6, l_7, l_8, l_11, l_12, l_15, l_16, l_31, l_32, l_66, l_80, l_100, l_127, l_128, l_768, l_2304, l_2310, l_2316, l_2388, l_2394, l_2406, l_2418, l_2430, l_2558, l_2686, l_2814, l_2942, l_3070, l_3390, l_3394, l_3395, l_3396, l_3397, n_leT, n_leF, n_ltT, n_ltF, n_eqT, n_eqF, nI_add, pk_mul, n_sub, z_ldn, z_san, z_bs, z_b2s, z_b3s, z_ocN, z_ocS, z_oxL, z_oxR, z_scL, z_scR, ↓reduceIte, st_170, st_171, st_172, st_173, Nat.zero_add, Nat.add_zero, Nat.zero_lt_succ, true_and, and_true, fX7_slotOf_L1, hN, if_neg hl, if_neg hl2]) (by simp (disch := first | omega | assumption) only [l_0, l_1, l_2, l_3, l_4, l_5, l_6, l_7, l_8, l_11, l_12, l_15, l_16, l_31, l_32, l_66, l_80, l_100, l_127, l_128, l_768, l_2304, l_2310, l_2316, l_2388, l_2394, l_2406, l_2418, l_2430, l_2558, l_2686, l_2814, l_2942, l_3070, l_3390, l_3394, l_3395, l_3396, l_3397, n_leT, n_leF, n_ltT, n_ltF, n_eqT, n_eqF, nI_add, pk_mul, n_sub, z_ldn, z_san, z_bs, z_b2s, z_b3s, z_ocN, z_ocS, z_oxL, z_oxR, z_scL, z_scR, ↓reduceIte, st_170, st_171, st_172, st_173, Nat.zero_add, Nat.add_zero, Nat.zero_lt_succ, true_and, and_true, fX7_slotOf_L1, if_pos hs])
  have e2 : z_loop (fun q : Int32 × Int32 => fX7_slotOf_L1 169 (nI (S (2394 + s) - 1)) M q.1 q.2) z_FU (-1, 0) = some (nI s) := e
  rw [e2]
  rfl
theorem mSlot_no {M : zM} {S : Nat → Nat} (hN : ∀ k, k < 2430 → M (169 + 1) k = nI (S k)) (hb : ∀ s, s < 12 → S (2394 + s) < 2 ^ 30) {a : Int32} (h : ∀ s, s < 12 → S (2394 + s) ≠ 0 → a ≠ nI (S (2394 + s) - 1)) : fX7_slotOf 169 a M = some (-nI 1) := by
  unfold fX7_slotOf
  have e := z_loopC (f := fun q : Int32 × Int32 => fX7_slotOf_L1 169 a M q.1 q.2) (fun i => (-nI 1, nI i)) 12 (-nI 1) (by decide) (fun i hi12 => by
    by_cases h1 : a < 0
    · have h1' : (a < nI 0) = True := eq_true h1
      simp (disch := first | omega | assumption) only [l_0, l_1, l_2, l_3, l_4, l_5, l_6, l_7, l_8, l_11, l_12, l_15, l_16, l_31, l_32, l_66, l_80, l_100, l_127, l_128, l_768, l_2304, l_2310, l_2316, l_2388, l_2394, l_2406, l_2418, l_2430, l_2558, l_2686, l_2814, l_2942, l_3070, l_3390, l_3394, l_3395, l_3396, l_3397, n_leT, n_leF, n_ltT, n_ltF, n_eqT, n_eqF, nI_add, pk_mul, n_sub, z_ldn, z_san, z_bs, z_b2s, z_b3s, z_ocN, z_ocS, z_oxL, z_oxR, z_scL, z_scR, ↓reduceIte, st_170, st_171, st_172, st_173, Nat.zero_add, Nat.add_zero, Nat.zero_lt_succ, true_and, and_true, fX7_slotOf_L1, h1']
    · have h1' : (a < nI 0) = False := eq_false h1
      have hq : (nI (S (2394 + i)) = a + nI 1) = False := eq_false (fun q => by
        obtain ⟨j, hj, rfl⟩ := nI_of h1
        rw [nI_add] at q
        have hb1 := hb i hi12
        by_cases hj2 : j + 1 < 2 ^ 31
        · have := (nI_eq (by omega) hj2).mp q
          exact h i hi12 (by omega) (by rw [this]; rfl)
        · have hj3 : j = 2147483647 := by omega
          subst hj3
          have h9 : (nI (S (2394 + i))).toInt = (nI (2147483647 + 1)).toInt := by rw [q]
          rw [nI_toInt (by omega)] at h9
          have h8 : (nI (2147483647 + 1)).toInt = -2147483648 := by decide
          omega)
      simp (disch := first | omega | assumption) only [l_0, l_1, l_2, l_3, l_4, l_5, l_6, l_7, l_8, l_11, l_12, l_15, l_16, l_31, l_32, l_66, l_80, l_100, l_127, l_128, l_768, l_2304, l_2310, l_2316, l_2388, l_2394, l_2406, l_2418, l_2430, l_2558, l_2686, l_2814, l_2942, l_3070, l_3390, l_3394, l_3395, l_3396, l_3397, n_leT, n_leF, n_ltT, n_ltF, n_eqT, n_eqF, nI_add, pk_mul, n_sub, z_ldn, z_san, z_bs, z_b2s, z_b3s, z_ocN, z_ocS, z_oxL, z_oxR, z_scL, z_scR, ↓reduceIte, st_170, st_171, st_172, st_173, Nat.zero_add, Nat.add_zero, Nat.zero_lt_succ, true_and, and_true, fX7_slotOf_L1, h1', hN, hq]) (by simp (disch := first | omega | assumption) only [l_0, l_1, l_2, l_3, l_4, l_5, l_6, l_7, l_8, l_11, l_12, l_15, l_16, l_31, l_32, l_66, l_80, l_100, l_127, l_128, l_768, l_2304, l_2310, l_2316, l_2388, l_2394, l_2406, l_2418, l_2430, l_2558, l_2686, l_2814, l_2942, l_3070, l_3390, l_3394, l_3395, l_3396, l_3397, n_leT, n_leF, n_ltT, n_ltF, n_eqT, n_eqF, nI_add, pk_mul, n_sub, z_ldn, z_san, z_bs, z_b2s, z_b3s, z_ocN, z_ocS, z_oxL, z_oxR, z_scL, z_scR, ↓reduceIte, st_170, st_171, st_172, st_173, Nat.zero_add, Nat.add_zero, Nat.zero_lt_succ, true_and, and_true, fX7_slotOf_L1])
  have e2 : z_loop (fun q : Int32 × Int32 => fX7_slotOf_L1 169 a M q.1 q.2) z_FU (-1, 0) = some (-nI 1) := e
  rw [e2]
  rfl
theorem mFits0 {M : zM} : fX7_fits 169 (nI 1) (nI 1) M = some (nI 1, z_st M 169 4 (nI 0)) := by
  unfold fX7_fits
  simp (disch := first | omega | assumption) only [l_0, l_1, l_2, l_3, l_4, l_5, l_6, l_7, l_8, l_11, l_12, l_15, l_16, l_31, l_32, l_66, l_80, l_100, l_127, l_128, l_768, l_2304, l_2310, l_2316, l_2388, l_2394, l_2406, l_2418, l_2430, l_2558, l_2686, l_2814, l_2942, l_3070, l_3390, l_3394, l_3395, l_3396, l_3397, n_leT, n_leF, n_ltT, n_ltF, n_eqT, n_eqF, nI_add, pk_mul, n_sub, z_ldn, z_san, z_bs, z_b2s, z_b3s, z_ocN, z_ocS, z_oxL, z_oxR, z_scL, z_scR, ↓reduceIte, st_170, st_171, st_172, st_173, Nat.zero_add, Nat.add_zero, Nat.zero_lt_succ, true_and, and_true, s_s, u_s]
theorem mFits1 {M : zM} {s : Int32} : fX7_fits 169 (nI 0) s M = some (nI 0, z_st M 169 4 (nI 1)) := by
  unfold fX7_fits
  simp (disch := first | omega | assumption) only [l_0, l_1, l_2, l_3, l_4, l_5, l_6, l_7, l_8, l_11, l_12, l_15, l_16, l_31, l_32, l_66, l_80, l_100, l_127, l_128, l_768, l_2304, l_2310, l_2316, l_2388, l_2394, l_2406, l_2418, l_2430, l_2558, l_2686, l_2814, l_2942, l_3070, l_3390, l_3394, l_3395, l_3396, l_3397, n_leT, n_leF, n_ltT, n_ltF, n_eqT, n_eqF, nI_add, pk_mul, n_sub, z_ldn, z_san, z_bs, z_b2s, z_b3s, z_ocN, z_ocS, z_oxL, z_oxR, z_scL, z_scR, ↓reduceIte, st_170, st_171, st_172, st_173, Nat.zero_add, Nat.add_zero, Nat.zero_lt_succ, true_and, and_true, s_s, u_s]
theorem mFits2 {M : zM} : fX7_fits 169 (nI 1) (nI 0) M = some (nI 0, z_st M 169 4 (nI 2)) := by
  unfold fX7_fits
  simp (disch := first | omega | assumption) only [l_0, l_1, l_2, l_3, l_4, l_5, l_6, l_7, l_8, l_11, l_12, l_15, l_16, l_31, l_32, l_66, l_80, l_100, l_127, l_128, l_768, l_2304, l_2310, l_2316, l_2388, l_2394, l_2406, l_2418, l_2430, l_2558, l_2686, l_2814, l_2942, l_3070, l_3390, l_3394, l_3395, l_3396, l_3397, n_leT, n_leF, n_ltT, n_ltF, n_eqT, n_eqF, nI_add, pk_mul, n_sub, z_ldn, z_san, z_bs, z_b2s, z_b3s, z_ocN, z_ocS, z_oxL, z_oxR, z_scL, z_scR, ↓reduceIte, st_170, st_171, st_172, st_173, Nat.zero_add, Nat.add_zero, Nat.zero_lt_succ, true_and, and_true, s_s, u_s]
