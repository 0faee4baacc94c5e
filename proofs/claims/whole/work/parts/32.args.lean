/-! ===== the calls' arguments, on both sides ===== -/
theorem c_lt0 {a : Int32} : (a < 0) = (a < nI 0) := rfl
theorem i_cases (a : Int32) (n : Nat) (hn : n < 2 ^ 31) : (∃ j, j < n ∧ a = nI j) ∨ (¬ (nI 0 ≤ a ∧ a < nI n)) := by
  rcases n_ix a hn with h | h | h
  · exact Or.inr (fun q => absurd q.1 (Int32.not_le.mpr h))
  · exact Or.inr (fun q => absurd q.2 (Int32.not_lt.mpr h))
  · exact Or.inl h
/-- an int that is one of the first n numbers -/
def z_is (a : Int32) (n : Nat) : Prop := ∃ j, j < n ∧ a = nI j
theorem z_is_iff {a : Int32} {n : Nat} (hn : n < 2 ^ 31) : z_is a n ↔ nI 0 ≤ a ∧ a < nI n := by
  constructor
  · rintro ⟨j, hj, rfl⟩
    exact ⟨(nI_leI (by decide) (by omega)).mpr (Nat.zero_le j), (nI_ltI (by omega) hn).mpr hj⟩
  · intro h
    rcases i_cases a n hn with q | q
    · exact q
    · exact absurd h q
theorem z_not {a : Int32} {n : Nat} (hn : n < 2 ^ 31) (h : ¬ z_is a n) : a < nI 0 ∨ nI n ≤ a := by
  rcases n_ix a hn with q | q | q
  · exact Or.inl q
  · exact Or.inr q
  · exact absurd q h
-- the class
theorem cPl_ok {M : zM} {f i : Nat} (hf : f < 8) (hi : i < 16) : fX6_placeOrThrow (nI f) (nI i) M = some (.inr (nI (16 * f + i))) := by
  unfold fX6_placeOrThrow
  rw [if_neg (nI_pos (by omega)), if_pos ((nI_ltI (a := f) (b := 8) (by omega) (by decide)).mpr hf), if_neg (nI_pos (by omega)), if_pos ((nI_ltI (a := i) (b := 16) (by omega) (by decide)).mpr hi)]
  rw [show nI f * 16 + nI i = nI (f * 16 + i) from by rw [show (16 : Int32) = nI 16 from rfl, pk_mul, nI_add], Nat.mul_comm f 16]
theorem cPl_no {M : zM} {a c : Int32} (h : ¬ (z_is a 8 ∧ z_is c 16)) : fX6_placeOrThrow a c M = some (.inl "java/lang/IndexOutOfBoundsException") := by
  unfold fX6_placeOrThrow
  by_cases h1 : a < 0
  · rw [if_pos h1]
  · rw [if_neg h1]
    by_cases h2 : a < 8
    · rw [if_pos h2]
      have ha : z_is a 8 := (z_is_iff (by decide)).mpr ⟨Int32.not_lt.mp h1, h2⟩
      by_cases h3 : c < 0
      · rw [if_pos h3]
      · rw [if_neg h3]
        by_cases h4 : c < 16
        · exact absurd ⟨ha, (z_is_iff (by decide)).mpr ⟨Int32.not_lt.mp h3, h4⟩⟩ h
        · rw [if_neg h4]
    · rw [if_neg h2]
theorem cBl_ok {M : zM} {k : Nat} (h : k < 128) : fX6_blockOrThrow (nI k) M = some (.inr ()) := by
  unfold fX6_blockOrThrow
  rw [if_neg (nI_pos (by omega)), if_pos ((nI_ltI (a := k) (b := 128) (by omega) (by decide)).mpr h)]
theorem cBl_no {M : zM} {a : Int32} (h : ¬ z_is a 128) : fX6_blockOrThrow a M = some (.inl "java/lang/IndexOutOfBoundsException") := by
  unfold fX6_blockOrThrow
  by_cases h1 : a < 0
  · rw [if_pos h1]
  · rw [if_neg h1, if_neg (fun h2 => h ((z_is_iff (by decide)).mpr ⟨Int32.not_lt.mp h1, h2⟩))]
theorem cRe_ok {M : zM} {k : Nat} (h : k < 4) : fX6_regionOrThrow (nI k) M = some (.inr ()) := by
  unfold fX6_regionOrThrow
  rw [if_neg (nI_pos (by omega)), if_pos ((nI_ltI (a := k) (b := 4) (by omega) (by decide)).mpr h)]
theorem cRe_no {M : zM} {a : Int32} (h : ¬ z_is a 4) : fX6_regionOrThrow a M = some (.inl "java/lang/IndexOutOfBoundsException") := by
  unfold fX6_regionOrThrow
  by_cases h1 : a < 0
  · rw [if_pos h1]
  · rw [if_neg h1, if_neg (fun h2 => h ((z_is_iff (by decide)).mpr ⟨Int32.not_lt.mp h1, h2⟩))]
theorem cLo_ok {M : zM} {k : Nat} (h : k < 4) : fX6_logOrThrow 0 (nI k) M = some (.inr (1 + 63 + 5 * k)) := by
  unfold fX6_logOrThrow
  rw [if_neg (nI_pos (by omega)), if_pos ((nI_ltI (a := k) (b := 4) (by omega) (by decide)).mpr h), z_lq13 (V := 0 + 1) h, z_bs]
theorem cLo_no {M : zM} {a : Int32} (h : ¬ z_is a 4) : fX6_logOrThrow 0 a M = some (.inl "java/lang/IndexOutOfBoundsException") := by
  unfold fX6_logOrThrow
  by_cases h1 : a < 0
  · rw [if_pos h1]
  · rw [if_neg h1, if_neg (fun h2 => h ((z_is_iff (by decide)).mpr ⟨Int32.not_lt.mp h1, h2⟩))]
theorem cFd_ok {V : Nat} {M : zM} {S : Nat → Nat} (hR : R_ds V M S) {d : Nat} (hd : d < 6) (h : S (2304 + d) = 1) : fX5_findDataset V (nI d) M = some (some (V + 9 + 3 * d)) := by
  unfold fX5_findDataset
  rw [if_neg (nI_pos (by omega)), if_neg (fun q => by have := (nI_leI (a := 6) (b := d) (by decide) (by omega)).mp q; omega), z_lq11 hd, z_bs, (hR d hd).1, h, if_neg (by decide), z_bs]
theorem cFd_no {V : Nat} {M : zM} {S : Nat → Nat} (hR : R_ds V M S) {a : Int32} (h : ∀ d, d < 6 → a = nI d → S (2304 + d) = 0) : fX5_findDataset V a M = some none := by
  unfold fX5_findDataset
  by_cases h1 : a < 0
  · rw [if_pos h1]
  · rw [if_neg h1]
    by_cases h2 : 6 ≤ a
    · rw [if_pos h2]
    · rw [if_neg h2]
      obtain ⟨d, hd, rfl⟩ := (z_is_iff (n := 6) (by decide)).mpr ⟨Int32.not_lt.mp h1, Int32.not_le.mp h2⟩
      rw [z_lq11 hd, z_bs, (hR d hd).1, h d hd rfl, if_pos rfl]
theorem kd_ds {V d : Nat} (hV : z_kd V = 5) (hd : d < 6) : z_kd (V + 9 + 3 * d) = 0 := (z_vd hV hd).1
theorem kd_sn {V s : Nat} (hV : z_kd V = 5) (hs : s < 12) : z_kd (V + 27 + 3 * s) = 2 := z_vs hV hs
theorem kd_lg {V r : Nat} (hV : z_kd V = 5) (hr : r < 4) : z_kd (V + 63 + 5 * r) = 1 := (z_vl hV hr).1
theorem cDs_ok {M : zM} {S : Nat → Nat} (hR : R_ds 1 M S) {d : Nat} (hd : d < 6) (h : S (2304 + d) = 1) : fX6_datasetOrThrow 0 (nI d) M = some (.inr (1 + 9 + 3 * d)) := by
  unfold fX6_datasetOrThrow
  rw [cFd_ok (V := 0 + 1) hR hd h, z_bs, z_ocS, z_gdp (kd_ds (V := 1) rfl hd)]
theorem cDs_no {M : zM} {S : Nat → Nat} (hR : R_ds 1 M S) {a : Int32} (h : ∀ d, d < 6 → a = nI d → S (2304 + d) = 0) : fX6_datasetOrThrow 0 a M = some (.inl "java/lang/IndexOutOfBoundsException") := by
  unfold fX6_datasetOrThrow
  rw [cFd_no (V := 0 + 1) hR h, z_bs, z_ocN]
theorem cFs_ok {V : Nat} {M : zM} {S : Nat → Nat} (hR : R_sn V M S) (hi : ∀ s t, s < 12 → t < 12 → S (2394 + s) ≠ 0 → S (2394 + s) = S (2394 + t) → s = t) (hb : ∀ s, s < 12 → S (2394 + s) < 2 ^ 30) {s : Nat} (hs : s < 12) (h : S (2394 + s) ≠ 0) : fX5_findSnapshot V (nI (S (2394 + s) - 1)) M = some (some (V + 27 + 3 * s)) := by
  unfold fX5_findSnapshot
  obtain ⟨r, h1, h2⟩ := z_loopF (f := fun s9 => fX5_findSnapshot_L1 V (nI (S (2394 + s) - 1)) M s9) (fun i x => x = nI i ∧ i ≤ s) (fun r => r = .inr (some (V + 27 + 3 * s))) 12 (by decide) (s := 0) (fun i x hi9 hI => by
    obtain ⟨rfl, hle⟩ := hI
    have hi12 : i < 12 := by omega
    show (i < 12 ∧ ∃ s', fX5_findSnapshot_L1 V (nI (S (2394 + s) - 1)) M (nI i) = some (.inl s') ∧ _) ∨ ∃ r, fX5_findSnapshot_L1 V (nI (S (2394 + s) - 1)) M (nI i) = some (.inr r) ∧ _
    unfold fX5_findSnapshot_L1
    rw [if_neg (fun q => by have := (nI_leI (a := 12) (b := i) (by decide) (by omega)).mp q; omega), z_lq12 hi12, z_bs, (hR i hi12).1]
    by_cases he : S (2394 + i) = 0
    · rw [if_pos he, if_pos rfl]
      have : i ≠ s := fun q => h (by rw [← q]; exact he)
      exact Or.inl ⟨hi12, _, rfl, nI_1 i, by omega⟩
    · rw [if_neg he, if_neg (by decide), z_bs, ((hR i hi12).2 he).1]
      by_cases hq : i = s
      · subst hq
        rw [if_pos rfl, z_bs]
        exact Or.inr ⟨_, rfl, rfl⟩
      · have hne : S (2394 + i) ≠ S (2394 + s) := fun q => hq (hi i s hi12 hs he q)
        have hb1 := hb i hi12
        have hb2 := hb s hs
        rw [if_neg (n_ne (by omega) (by omega) (by omega))]
        exact Or.inl ⟨hi12, _, rfl, nI_1 i, by omega⟩) ⟨rfl, Nat.zero_le s⟩
  rw [h1, h2]
  rfl
theorem cFs_no {V : Nat} {M : zM} {S : Nat → Nat} (hR : R_sn V M S) {a : Int32} (h : ∀ s, s < 12 → S (2394 + s) ≠ 0 → a ≠ nI (S (2394 + s) - 1)) : fX5_findSnapshot V a M = some none := by
  unfold fX5_findSnapshot
  obtain ⟨r, h1, h2⟩ := z_loopF (f := fun s9 => fX5_findSnapshot_L1 V a M s9) (fun i x => x = nI i) (fun r => r = .inl ()) 12 (by decide) (s := 0) (fun i x hi9 hI => by
    subst hI
    show (i < 12 ∧ ∃ s', fX5_findSnapshot_L1 V a M (nI i) = some (.inl s') ∧ _) ∨ ∃ r, fX5_findSnapshot_L1 V a M (nI i) = some (.inr r) ∧ _
    unfold fX5_findSnapshot_L1
    by_cases hi12 : i < 12
    · rw [if_neg (fun q => by have := (nI_leI (a := 12) (b := i) (by decide) (by omega)).mp q; omega), z_lq12 hi12, z_bs, (hR i hi12).1]
      by_cases he : S (2394 + i) = 0
      · rw [if_pos he, if_pos rfl]
        exact Or.inl ⟨hi12, _, rfl, nI_1 i⟩
      · rw [if_neg he, if_neg (by decide), z_bs, ((hR i hi12).2 he).1, if_neg (fun q => h i hi12 he q.symm)]
        exact Or.inl ⟨hi12, _, rfl, nI_1 i⟩
    · rw [if_pos ((nI_leI (a := 12) (b := i) (by decide) (by omega)).mpr (by omega))]
      exact Or.inr ⟨_, rfl, rfl⟩) rfl
  rw [h1, h2]
  rfl
theorem cSn_ok {M : zM} {S : Nat → Nat} (hR : R_sn 1 M S) (hi : ∀ s t, s < 12 → t < 12 → S (2394 + s) ≠ 0 → S (2394 + s) = S (2394 + t) → s = t) (hb : ∀ s, s < 12 → S (2394 + s) < 2 ^ 30) {s : Nat} (hs : s < 12) (h : S (2394 + s) ≠ 0) : fX6_snapshotOrThrow 0 (nI (S (2394 + s) - 1)) M = some (.inr (1 + 27 + 3 * s)) := by
  unfold fX6_snapshotOrThrow
  rw [cFs_ok (V := 0 + 1) hR hi hb hs h, z_bs, z_ocS, z_gdp (kd_sn (V := 1) rfl hs)]
theorem cSn_no {M : zM} {S : Nat → Nat} (hR : R_sn 1 M S) {a : Int32} (h : ∀ s, s < 12 → S (2394 + s) ≠ 0 → a ≠ nI (S (2394 + s) - 1)) : fX6_snapshotOrThrow 0 a M = some (.inl "java/lang/IndexOutOfBoundsException") := by
  unfold fX6_snapshotOrThrow
  rw [cFs_no (V := 0 + 1) hR h, z_bs, z_ocN]
-- the model
theorem mIn_ok {M : zM} {n hi : Nat} {hI : Int32} (hhi : hI = nI hi) (h : n ≤ hi) (hb : hi < 2 ^ 31) : fX7_in (nI n) 0 hI M = some 1 := by
  unfold fX7_in
  subst hhi
  rw [if_neg (nI_pos (by omega)), if_neg (fun q => by have := (nI_ltI hb (by omega)).mp q; omega)]
theorem mIn_no {M : zM} {a hI : Int32} {hi : Nat} (hhi : hI = nI hi) (hb : hi + 1 < 2 ^ 31) (h : ¬ z_is a (hi + 1)) : fX7_in a 0 hI M = some 0 := by
  unfold fX7_in
  subst hhi
  rcases z_not hb h with q | q
  · rw [if_pos q]
  · by_cases h1 : a < 0
    · rw [if_pos h1]
    · rw [if_neg h1, if_pos]
      exact Int32.lt_of_lt_of_le (nI_lt (by omega) hb) q
theorem mSpot_ok {M : zM} {f i : Nat} (hf : f < 8) (hi : i < 16) : fX7_isSpot (nI f) (nI i) M = some 1 := by
  unfold fX7_isSpot fX7_isFile
  rw [mIn_ok (hi := 7) rfl (by omega) (by decide), z_bs, z_bzp (Or.inr rfl), z_bs, if_neg (by decide), mIn_ok (hi := 15) rfl (by omega) (by decide), z_bs, if_neg (by decide)]
theorem mFile_ok {M : zM} {f : Nat} (hf : f < 8) : fX7_isFile (nI f) M = some 1 := by
  unfold fX7_isFile
  rw [mIn_ok (hi := 7) rfl (by omega) (by decide), z_bs, z_bzp (Or.inr rfl)]
theorem mFile_no {M : zM} {a : Int32} (h : ¬ z_is a 8) : fX7_isFile a M = some 0 := by
  unfold fX7_isFile
  rw [mIn_no (hi := 7) rfl (by decide) h, z_bs, z_bzp (Or.inl rfl)]
theorem mSpot_no {M : zM} {a c : Int32} (h : ¬ (z_is a 8 ∧ z_is c 16)) : fX7_isSpot a c M = some 0 := by
  unfold fX7_isSpot
  by_cases h1 : z_is a 8
  · obtain ⟨f, hf, rfl⟩ := id h1
    rw [mFile_ok hf, z_bs, if_neg (by decide), mIn_no (hi := 15) rfl (by decide) (fun q => h ⟨h1, q⟩), z_bs, if_pos rfl]
  · rw [mFile_no h1, z_bs, if_pos rfl]
theorem mSet_ok {M : zM} {S : Nat → Nat} (hN : z_N (M 170) S) {d : Nat} (hd : d < 6) (h : S (2304 + d) = 1) : fX7_isSet 169 (nI d) M = some 1 := by
  unfold fX7_isSet
  rw [mIn_ok (hi := 5) rfl (by omega) (by decide), z_bs, if_neg (by decide), show (2304 : Int32) + nI d = nI (2304 + d) from nI_add 2304 d, z_ldn (by omega) (by decide), z_bs, show M (169 + 1) (2304 + d) = 1 from (hN.1 _ (by omega)).trans (by rw [h]; rfl), if_pos rfl]
theorem mSet_no {M : zM} {S : Nat → Nat} (hN : z_N (M 170) S) {a : Int32} (h : ∀ d, d < 6 → a = nI d → S (2304 + d) = 0) : fX7_isSet 169 a M = some 0 := by
  unfold fX7_isSet
  by_cases h1 : z_is a 6
  · obtain ⟨d, hd, rfl⟩ := h1
    rw [mIn_ok (hi := 5) rfl (by omega) (by decide), z_bs, if_neg (by decide), show (2304 : Int32) + nI d = nI (2304 + d) from nI_add 2304 d, z_ldn (by omega) (by decide), z_bs, show M (169 + 1) (2304 + d) = 0 from (hN.1 _ (by omega)).trans (by rw [h d hd rfl]; rfl), if_neg (by decide)]
  · rw [mIn_no (hi := 5) rfl (by decide) h1, z_bs, if_pos rfl]
theorem mSlot_ok {M : zM} {S : Nat → Nat} (hN : z_N (M 170) S) (hi : ∀ s t, s < 12 → t < 12 → S (2394 + s) ≠ 0 → S (2394 + s) = S (2394 + t) → s = t) (hb : ∀ s, s < 12 → S (2394 + s) < 2 ^ 30) {s : Nat} (hs : s < 12) (h : S (2394 + s) ≠ 0) : fX7_slotOf 169 (nI (S (2394 + s) - 1)) M = some (nI s) := by
  unfold fX7_slotOf
  have e := z_loopC (f := fun q : Int32 × Int32 => fX7_slotOf_L1 169 (nI (S (2394 + s) - 1)) M q.1 q.2) (fun i => (if s < i then nI s else -1, nI i)) 12 (nI s) (by decide) (fun i hi12 => by
    show fX7_slotOf_L1 169 (nI (S (2394 + s) - 1)) M (if s < i then nI s else -1) (nI i) = _
    unfold fX7_slotOf_L1
    have hb2 := hb s hs
    rw [if_neg (fun q => by have := (nI_leI (a := 12) (b := i) (by decide) (by omega)).mp q; omega), if_neg (nI_pos (by omega)), show (2394 : Int32) + nI i = nI (2394 + i) from nI_add 2394 i, z_ldn (by omega) (by decide), z_bs, show M (169 + 1) (2394 + i) = nI (S (2394 + i)) from hN.1 _ (by omega), nI_1, show S (2394 + s) - 1 + 1 = S (2394 + s) by omega, nI_1]
    have hb1 := hb i hi12
    by_cases hq : i = s
    · subst hq
      rw [if_pos rfl, if_pos (Nat.lt_succ_self i)]
    · have hne : S (2394 + i) ≠ S (2394 + s) := fun q => hq (hi s i hs hi12 h q.symm).symm
      rw [if_neg (n_ne (by omega) (by omega) hne)]
      by_cases hl : s < i
      · rw [if_pos hl, if_pos (by omega)]
      · rw [if_neg hl, if_neg (by omega)]) (by
    show fX7_slotOf_L1 169 (nI (S (2394 + s) - 1)) M (if s < 12 then nI s else -1) (nI 12) = _
    unfold fX7_slotOf_L1
    rw [if_pos (by decide), if_pos hs])
  have e2 : z_loop (fun q : Int32 × Int32 => fX7_slotOf_L1 169 (nI (S (2394 + s) - 1)) M q.1 q.2) z_FU (-1, 0) = some (nI s) := e
  rw [e2]
  rfl
theorem mSlot_no {M : zM} {S : Nat → Nat} (hN : z_N (M 170) S) (hb : ∀ s, s < 12 → S (2394 + s) < 2 ^ 30) {a : Int32} (h : ∀ s, s < 12 → S (2394 + s) ≠ 0 → a ≠ nI (S (2394 + s) - 1)) : fX7_slotOf 169 a M = some (-1) := by
  unfold fX7_slotOf
  have e := z_loopC (f := fun q : Int32 × Int32 => fX7_slotOf_L1 169 a M q.1 q.2) (fun i => (-1, nI i)) 12 (-1) (by decide) (fun i hi12 => by
    show fX7_slotOf_L1 169 a M (-1) (nI i) = _
    unfold fX7_slotOf_L1
    rw [if_neg (fun q => by have := (nI_leI (a := 12) (b := i) (by decide) (by omega)).mp q; omega)]
    by_cases h1 : a < 0
    · rw [if_pos h1, nI_1]
    · rw [if_neg h1, show (2394 : Int32) + nI i = nI (2394 + i) from nI_add 2394 i, z_ldn (by omega) (by decide), z_bs, show M (169 + 1) (2394 + i) = nI (S (2394 + i)) from hN.1 _ (by omega), nI_1]
      rw [if_neg]
      intro q
      obtain ⟨j, hj, rfl⟩ := nI_of h1
      rw [nI_1] at q
      have hb1 := hb i hi12
      by_cases hj2 : j + 1 < 2 ^ 31
      · have := (nI_eq (by omega) hj2).mp q
        exact h i hi12 (by omega) (by rw [this]; rfl)
      · have hj3 : j = 2147483647 := by omega
        subst hj3
        have h9 : (nI (S (2394 + i))).toInt = (nI (2147483647 + 1)).toInt := by rw [q]
        rw [nI_toInt (by omega)] at h9
        have h8 : (nI (2147483647 + 1)).toInt = -2147483648 := by decide
        omega) (by
    show fX7_slotOf_L1 169 a M (-1) (nI 12) = _
    unfold fX7_slotOf_L1
    rw [if_pos (by decide)])
  have e2 : z_loop (fun q : Int32 × Int32 => fX7_slotOf_L1 169 a M q.1 q.2) z_FU (-1, 0) = some (-1) := e
  rw [e2]
  rfl
theorem mFits1 {M : zM} {s : Int32} : fX7_fits 169 0 s M = some (0, z_st M 169 4 1) := by
  unfold fX7_fits
  rw [if_pos rfl, z_bs, z_bs, s_s, u_s, if_neg (by decide)]
theorem mFits2 {M : zM} {k : Int32} (h : ¬ k = 0) : fX7_fits 169 k 0 M = some (0, z_st M 169 4 2) := by
  unfold fX7_fits
  rw [if_neg h, if_pos rfl, z_bs, z_bs, s_s, u_s, if_neg (by decide)]
theorem mFits0 {M : zM} {k s : Int32} (h : ¬ k = 0) (hs : ¬ s = 0) : fX7_fits 169 k s M = some (1, z_st M 169 4 0) := by
  unfold fX7_fits
  rw [if_neg h, if_neg hs, z_bs, z_bs, s_s, u_s, if_pos rfl]
