/-! ===== snapshot ===== -/
theorem cUs {M : zM} {S : Nat → Nat} (hR : R_sn 1 M S) : (∃ s, s < 12 ∧ S (2394 + s) = 0 ∧ (∀ j, j < s → S (2394 + j) ≠ 0) ∧ fX5_unusedSnapshot 1 M = some (some (1 + 27 + 3 * s))) ∨ ((∀ s, s < 12 → S (2394 + s) ≠ 0) ∧ fX5_unusedSnapshot 1 M = some none) := by
  unfold fX5_unusedSnapshot
  rcases z_loopW (f := fun s : Int32 => fX5_unusedSnapshot_L1 1 M s) (fun i => S (2394 + i) = 0) (fun i => (Sum.inr (some (1 + 27 + 3 * i)) : Unit ⊕ Option Nat)) (Sum.inl ()) 0 12 (by decide) (s := 0) rfl (fun i _ => Classical.em _) (fun i hi q => by
    have e := z_lq12 (V := 1) hi
    have c1 := (hR i hi).1
    rw [if_neg q] at c1
    simp (disch := first | omega | assumption) only [l_0, l_1, l_2, l_3, l_4, l_5, l_6, l_7, l_8, l_11, l_12, l_15, l_16, l_31, l_32, l_66, l_80, l_100, l_127, l_128, l_768, l_2304, l_2310, l_2316, l_2388, l_2394, l_2406, l_2418, l_2430, l_2558, l_2686, l_2814, l_2942, l_3070, l_3390, l_3394, l_3395, l_3396, l_3397, n_leT, n_leF, n_ltT, n_ltF, n_eqT, n_eqF, nI_add, pk_mul, n_sub, z_ldn, z_san, z_bs, z_b2s, z_b3s, z_ocN, z_ocS, z_oxL, z_oxR, z_scL, z_scR, ↓reduceIte, st_170, st_171, st_172, st_173, Nat.zero_add, Nat.add_zero, Nat.zero_lt_succ, true_and, and_true, eq_self, fX5_unusedSnapshot_L1, e, c1]) (fun i hi q => by
    have e := z_lq12 (V := 1) hi
    have c1 := (hR i hi).1
    rw [if_pos q] at c1
    simp (disch := first | omega | assumption) only [l_0, l_1, l_2, l_3, l_4, l_5, l_6, l_7, l_8, l_11, l_12, l_15, l_16, l_31, l_32, l_66, l_80, l_100, l_127, l_128, l_768, l_2304, l_2310, l_2316, l_2388, l_2394, l_2406, l_2418, l_2430, l_2558, l_2686, l_2814, l_2942, l_3070, l_3390, l_3394, l_3395, l_3396, l_3397, n_leT, n_leF, n_ltT, n_ltF, n_eqT, n_eqF, nI_add, pk_mul, n_sub, z_ldn, z_san, z_bs, z_b2s, z_b3s, z_ocN, z_ocS, z_oxL, z_oxR, z_scL, z_scR, ↓reduceIte, st_170, st_171, st_172, st_173, Nat.zero_add, Nat.add_zero, Nat.zero_lt_succ, true_and, and_true, eq_self, fX5_unusedSnapshot_L1, e, c1]) (by simp (disch := first | omega | assumption) only [l_0, l_1, l_2, l_3, l_4, l_5, l_6, l_7, l_8, l_11, l_12, l_15, l_16, l_31, l_32, l_66, l_80, l_100, l_127, l_128, l_768, l_2304, l_2310, l_2316, l_2388, l_2394, l_2406, l_2418, l_2430, l_2558, l_2686, l_2814, l_2942, l_3070, l_3390, l_3394, l_3395, l_3396, l_3397, n_leT, n_leF, n_ltT, n_ltF, n_eqT, n_eqF, nI_add, pk_mul, n_sub, z_ldn, z_san, z_bs, z_b2s, z_b3s, z_ocN, z_ocS, z_oxL, z_oxR, z_scL, z_scR, ↓reduceIte, st_170, st_171, st_172, st_173, Nat.zero_add, Nat.add_zero, Nat.zero_lt_succ, true_and, and_true, eq_self, fX5_unusedSnapshot_L1]) with ⟨i, h1, h2, h3, h4⟩ | ⟨h1, h2⟩
  · exact Or.inl ⟨i, h1, h2, h3, by rw [h4]; rfl⟩
  · exact Or.inr ⟨h1, by rw [h2]; rfl⟩
/-- the lowest slot that is free among the last i, or 12 -/
def lfS (S : Nat → Nat) : Nat → Nat
  | 0 => 12
  | i + 1 => if S (2394 + (11 - i)) = 0 then 11 - i else lfS S i
def lfv (x : Nat) : Int32 := if x = 12 then -nI 1 else nI x
theorem lfS_s {S : Nat → Nat} {s : Nat} (hs : s < 12) (h0 : S (2394 + s) = 0) (h1 : ∀ j, j < s → S (2394 + j) ≠ 0) : ∀ k, k ≤ s → lfS S (12 - s + k) = s
  | 0, _ => by
    rw [Nat.add_zero, show 12 - s = (11 - s) + 1 by omega]
    unfold lfS
    rw [show 11 - (11 - s) = s by omega, if_pos h0]
  | k + 1, hk => by
    have ih := lfS_s hs h0 h1 k (by omega)
    rw [show 12 - s + (k + 1) = (12 - s + k) + 1 by omega]
    unfold lfS
    rw [if_neg (h1 _ (by omega)), ih]
theorem lfS_n {S : Nat → Nat} (h1 : ∀ j, j < 12 → S (2394 + j) ≠ 0) : ∀ k, k ≤ 12 → lfS S k = 12
  | 0, _ => rfl
  | k + 1, hk => by
    have ih := lfS_n h1 k (by omega)
    unfold lfS
    rw [if_neg (h1 _ (by omega)), ih]
theorem mFs {M : zM} {S : Nat → Nat} (hN : ∀ k, k < 2430 → M (169 + 1) k = nI (S k)) (hb : ∀ s, s < 12 → S (2394 + s) < 2 ^ 30) : z_loop (fun s : Int32 × Int32 => fX7_snapshot_L1 169 M s.1 s.2) z_FU (-nI 1, nI 11) = some (lfv (lfS S 12)) := by
  have hl := z_loopC (f := fun s : Int32 × Int32 => fX7_snapshot_L1 169 M s.1 s.2) (fun i => (lfv (lfS S i), nI (12 - i) - nI 1)) 12 (lfv (lfS S 12)) (by decide) (fun i hi => by
    have e1 : nI (12 - i) - nI 1 = nI (11 - i) := by rw [n_sub (by omega)]; congr 1; omega
    have e2 : nI (11 - i) + -nI 1 = nI (12 - (i + 1)) - nI 1 := by rw [← Int32.sub_eq_add_neg]; congr 2; omega
    have hbi := hb (11 - i) (by omega)
    show fX7_snapshot_L1 169 M (lfv (lfS S i)) (nI (12 - i) - nI 1) = some (Sum.inl (lfv (if S (2394 + (11 - i)) = 0 then 11 - i else lfS S i), nI (12 - (i + 1)) - nI 1))
    rw [e1, ← e2]
    by_cases q : S (2394 + (11 - i)) = 0
    · have e3 : lfv (11 - i) = nI (11 - i) := if_neg (by omega)
      rw [if_pos q, e3]
      simp (disch := first | omega | assumption) only [l_0, l_1, l_2, l_3, l_4, l_5, l_6, l_7, l_8, l_11, l_12, l_15, l_16, l_31, l_32, l_66, l_80, l_100, l_127, l_128, l_768, l_2304, l_2310, l_2316, l_2388, l_2394, l_2406, l_2418, l_2430, l_2558, l_2686, l_2814, l_2942, l_3070, l_3390, l_3394, l_3395, l_3396, l_3397, n_leT, n_leF, n_ltT, n_ltF, n_eqT, n_eqF, nI_add, pk_mul, n_sub, z_ldn, z_san, z_bs, z_b2s, z_b3s, z_ocN, z_ocS, z_oxL, z_oxR, z_scL, z_scR, ↓reduceIte, st_170, st_171, st_172, st_173, Nat.zero_add, Nat.add_zero, Nat.zero_lt_succ, true_and, and_true, eq_self, fX7_snapshot_L1, hN, q]
    · rw [if_neg q]
      simp (disch := first | omega | assumption) only [l_0, l_1, l_2, l_3, l_4, l_5, l_6, l_7, l_8, l_11, l_12, l_15, l_16, l_31, l_32, l_66, l_80, l_100, l_127, l_128, l_768, l_2304, l_2310, l_2316, l_2388, l_2394, l_2406, l_2418, l_2430, l_2558, l_2686, l_2814, l_2942, l_3070, l_3390, l_3394, l_3395, l_3396, l_3397, n_leT, n_leF, n_ltT, n_ltF, n_eqT, n_eqF, nI_add, pk_mul, n_sub, z_ldn, z_san, z_bs, z_b2s, z_b3s, z_ocN, z_ocS, z_oxL, z_oxR, z_scL, z_scR, ↓reduceIte, st_170, st_171, st_172, st_173, Nat.zero_add, Nat.add_zero, Nat.zero_lt_succ, true_and, and_true, eq_self, fX7_snapshot_L1, hN]) (by
    show fX7_snapshot_L1 169 M (lfv (lfS S 12)) (nI 0 - nI 1) = _
    simp (disch := first | omega | assumption) only [l_0, l_1, l_2, l_3, l_4, l_5, l_6, l_7, l_8, l_11, l_12, l_15, l_16, l_31, l_32, l_66, l_80, l_100, l_127, l_128, l_768, l_2304, l_2310, l_2316, l_2388, l_2394, l_2406, l_2418, l_2430, l_2558, l_2686, l_2814, l_2942, l_3070, l_3390, l_3394, l_3395, l_3396, l_3397, n_leT, n_leF, n_ltT, n_ltF, n_eqT, n_eqF, nI_add, pk_mul, n_sub, z_ldn, z_san, z_bs, z_b2s, z_b3s, z_ocN, z_ocS, z_oxL, z_oxR, z_scL, z_scR, ↓reduceIte, st_170, st_171, st_172, st_173, Nat.zero_add, Nat.add_zero, Nat.zero_lt_succ, true_and, and_true, eq_self, fX7_snapshot_L1, n_m0a])
  exact hl
theorem own11 {n : Nat} {S : Nat → Nat} (hI : z_I n S) {d s : Nat} (hd : d < 6) (hs : s < 12) (h0 : S (2394 + s) = 0) : S (2388 + d) ≤ 11 := by
  have e := sumN_ch (g := z_own S d) (g' := fun i => if i = s then 1 else z_own S d i) (k := s) (n := 12) hs (fun i hi hne => if_neg hne)
  rw [z_own_cnt hI hd] at e
  have e1 : z_own S d s = 0 := if_neg (fun x => x.1 h0)
  have e2 : (if s = s then 1 else z_own S d s) = 1 := if_pos rfl
  have e3 : sumN (fun i => if i = s then 1 else z_own S d i) 12 ≤ 1 * 12 := sumN_le (fun i hi => by
    by_cases q : i = s
    · rw [if_pos q]
      exact Nat.le_refl _
    · rw [if_neg q]
      unfold z_own
      split <;> omega)
  omega
def snS (S : Nat → Nat) (d s c : Nat) : Nat → Nat := rngN (updN (updN (updN (updN (updN (updN S 3394 (S 3394 + 1)) (2394 + s) (S 3394 + 1)) (2406 + s) (S 3395)) (2418 + s) d) (2316 + 12 * d + c) s) (2388 + d) (c + 1)) (768 + 128 * s) 128 (fun p => S (128 * d + p))
section
variable {S : Nat → Nat} {d s c : Nat}
theorem sn_T (hd : d < 6) (hs : s < 12) (hc : c ≤ 11) {k : Nat} (hk : k < 2304) : snS S d s c k = if 768 + 128 * s ≤ k ∧ k < 768 + 128 * s + 128 then S (128 * d + (k - (768 + 128 * s))) else S k := by
  unfold snS
  by_cases q : 768 + 128 * s ≤ k ∧ k < 768 + 128 * s + 128
  · rw [rng_in q.1 q.2, if_pos q]
  · rw [rng_out (by omega), if_neg q, upN_n (by omega), upN_n (by omega), upN_n (by omega), upN_n (by omega), upN_n (by omega), upN_n (by omega)]
theorem sn_E (hd : d < 6) (hs : s < 12) (hc : c ≤ 11) {k : Nat} (h1 : (2304 ≤ k ∧ k < 2316) ∨ (2430 ≤ k ∧ k ≠ 3394)) : snS S d s c k = S k := by
  unfold snS
  rw [rng_out (by omega), upN_n (by omega), upN_n (by omega), upN_n (by omega), upN_n (by omega), upN_n (by omega), upN_n (by omega)]
theorem sn_9 (hd : d < 6) (hs : s < 12) (hc : c ≤ 11) : snS S d s c 3394 = S 3394 + 1 := by
  unfold snS
  rw [rng_out (by omega), upN_n (by omega), upN_n (by omega), upN_n (by omega), upN_n (by omega), upN_n (by omega), upN_s]
theorem sn_O (hd : d < 6) (hs : s < 12) (hc : c ≤ 11) {e r : Nat} (he : e < 6) (hr : r < 12) : z_ord (snS S d s c) e r = if e = d ∧ r = c then s else z_ord S e r := by
  unfold snS z_ord
  rw [rng_out (by omega), upN_n (by omega)]
  by_cases q : e = d ∧ r = c
  · rw [if_pos q, q.1, q.2, upN_s]
  · rw [if_neg q, upN_n (by omega), upN_n (by omega), upN_n (by omega), upN_n (by omega), upN_n (by omega)]
theorem sn_C (hd : d < 6) (hs : s < 12) (hc : c ≤ 11) {e : Nat} (he : e < 6) : snS S d s c (2388 + e) = if e = d then c + 1 else S (2388 + e) := by
  unfold snS
  rw [rng_out (by omega)]
  by_cases q : e = d
  · rw [if_pos q, q, upN_s]
  · rw [if_neg q, upN_n (by omega), upN_n (by omega), upN_n (by omega), upN_n (by omega), upN_n (by omega), upN_n (by omega)]
theorem sn_N (hd : d < 6) (hs : s < 12) (hc : c ≤ 11) {t : Nat} (ht : t < 12) : snS S d s c (2394 + t) = if t = s then S 3394 + 1 else S (2394 + t) := by
  unfold snS
  rw [rng_out (by omega), upN_n (by omega), upN_n (by omega), upN_n (by omega), upN_n (by omega)]
  by_cases q : t = s
  · rw [if_pos q, q, upN_s]
  · rw [if_neg q, upN_n (by omega), upN_n (by omega)]
theorem sn_X (hd : d < 6) (hs : s < 12) (hc : c ≤ 11) {t : Nat} (ht : t < 12) : snS S d s c (2406 + t) = if t = s then S 3395 else S (2406 + t) := by
  unfold snS
  rw [rng_out (by omega), upN_n (by omega), upN_n (by omega), upN_n (by omega)]
  by_cases q : t = s
  · rw [if_pos q, q, upN_s]
  · rw [if_neg q, upN_n (by omega), upN_n (by omega), upN_n (by omega)]
theorem sn_W (hd : d < 6) (hs : s < 12) (hc : c ≤ 11) {t : Nat} (ht : t < 12) : snS S d s c (2418 + t) = if t = s then d else S (2418 + t) := by
  unfold snS
  rw [rng_out (by omega), upN_n (by omega), upN_n (by omega)]
  by_cases q : t = s
  · rw [if_pos q, q, upN_s]
  · rw [if_neg q, upN_n (by omega), upN_n (by omega), upN_n (by omega), upN_n (by omega)]
end
theorem sn_Is {n : Nat} {S : Nat → Nat} (hI : z_I n S) {d s c : Nat} (hd : d < 6) (hdx : S (2304 + d) = 1) (hs : s < 12) (h0 : S (2394 + s) = 0) (hcc : c = S (2388 + d)) : z_Is (n + 1) (snS S d s c) := by
  have hc : c ≤ 11 := by rw [hcc]; exact own11 hI hd hs h0
  obtain ⟨i1, i2, i3, i4, i5, i6, i7, i8, i9, j1, j2, j3, j5⟩ := hI.1
  have eE := fun {k : Nat} (h : (2304 ≤ k ∧ k < 2316) ∨ (2430 ≤ k ∧ k ≠ 3394)) => sn_E (S := S) hd hs hc h
  have eO := fun {e r : Nat} (he : e < 6) (hr : r < 12) => sn_O (S := S) hd hs hc he hr
  have eC := fun {e : Nat} (he : e < 6) => sn_C (S := S) hd hs hc he
  have eN := fun {t : Nat} (ht : t < 12) => sn_N (S := S) hd hs hc ht
  have eX := fun {t : Nat} (ht : t < 12) => sn_X (S := S) hd hs hc ht
  have eW := fun {t : Nat} (ht : t < 12) => sn_W (S := S) hd hs hc ht
  have e9 := sn_9 (S := S) hd hs hc
  have hnb : ∀ t, t < 12 → S (2394 + t) ≤ S 3394 := fun t ht => by
    by_cases q : S (2394 + t) = 0
    · omega
    · exact (i4 t ht q).1
  have hlv : ∀ e r, e < 6 → r < S (2388 + e) → z_ord S e r < 12 ∧ S (2394 + z_ord S e r) ≠ 0 ∧ S (2418 + z_ord S e r) = e ∧ z_ord S e r ≠ s := fun e r he hr => by
    obtain ⟨k1, k2, k3⟩ := (i6 e he).2 r hr
    exact ⟨k1, k2, k3, fun x => k2 (by rw [x]; exact h0)⟩
  refine ⟨fun e he => by rw [eE (by omega)]; exact i1 e he, ?_, fun e he => ?_, fun t ht q => ?_, fun t u ht hu q q2 => ?_, fun e he => ?_, fun e he r q hr hq => ?_, fun e he => ?_, fun r hr => by rw [eE (by omega)]; exact i9 r hr, by rw [e9]; omega, by rw [eE (by omega)]; omega, by rw [eE (by omega)]; omega, fun t ht => by
    rw [eX ht]
    have := j5 t ht
    split <;> omega⟩
  · obtain ⟨e, he, q⟩ := i2
    exact ⟨e, he, by rw [eE (by omega)]; exact q⟩
  · rw [eE (by omega), eE (by omega), eC he]
    intro q
    have hne : e ≠ d := fun x => by rw [x] at q; omega
    rw [if_neg hne]
    exact i3 e he q
  · unfold z_liv
    rw [eN ht] at q
    rw [eN ht, eW ht, e9]
    by_cases y : t = s
    · rw [if_pos y, if_pos y]
      refine ⟨Nat.le_refl _, hd, by rw [eE (by omega)]; exact hdx, c, by rw [eC hd, if_pos rfl]; omega, ?_⟩
      rw [eO hd (by omega), if_pos ⟨rfl, rfl⟩, y]
    · rw [if_neg y] at q
      rw [if_neg y, if_neg y]
      obtain ⟨q1, q2, q3, r, q4, q5⟩ := i4 t ht q
      have r12 := (i6 _ q2).1
      refine ⟨by omega, q2, by rw [eE (by omega)]; exact q3, r, ?_, ?_⟩
      · rw [eC q2]
        by_cases z : S (2418 + t) = d
        · rw [if_pos z, hcc]
          rw [z] at q4
          omega
        · rw [if_neg z]
          exact q4
      · rw [eO q2 (by omega), if_neg (fun z => by
          have z2 := z.2
          rw [z.1] at q4
          omega)]
        exact q5
  · rw [eN ht] at q q2
    rw [eN hu] at q2
    have hu2 := hnb u hu
    have ht2 := hnb t ht
    by_cases y : t = s
    · by_cases y2 : u = s
      · rw [y, y2]
      · rw [if_pos y, if_neg y2] at q2
        omega
    · by_cases y2 : u = s
      · rw [if_neg y, if_pos y2] at q2
        omega
      · rw [if_neg y] at q q2
        rw [if_neg y2] at q2
        exact i5 t u ht hu q q2
  · rw [eC he]
    have r12 := (i6 e he).1
    refine ⟨by split <;> omega, fun r hr => ?_⟩
    by_cases y : e = d ∧ r = c
    · rw [eO he (by omega), if_pos y, eN hs, if_pos rfl, eW hs, if_pos rfl, y.1]
      exact ⟨hs, by omega, rfl⟩
    · have hr2 : r < S (2388 + e) := by
        by_cases z : e = d
        · rw [if_pos z] at hr
          rw [z, ← hcc]
          have : r ≠ c := fun w => y ⟨z, w⟩
          omega
        · rw [if_neg z] at hr
          exact hr
      obtain ⟨k1, k2, k3, k4⟩ := hlv e r he hr2
      rw [eO he (by omega), if_neg y, eN k1, if_neg k4, eW k1, if_neg k4]
      exact ⟨k1, k2, k3⟩
  · rw [eC he] at hq
    have r12 := (i6 e he).1
    have hr2 : r < S (2388 + e) := by
      by_cases z : e = d
      · rw [if_pos z] at hq
        rw [z, ← hcc]
        omega
      · rw [if_neg z] at hq
        omega
    obtain ⟨k1, k2, k3, k4⟩ := hlv e r he hr2
    have y1 : ¬ (e = d ∧ r = c) := fun w => by
      rw [w.1, ← hcc] at hr2
      have := w.2
      omega
    rw [eO he (by omega), if_neg y1, eN k1, if_neg k4]
    by_cases y : e = d ∧ q = c
    · rw [eO he (by omega), if_pos y, eN hs, if_pos rfl]
      have := hnb _ k1
      omega
    · have hq2 : q < S (2388 + e) := by
        by_cases z : e = d
        · rw [if_pos z] at hq
          rw [z, ← hcc]
          have : q ≠ c := fun w => y ⟨z, w⟩
          omega
        · rw [if_neg z] at hq
          exact hq
      obtain ⟨l1, l2, l3, l4⟩ := hlv e q he hq2
      rw [eO he (by omega), if_neg y, eN l1, if_neg l4]
      exact i7 e he r q hr hq2
  · rw [eE (by omega), eC he]
    obtain ⟨m1, m2⟩ := i8 e he
    refine ⟨m1, fun q => ?_⟩
    obtain ⟨m3, m4⟩ := m2 q
    have hos : S (2310 + e) - 1 ≠ s := fun x => m3 (by rw [x]; exact h0)
    rw [eN (by omega), if_neg hos]
    refine ⟨m3, fun r hr => ?_⟩
    have r12 := (i6 e he).1
    by_cases y : e = d ∧ r = c
    · rw [eO he (by omega), if_pos y, eN hs, if_pos rfl]
      have := hnb (S (2310 + e) - 1) (by omega)
      omega
    · have hr2 : r < S (2388 + e) := by
        by_cases z : e = d
        · rw [if_pos z] at hr
          rw [z, ← hcc]
          have : r ≠ c := fun w => y ⟨z, w⟩
          omega
        · rw [if_neg z] at hr
          exact hr
      obtain ⟨k1, k2, k3, k4⟩ := hlv e r he hr2
      rw [eO he (by omega), if_neg y, eN k1, if_neg k4]
      exact m4 r hr2
