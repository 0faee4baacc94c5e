/-! ===== dropping a snapshot ===== -/
theorem z_loopR2 {f : Int32 × zM → Option ((Int32 × zM) ⊕ zM)} (k base lo e : Nat) (g : Nat → Int32) (he : e < 4000) {s : Int32} {M : zM} (hs : s = nI lo) (h : ∀ i M', i < e → (∀ a, a ≠ k → M' a = M a) → (∀ j, M' k j = if base ≤ j ∧ j < base + i then g (j - base) else M k j) → f (nI (lo + i), M') = some (.inl (nI (lo + i + 1), z_st M' k (base + i) (g i)))) (hx : ∀ M', (∀ j, M' k j = if base ≤ j ∧ j < base + e then g (j - base) else M k j) → f (nI (lo + e), M') = some (.inr M')) : ∃ M', z_loop f z_FU (s, M) = some M' ∧ (∀ a, a ≠ k → M' a = M a) ∧ ∀ j, M' k j = if base ≤ j ∧ j < base + e then g (j - base) else M k j :=
  z_loopM (f := f) (fun i M' => (∀ a, a ≠ k → M' a = M a) ∧ ∀ j, M' k j = if base ≤ j ∧ j < base + i then g (j - base) else M k j) (fun M' => (∀ a, a ≠ k → M' a = M a) ∧ ∀ j, M' k j = if base ≤ j ∧ j < base + e then g (j - base) else M k j) lo e he hs ⟨fun a _ => rfl, fun j => by rw [if_neg (by omega)]⟩ (fun i M' hi hI => ⟨_, h i M' hi hI.1 hI.2, fun a ha => by rw [s_n ha]; exact hI.1 a ha, fun j => by
    rw [s_s]
    by_cases hj : j = base + i
    · rw [hj, u_s, if_pos (by omega), Nat.add_sub_cancel_left]
    · rw [u_n hj, hI.2 j]
      by_cases hj2 : base ≤ j ∧ j < base + i
      · rw [if_pos hj2, if_pos (by omega)]
      · rw [if_neg hj2, if_neg (by omega)]⟩) (fun M' hI => ⟨M', hx M' hI.2, hI⟩)
def dropS (S : Nat → Nat) (o p s : Nat) : Nat → Nat := rngN (updN (rngN (updN S (2388 + o) (S (2388 + o) - 1)) (2316 + 12 * o + p) (S (2388 + o) - 1 - p) (fun i => S (2316 + 12 * o + p + i + 1))) (2394 + s) 0) (768 + 128 * s) 128 (fun _ => 0)
section
variable {S : Nat → Nat} {o p s : Nat}
theorem dr_T (hs : s < 12) {k : Nat} (hk : k < 2304) : dropS S o p s k = if 768 + 128 * s ≤ k ∧ k < 768 + 128 * s + 128 then 0 else S k := by
  unfold dropS
  by_cases q : 768 + 128 * s ≤ k ∧ k < 768 + 128 * s + 128
  · rw [rng_in q.1 q.2, if_pos q]
  · rw [rng_out (by omega), if_neg q, upN_n (by omega), rng_out (by omega), upN_n (by omega)]
theorem dr_E (hs : s < 12) {k : Nat} (h1 : 2304 ≤ k) (h2 : k < 2316) : dropS S o p s k = S k := by
  unfold dropS
  rw [rng_out (by omega), upN_n (by omega), rng_out (by omega), upN_n (by omega)]
theorem dr_O (ho : o < 6) (hs : s < 12) (hc : S (2388 + o) ≤ 12) {d r : Nat} (hd : d < 6) (hr : r < 12) : z_ord (dropS S o p s) d r = if d = o ∧ p ≤ r ∧ r < S (2388 + o) - 1 then z_ord S o (r + 1) else z_ord S d r := by
  unfold dropS z_ord
  rw [rng_out (by omega), upN_n (by omega)]
  by_cases q : d = o ∧ p ≤ r ∧ r < S (2388 + o) - 1
  · rw [if_pos q, rng_in (by omega) (by omega)]
    congr 1
    omega
  · rw [if_neg q, rng_out (by omega), upN_n (by omega)]
theorem dr_C (ho : o < 6) (hs : s < 12) (hc : S (2388 + o) ≤ 12) {d : Nat} (hd : d < 6) : dropS S o p s (2388 + d) = if d = o then S (2388 + o) - 1 else S (2388 + d) := by
  unfold dropS
  rw [rng_out (by omega), upN_n (by omega), rng_out (by omega)]
  by_cases q : d = o
  · rw [if_pos q, q, upN_s]
  · rw [if_neg q, upN_n (by omega)]
theorem dr_N (ho : o < 6) (hs : s < 12) (hc : S (2388 + o) ≤ 12) {t : Nat} (ht : t < 12) : dropS S o p s (2394 + t) = if t = s then 0 else S (2394 + t) := by
  unfold dropS
  rw [rng_out (by omega)]
  by_cases q : t = s
  · rw [if_pos q, q, upN_s]
  · rw [if_neg q, upN_n (by omega), rng_out (by omega), upN_n (by omega)]
theorem dr_R (ho : o < 6) (hs : s < 12) (hc : S (2388 + o) ≤ 12) {k : Nat} (hk : 2406 ≤ k) : dropS S o p s k = S k := by
  unfold dropS
  rw [rng_out (by omega), upN_n (by omega), rng_out (by omega), upN_n (by omega)]
end
theorem Is_inj {n : Nat} {S : Nat → Nat} (h : z_Is n S) {d : Nat} (hd : d < 6) {r q : Nat} (h1 : r < S (2388 + d)) (h2 : q < S (2388 + d)) (e : z_ord S d r = z_ord S d q) : r = q := by
  have i7 := h.2.2.2.2.2.2.1
  rcases Nat.lt_trichotomy r q with c | c | c
  · have := i7 d hd r q c h2
    rw [e] at this
    omega
  · exact c
  · have := i7 d hd q r c h1
    rw [e] at this
    omega
/-- a place in the order after the dropping, as it was before -/
def z_fr (o p d r : Nat) : Nat := if d = o ∧ p ≤ r then r + 1 else r
theorem z_Is_drop {n : Nat} {S : Nat → Nat} (h : z_Is n S) {o p s : Nat} (hs : s < 12) (h0 : S (2394 + s) ≠ 0) (ho : S (2418 + s) = o) (hp : p < S (2388 + o)) (he : z_ord S o p = s) (hno : ∀ d, d < 6 → S (2310 + d) ≠ s + 1) : z_Is n (dropS S o p s) := by
  have hIs := h
  obtain ⟨i1, i2, i3, i4, i5, i6, i7, i8, i9, j1, j2, j3, j5⟩ := h
  have ho6 : o < 6 := ho ▸ (i4 s hs h0).2.1
  have hox : S (2304 + o) = 1 := ho ▸ (i4 s hs h0).2.2.1
  have hc := (i6 o ho6).1
  have eC := fun {d : Nat} (hd : d < 6) => dr_C (p := p) (s := s) ho6 hs hc hd
  have eN := fun {t : Nat} (ht : t < 12) => dr_N (p := p) (s := s) ho6 hs hc ht
  have eR := fun {k : Nat} (hk : 2406 ≤ k) => dr_R (p := p) (s := s) ho6 hs hc hk
  have hf : ∀ d r, d < 6 → r < dropS S o p s (2388 + d) → z_ord (dropS S o p s) d r = z_ord S d (z_fr o p d r) ∧ z_fr o p d r < S (2388 + d) ∧ z_ord S d (z_fr o p d r) ≠ s := fun d r hd hr => by
    rw [eC hd] at hr
    have hr12 : r < 12 := by
      have := (i6 d hd).1
      by_cases q : d = o
      · rw [if_pos q] at hr
        omega
      · rw [if_neg q] at hr
        omega
    rw [dr_O ho6 hs hc hd hr12]
    unfold z_fr
    by_cases q : d = o
    · subst q
      rw [if_pos rfl] at hr
      by_cases q2 : p ≤ r
      · rw [if_pos ⟨rfl, q2, hr⟩, if_pos ⟨rfl, q2⟩]
        exact ⟨rfl, by omega, fun c => by
          have := Is_inj hIs hd (r := r + 1) (q := p) (by omega) hp (by rw [c, he])
          omega⟩
      · rw [if_neg (fun c => q2 c.2.1), if_neg (fun c => q2 c.2)]
        exact ⟨rfl, by omega, fun c => by
          have := Is_inj hIs hd (r := r) (q := p) (by omega) hp (by rw [c, he])
          omega⟩
    · rw [if_neg q] at hr
      rw [if_neg (fun c => q c.1), if_neg (fun c => q c.1)]
      exact ⟨rfl, hr, fun c => by
        have := ((i6 d hd).2 r hr).2.2
        rw [c, ho] at this
        exact q this.symm⟩
  have hm : ∀ d r q, r < q → z_fr o p d r < z_fr o p d q := fun d r q hrq => by
    unfold z_fr
    split <;> split <;> omega
  refine ⟨fun d hd => by rw [dr_E hs (by omega) (by omega)]; exact i1 d hd, ?_, fun d hd => ?_, fun t ht q => ?_, fun t u ht hu q q2 => ?_, fun d hd => ⟨?_, fun r hr => ?_⟩, fun d hd r q hr hq => ?_, fun d hd => ?_, fun r hr => by rw [eR (by omega)]; exact i9 r hr, by rw [eR (by omega)]; exact j1, by rw [eR (by omega)]; exact j2, by rw [eR (by omega)]; exact j3, fun s hs => by rw [eR (by omega)]; exact j5 s hs⟩
  · obtain ⟨d, hd, q⟩ := i2
    exact ⟨d, hd, by rw [dr_E hs (by omega) (by omega)]; exact q⟩
  · rw [dr_E hs (by omega) (by omega), dr_E hs (by omega) (by omega), eC hd]
    intro q
    by_cases c : d = o
    · subst c
      omega
    · rw [if_neg c]
      exact i3 d hd q
  · rw [eN ht] at q
    have hts : t ≠ s := fun c => by
      rw [if_pos c] at q
      exact q rfl
    rw [if_neg hts] at q
    obtain ⟨q1, q2, q3, r, q4, q5⟩ := i4 t ht q
    unfold z_liv
    rw [eN ht, if_neg hts, eR (by omega), eR (by omega), dr_E hs (by omega) (by omega), eC q2]
    refine ⟨q1, q2, q3, ?_⟩
    have hr12 := (i6 _ q2).1
    by_cases c : S (2418 + t) = o
    · rw [c] at q4 q5 q2 ⊢
      rw [if_pos rfl]
      have hrp : r ≠ p := fun e => hts (by rw [← q5, e, he])
      by_cases c2 : r < p
      · exact ⟨r, by omega, by rw [dr_O ho6 hs hc q2 (by omega), if_neg (by omega)]; exact q5⟩
      · exact ⟨r - 1, by omega, by rw [dr_O ho6 hs hc q2 (by omega), if_pos (by omega), show r - 1 + 1 = r by omega]; exact q5⟩
    · rw [if_neg c]
      exact ⟨r, q4, by rw [dr_O ho6 hs hc q2 (by omega), if_neg (fun e => c e.1)]; exact q5⟩
  · rw [eN ht] at q q2
    rw [eN hu] at q2
    by_cases c1 : t = s
    · rw [if_pos c1] at q
      exact absurd rfl q
    · by_cases c2 : u = s
      · rw [if_pos c2] at q2
        exact absurd q2 q
      · rw [if_neg c1] at q q2
        rw [if_neg c2] at q2
        exact i5 t u ht hu q q2
  · rw [eC hd]
    have := (i6 d hd).1
    split <;> omega
  · obtain ⟨f1, f2, f3⟩ := hf d r hd hr
    obtain ⟨k1, k2, k3⟩ := (i6 d hd).2 _ f2
    rw [f1, eN k1, if_neg f3, eR (by omega)]
    exact ⟨k1, k2, k3⟩
  · obtain ⟨f1, f2, f3⟩ := hf d r hd (by omega)
    obtain ⟨g1, g2, g3⟩ := hf d q hd hq
    rw [f1, g1, eN ((i6 d hd).2 _ f2).1, if_neg f3, eN ((i6 d hd).2 _ g2).1, if_neg g3]
    exact i7 d hd _ _ (hm d r q hr) g2
  · rw [dr_E hs (by omega) (by omega)]
    refine ⟨(i8 d hd).1, fun q => ?_⟩
    have hx := (i8 d hd).1
    have hn := hno d hd
    rw [eN (by omega), if_neg (by omega)]
    refine ⟨((i8 d hd).2 q).1, fun r hr => ?_⟩
    obtain ⟨f1, f2, f3⟩ := hf d r hd hr
    rw [f1, eN ((i6 d hd).2 _ f2).1, if_neg f3]
    exact ((i8 d hd).2 q).2 _ f2
theorem mPl {M : zM} {S : Nat → Nat} (hN : ∀ k, k < 2430 → M (169 + 1) k = nI (S k)) {o p s : Nat} (hs : s < 12) (ho : S (2418 + s) = o) (ho6 : o < 6) (hp : p < S (2388 + o)) (hc : S (2388 + o) ≤ 12) (he : z_ord S o p = s) (hne : ∀ r, r < p → z_ord S o r ≠ s ∧ z_ord S o r < 12) : fX7_placeOf 169 (nI s) M = some (nI p) := by
  unfold fX7_placeOf
  have e1 : S (2316 + 12 * o + p) = s := he
  have hl := z_loopC (f := fun s1 : Int32 => fX7_placeOf_L1 169 (nI s) M (nI o) s1) (fun i => nI i) p (nI p) (by omega) (fun i hi => by
    have e2 : S (2316 + 12 * o + i) ≠ s := (hne i hi).1
    have e3 : S (2316 + 12 * o + i) < 12 := (hne i hi).2
    simp (disch := first | omega | assumption) only [l_0, l_1, l_2, l_3, l_4, l_5, l_6, l_7, l_8, l_11, l_12, l_15, l_16, l_31, l_32, l_66, l_80, l_100, l_127, l_128, l_768, l_2304, l_2310, l_2316, l_2388, l_2394, l_2406, l_2418, l_2430, l_2558, l_2686, l_2814, l_2942, l_3070, l_3390, l_3394, l_3395, l_3396, l_3397, n_leT, n_leF, n_ltT, n_ltF, n_eqT, n_eqF, nI_add, pk_mul, n_sub, z_ldn, z_san, z_bs, z_b2s, z_b3s, z_ocN, z_ocS, z_oxL, z_oxR, z_scL, z_scR, ↓reduceIte, st_170, st_171, st_172, st_173, Nat.zero_add, Nat.add_zero, Nat.zero_lt_succ, true_and, and_true, eq_self, fX7_placeOf_L1, hN]) (by simp (disch := first | omega | assumption) only [l_0, l_1, l_2, l_3, l_4, l_5, l_6, l_7, l_8, l_11, l_12, l_15, l_16, l_31, l_32, l_66, l_80, l_100, l_127, l_128, l_768, l_2304, l_2310, l_2316, l_2388, l_2394, l_2406, l_2418, l_2430, l_2558, l_2686, l_2814, l_2942, l_3070, l_3390, l_3394, l_3395, l_3396, l_3397, n_leT, n_leF, n_ltT, n_ltF, n_eqT, n_eqF, nI_add, pk_mul, n_sub, z_ldn, z_san, z_bs, z_b2s, z_b3s, z_ocN, z_ocS, z_oxL, z_oxR, z_scL, z_scR, ↓reduceIte, st_170, st_171, st_172, st_173, Nat.zero_add, Nat.add_zero, Nat.zero_lt_succ, true_and, and_true, eq_self, fX7_placeOf_L1, hN, e1])
  simp (disch := first | omega | assumption) only [l_0, l_1, l_2, l_3, l_4, l_5, l_6, l_7, l_8, l_11, l_12, l_15, l_16, l_31, l_32, l_66, l_80, l_100, l_127, l_128, l_768, l_2304, l_2310, l_2316, l_2388, l_2394, l_2406, l_2418, l_2430, l_2558, l_2686, l_2814, l_2942, l_3070, l_3390, l_3394, l_3395, l_3396, l_3397, n_leT, n_leF, n_ltT, n_ltF, n_eqT, n_eqF, nI_add, pk_mul, n_sub, z_ldn, z_san, z_bs, z_b2s, z_b3s, z_ocN, z_ocS, z_oxL, z_oxR, z_scL, z_scR, ↓reduceIte, st_170, st_171, st_172, st_173, Nat.zero_add, Nat.add_zero, Nat.zero_lt_succ, true_and, and_true, eq_self, hN, ho]
  rw [show z_loop _ z_FU (nI 0) = _ from hl]
  simp (disch := first | omega | assumption) only [l_0, l_1, l_2, l_3, l_4, l_5, l_6, l_7, l_8, l_11, l_12, l_15, l_16, l_31, l_32, l_66, l_80, l_100, l_127, l_128, l_768, l_2304, l_2310, l_2316, l_2388, l_2394, l_2406, l_2418, l_2430, l_2558, l_2686, l_2814, l_2942, l_3070, l_3390, l_3394, l_3395, l_3396, l_3397, n_leT, n_leF, n_ltT, n_ltF, n_eqT, n_eqF, nI_add, pk_mul, n_sub, z_ldn, z_san, z_bs, z_b2s, z_b3s, z_ocN, z_ocS, z_oxL, z_oxR, z_scL, z_scR, ↓reduceIte, st_170, st_171, st_172, st_173, Nat.zero_add, Nat.add_zero, Nat.zero_lt_succ, true_and, and_true, eq_self]
theorem mDr {M : zM} {S : Nat → Nat} (hN : z_N (M 170) S) {o p s : Nat} (hs : s < 12) (ho : S (2418 + s) = o) (ho6 : o < 6) (hp : p < S (2388 + o)) (hc : S (2388 + o) ≤ 12) (he : z_ord S o p = s) (hne : ∀ r, r < p → z_ord S o r ≠ s ∧ z_ord S o r < 12) : ∃ M', fX7_drops 169 (nI s) M = some M' ∧ z_N (M' 170) (dropS S o p s) ∧ (∀ k, 2406 ≤ k → M' 170 k = M 170 k) ∧ ∀ a, a ≠ 170 → M' a = M a := by
  have hN1 := N1 hN
  unfold fX7_drops
  obtain ⟨c, hcc⟩ : ∃ c, c = S (2388 + o) := ⟨_, rfl⟩
  obtain ⟨M1, hM1⟩ : ∃ M1, M1 = z_st M (169 + 1) (2388 + o) (nI (c - 1)) := ⟨_, rfl⟩
  have r1 : M1 (169 + 1) = upd (M 170) (2388 + o) (nI (c - 1)) := by rw [hM1, s_s]
  have hN9 : z_N (M1 (169 + 1)) (updN S (2388 + o) (c - 1)) := by
    rw [r1]
    exact z_N_up hN
  obtain ⟨M2, u1, u2, u3⟩ := z_loopR2 (f := fun x : Int32 × zM => fX7_drops_L1 169 (nI o) x.1 x.2) (169 + 1) (2316 + 12 * o + p) p (c - 1 - p) (fun i => nI (S (2316 + 12 * o + p + i + 1))) (by omega) (s := nI p) (M := M1) rfl (fun i M' hi _ q2 => by
    have c1 : M' (169 + 1) (2388 + o) = nI (c - 1) := by rw [q2, if_neg (by omega), r1, u_s]
    have c2 : M' (169 + 1) (2316 + 12 * o + p + i + 1) = nI (S (2316 + 12 * o + p + i + 1)) := by
      rw [q2, if_neg (by omega), r1, u_n (by omega)]
      exact hN1 _ (by omega)
    have e1 : 2316 + 12 * o + (p + i) = 2316 + 12 * o + p + i := by omega
    simp (disch := first | omega | assumption) only [l_0, l_1, l_2, l_3, l_4, l_5, l_6, l_7, l_8, l_11, l_12, l_15, l_16, l_31, l_32, l_66, l_80, l_100, l_127, l_128, l_768, l_2304, l_2310, l_2316, l_2388, l_2394, l_2406, l_2418, l_2430, l_2558, l_2686, l_2814, l_2942, l_3070, l_3390, l_3394, l_3395, l_3396, l_3397, n_leT, n_leF, n_ltT, n_ltF, n_eqT, n_eqF, nI_add, pk_mul, n_sub, z_ldn, z_san, z_bs, z_b2s, z_b3s, z_ocN, z_ocS, z_oxL, z_oxR, z_scL, z_scR, ↓reduceIte, st_170, st_171, st_172, st_173, Nat.zero_add, Nat.add_zero, Nat.zero_lt_succ, true_and, and_true, eq_self, fX7_drops_L1, c1, e1, c2]) (fun M' q2 => by
    have c1 : M' (169 + 1) (2388 + o) = nI (c - 1) := by rw [q2, if_neg (by omega), r1, u_s]
    simp (disch := first | omega | assumption) only [l_0, l_1, l_2, l_3, l_4, l_5, l_6, l_7, l_8, l_11, l_12, l_15, l_16, l_31, l_32, l_66, l_80, l_100, l_127, l_128, l_768, l_2304, l_2310, l_2316, l_2388, l_2394, l_2406, l_2418, l_2430, l_2558, l_2686, l_2814, l_2942, l_3070, l_3390, l_3394, l_3395, l_3396, l_3397, n_leT, n_leF, n_ltT, n_ltF, n_eqT, n_eqF, nI_add, pk_mul, n_sub, z_ldn, z_san, z_bs, z_b2s, z_b3s, z_ocN, z_ocS, z_oxL, z_oxR, z_scL, z_scR, ↓reduceIte, st_170, st_171, st_172, st_173, Nat.zero_add, Nat.add_zero, Nat.zero_lt_succ, true_and, and_true, eq_self, fX7_drops_L1, c1])
  obtain ⟨M3, hM3⟩ : ∃ M3, M3 = z_st M2 (169 + 1) (2394 + s) (nI 0) := ⟨_, rfl⟩
  have r3 : M3 (169 + 1) = upd (M2 (169 + 1)) (2394 + s) (nI 0) := by rw [hM3, s_s]
  obtain ⟨M4, v1, v2, v3⟩ := z_loopR (f := fun x : Int32 × zM => fX7_drops_L2 169 (nI s) x.1 x.2) (169 + 1) (768 + 128 * s) 0 128 (fun _ => nI 0) (by decide) (s := nI 0) (M := M3) rfl (fun j M' hj _ _ => by simp (disch := first | omega | assumption) only [l_0, l_1, l_2, l_3, l_4, l_5, l_6, l_7, l_8, l_11, l_12, l_15, l_16, l_31, l_32, l_66, l_80, l_100, l_127, l_128, l_768, l_2304, l_2310, l_2316, l_2388, l_2394, l_2406, l_2418, l_2430, l_2558, l_2686, l_2814, l_2942, l_3070, l_3390, l_3394, l_3395, l_3396, l_3397, n_leT, n_leF, n_ltT, n_ltF, n_eqT, n_eqF, nI_add, pk_mul, n_sub, z_ldn, z_san, z_bs, z_b2s, z_b3s, z_ocN, z_ocS, z_oxL, z_oxR, z_scL, z_scR, ↓reduceIte, st_170, st_171, st_172, st_173, Nat.zero_add, Nat.add_zero, Nat.zero_lt_succ, true_and, and_true, eq_self, fX7_drops_L2]) (fun M' => by simp (disch := first | omega | assumption) only [l_0, l_1, l_2, l_3, l_4, l_5, l_6, l_7, l_8, l_11, l_12, l_15, l_16, l_31, l_32, l_66, l_80, l_100, l_127, l_128, l_768, l_2304, l_2310, l_2316, l_2388, l_2394, l_2406, l_2418, l_2430, l_2558, l_2686, l_2814, l_2942, l_3070, l_3390, l_3394, l_3395, l_3396, l_3397, n_leT, n_leF, n_ltT, n_ltF, n_eqT, n_eqF, nI_add, pk_mul, n_sub, z_ldn, z_san, z_bs, z_b2s, z_b3s, z_ocN, z_ocS, z_oxL, z_oxR, z_scL, z_scR, ↓reduceIte, st_170, st_171, st_172, st_173, Nat.zero_add, Nat.add_zero, Nat.zero_lt_succ, true_and, and_true, eq_self, fX7_drops_L2])
  refine ⟨M4, ?_, ?_, fun k hk => ?_, fun a ha => ?_⟩
  · simp (disch := first | omega | assumption) only [l_0, l_1, l_2, l_3, l_4, l_5, l_6, l_7, l_8, l_11, l_12, l_15, l_16, l_31, l_32, l_66, l_80, l_100, l_127, l_128, l_768, l_2304, l_2310, l_2316, l_2388, l_2394, l_2406, l_2418, l_2430, l_2558, l_2686, l_2814, l_2942, l_3070, l_3390, l_3394, l_3395, l_3396, l_3397, n_leT, n_leF, n_ltT, n_ltF, n_eqT, n_eqF, nI_add, pk_mul, n_sub, z_ldn, z_san, z_bs, z_b2s, z_b3s, z_ocN, z_ocS, z_oxL, z_oxR, z_scL, z_scR, ↓reduceIte, st_170, st_171, st_172, st_173, Nat.zero_add, Nat.add_zero, Nat.zero_lt_succ, true_and, and_true, eq_self, hN1, ho, mPl hN1 hs ho ho6 hp hc he hne, ← hcc, ← hM1, u1, ← hM3, v1]
  · have := z_N_rng (N := M3 (169 + 1)) (N' := M4 170) (g := fun _ => 0) (b := 768 + 128 * s) (e := 128) (S := updN (rngN (updN S (2388 + o) (S (2388 + o) - 1)) (2316 + 12 * o + p) (S (2388 + o) - 1 - p) (fun i => S (2316 + 12 * o + p + i + 1))) (2394 + s) 0) (by
      rw [r3]
      refine z_N_up ?_
      rw [← hcc]
      exact z_N_rng hN9 u3) v3
    exact this
  · rw [show M4 170 k = _ from v3 k, if_neg (by omega), r3, u_n (by omega), u3, if_neg (by omega), r1, u_n (by omega)]
  · rw [v2 a ha, hM3, s_n ha, u2 a ha, hM1, s_n ha]
/-- the class's snapshots: which are taken, whose they are, their ranks -/
def y_sl (V : Nat) (M : zM) (ex ow rk : Nat → Nat) : Prop := ∀ t, t < 12 → M (V + 27 + 3 * t) 1 = nI (ex t) ∧ ex t ≤ 1 ∧ (ex t ≠ 0 → M (V + 27 + 3 * t) 3 = nI (ow t) ∧ ow t < 6 ∧ M (V + 27 + 3 * t) 4 = nI (rk t) ∧ rk t < 12)
theorem cIs {V : Nat} {M : zM} {ex ow rk : Nat → Nat} (h : y_sl V M ex ow rk) {s t : Nat} (hs : s < 12) (ht : t < 12) (h1 : ex s ≠ 0) : fX5_isBehind V (V + 27 + 3 * t) (V + 27 + 3 * s) M = some (nI (if ex t ≠ 0 ∧ ow t = ow s ∧ rk s < rk t then 1 else 0)) := by
  obtain ⟨a1, a2, a3⟩ := h s hs
  obtain ⟨a4, a5, a6, a7⟩ := a3 h1
  obtain ⟨b1, b2, b3⟩ := h t ht
  unfold fX5_isBehind fX2_belongsTo
  by_cases q : ex t = 0
  · rw [show (if ex t ≠ 0 ∧ ow t = ow s ∧ rk s < rk t then 1 else 0) = 0 from if_neg (fun c => c.1 q)]
    simp (disch := first | omega | assumption) only [l_0, l_1, l_2, l_3, l_4, l_5, l_6, l_7, l_8, l_11, l_12, l_15, l_16, l_31, l_32, l_66, l_80, l_100, l_127, l_128, l_768, l_2304, l_2310, l_2316, l_2388, l_2394, l_2406, l_2418, l_2430, l_2558, l_2686, l_2814, l_2942, l_3070, l_3390, l_3394, l_3395, l_3396, l_3397, n_leT, n_leF, n_ltT, n_ltF, n_eqT, n_eqF, nI_add, pk_mul, n_sub, z_ldn, z_san, z_bs, z_b2s, z_b3s, z_ocN, z_ocS, z_oxL, z_oxR, z_scL, z_scR, ↓reduceIte, st_170, st_171, st_172, st_173, Nat.zero_add, Nat.add_zero, Nat.zero_lt_succ, true_and, and_true, eq_self, b1, q]
  · obtain ⟨b4, b5, b6, b7⟩ := b3 q
    by_cases q2 : ow t = ow s
    · by_cases q3 : rk s < rk t
      · rw [show (if ex t ≠ 0 ∧ ow t = ow s ∧ rk s < rk t then 1 else 0) = 1 from if_pos ⟨q, q2, q3⟩]
        simp (disch := first | omega | assumption) only [l_0, l_1, l_2, l_3, l_4, l_5, l_6, l_7, l_8, l_11, l_12, l_15, l_16, l_31, l_32, l_66, l_80, l_100, l_127, l_128, l_768, l_2304, l_2310, l_2316, l_2388, l_2394, l_2406, l_2418, l_2430, l_2558, l_2686, l_2814, l_2942, l_3070, l_3390, l_3394, l_3395, l_3396, l_3397, n_leT, n_leF, n_ltT, n_ltF, n_eqT, n_eqF, nI_add, pk_mul, n_sub, z_ldn, z_san, z_bs, z_b2s, z_b3s, z_ocN, z_ocS, z_oxL, z_oxR, z_scL, z_scR, ↓reduceIte, st_170, st_171, st_172, st_173, Nat.zero_add, Nat.add_zero, Nat.zero_lt_succ, true_and, and_true, eq_self, b1, b4, a4, q2, b6, a6]
      · rw [show (if ex t ≠ 0 ∧ ow t = ow s ∧ rk s < rk t then 1 else 0) = 0 from if_neg (fun c => q3 c.2.2)]
        simp (disch := first | omega | assumption) only [l_0, l_1, l_2, l_3, l_4, l_5, l_6, l_7, l_8, l_11, l_12, l_15, l_16, l_31, l_32, l_66, l_80, l_100, l_127, l_128, l_768, l_2304, l_2310, l_2316, l_2388, l_2394, l_2406, l_2418, l_2430, l_2558, l_2686, l_2814, l_2942, l_3070, l_3390, l_3394, l_3395, l_3396, l_3397, n_leT, n_leF, n_ltT, n_ltF, n_eqT, n_eqF, nI_add, pk_mul, n_sub, z_ldn, z_san, z_bs, z_b2s, z_b3s, z_ocN, z_ocS, z_oxL, z_oxR, z_scL, z_scR, ↓reduceIte, st_170, st_171, st_172, st_173, Nat.zero_add, Nat.add_zero, Nat.zero_lt_succ, true_and, and_true, eq_self, b1, b4, a4, q2, b6, a6]
    · rw [show (if ex t ≠ 0 ∧ ow t = ow s ∧ rk s < rk t then 1 else 0) = 0 from if_neg (fun c => q2 c.2.1)]
      simp (disch := first | omega | assumption) only [l_0, l_1, l_2, l_3, l_4, l_5, l_6, l_7, l_8, l_11, l_12, l_15, l_16, l_31, l_32, l_66, l_80, l_100, l_127, l_128, l_768, l_2304, l_2310, l_2316, l_2388, l_2394, l_2406, l_2418, l_2430, l_2558, l_2686, l_2814, l_2942, l_3070, l_3390, l_3394, l_3395, l_3396, l_3397, n_leT, n_leF, n_ltT, n_ltF, n_eqT, n_eqF, nI_add, pk_mul, n_sub, z_ldn, z_san, z_bs, z_b2s, z_b3s, z_ocN, z_ocS, z_oxL, z_oxR, z_scL, z_scR, ↓reduceIte, st_170, st_171, st_172, st_173, Nat.zero_add, Nat.add_zero, Nat.zero_lt_succ, true_and, and_true, eq_self, b1, b4, a4]
theorem y_sl_rk {V : Nat} {M : zM} {ex ow rk rk' : Nat → Nat} (h : y_sl V M ex ow rk) (hc : ∀ t, t < 12 → rk' t = rk t) : y_sl V M ex ow rk' := fun t ht => by
  rw [hc t ht]
  exact h t ht
/-- ranks, when the first i snapshots are done -/
def z_rd (ex ow rk : Nat → Nat) (s i : Nat) : Nat → Nat := fun t => if t < i ∧ ex t ≠ 0 ∧ ow t = ow s ∧ rk s < rk t then rk t - 1 else rk t
theorem rd_n {ex ow rk : Nat → Nat} {s i t : Nat} (h : ¬ (t < i ∧ ex t ≠ 0 ∧ ow t = ow s ∧ rk s < rk t)) : z_rd ex ow rk s i t = rk t := if_neg h
theorem rd_y {ex ow rk : Nat → Nat} {s i t : Nat} (h : t < i ∧ ex t ≠ 0 ∧ ow t = ow s ∧ rk s < rk t) : z_rd ex ow rk s i t = rk t - 1 := if_pos h
theorem cDrop {V : Nat} {M : zM} {T ex ow rk : Nat → Nat} (hT : z_T V M T) (h : y_sl V M ex ow rk) {s : Nat} (hs : s < 12) (h1 : ex s ≠ 0) : ∃ M', fX5_drop V (V + 27 + 3 * s) M = some M' ∧ y_sl V M' (updN ex s 0) ow (fun t => if ex t ≠ 0 ∧ ow t = ow s ∧ rk s < rk t then rk t - 1 else rk t) ∧ z_T V M' (z_clrT T (6 + s)) ∧ (∀ t j, t < 12 → j ≠ 1 → j ≠ 4 → M' (V + 27 + 3 * t) j = M (V + 27 + 3 * t) j) ∧ ∀ a, a ≠ V + 3 + 4 → a ≠ V + 9 + 3 * (6 + s) + 1 + 1 → (∀ t, t < 12 → a ≠ V + 27 + 3 * t) → M' a = M a := by
  unfold fX5_drop
  obtain ⟨M1, e1, e2, e3, e4⟩ := z_loopM (f := fun x : Int32 × zM => fX5_drop_L1 V (V + 27 + 3 * s) x.1 x.2) (fun i M' => y_sl V M' ex ow (z_rd ex ow rk s i) ∧ (∀ t j, t < 12 → j ≠ 4 → M' (V + 27 + 3 * t) j = M (V + 27 + 3 * t) j) ∧ ∀ a, (∀ t, t < 12 → a ≠ V + 27 + 3 * t) → M' a = M a) (fun M' => y_sl V M' ex ow (z_rd ex ow rk s 12) ∧ (∀ t j, t < 12 → j ≠ 4 → M' (V + 27 + 3 * t) j = M (V + 27 + 3 * t) j) ∧ ∀ a, (∀ t, t < 12 → a ≠ V + 27 + 3 * t) → M' a = M a) 0 12 (by decide) (s := 0) (M := M) rfl ⟨y_sl_rk h (fun t ht => rd_n (fun c => absurd c.1 (Nat.not_lt_zero t))), fun _ _ _ _ => rfl, fun _ _ => rfl⟩ (fun i M' hi hI => by
      obtain ⟨b1, b2, b3⟩ := hI
      have c1 := cIs b1 hs hi h1
      have z1 : z_rd ex ow rk s i s = rk s := rd_n (fun c => absurd c.2.2.2 (Nat.lt_irrefl _))
      have z2 : z_rd ex ow rk s i i = rk i := rd_n (fun c => absurd c.1 (Nat.lt_irrefl _))
      rw [z1, z2] at c1
      by_cases q : ex i ≠ 0 ∧ ow i = ow s ∧ rk s < rk i
      · rw [show (if ex i ≠ 0 ∧ ow i = ow s ∧ rk s < rk i then 1 else 0) = 1 from if_pos q] at c1
        have d1 := (b1 i hi).2.2 q.1
        rw [z2] at d1
        obtain ⟨d4, d5, d2, d3⟩ := d1
        have hq3 := q.2.2
        have z3 : z_rd ex ow rk s (i + 1) i = rk i - 1 := rd_y ⟨Nat.lt_succ_self i, q⟩
        refine ⟨z_st M' (V + 27 + 3 * i) 4 (nI (rk i - 1)), ?_, fun t ht => ?_, fun t j ht hj => ?_, fun a ha => by rw [s_n (ha i hi)]; exact b3 a ha⟩
        · have e := z_lq12 (V := V) hi
          simp (disch := first | omega | assumption) only [l_0, l_1, l_2, l_3, l_4, l_5, l_6, l_7, l_8, l_11, l_12, l_15, l_16, l_31, l_32, l_66, l_80, l_100, l_127, l_128, l_768, l_2304, l_2310, l_2316, l_2388, l_2394, l_2406, l_2418, l_2430, l_2558, l_2686, l_2814, l_2942, l_3070, l_3390, l_3394, l_3395, l_3396, l_3397, n_leT, n_leF, n_ltT, n_ltF, n_eqT, n_eqF, nI_add, pk_mul, n_sub, z_ldn, z_san, z_bs, z_b2s, z_b3s, z_ocN, z_ocS, z_oxL, z_oxR, z_scL, z_scR, ↓reduceIte, st_170, st_171, st_172, st_173, Nat.zero_add, Nat.add_zero, Nat.zero_lt_succ, true_and, and_true, eq_self, fX5_drop_L1, e, c1, d2]
        · obtain ⟨f1, f2, f3⟩ := b1 t ht
          by_cases c : t = i
          · subst c
            rw [s_s, u_n (by decide), u_n (by decide), u_s, z3]
            exact ⟨f1, f2, fun g => ⟨(f3 g).1, (f3 g).2.1, rfl, by omega⟩⟩
          · have hp : z_rd ex ow rk s (i + 1) t = z_rd ex ow rk s i t := by
              by_cases c3 : t < i ∧ ex t ≠ 0 ∧ ow t = ow s ∧ rk s < rk t
              · rw [rd_y c3, rd_y ⟨by have := c3.1; omega, c3.2⟩]
              · rw [rd_n c3, rd_n (fun x => c3 ⟨by have := x.1; omega, x.2⟩)]
            rw [s_n (by omega), hp]
            exact ⟨f1, f2, f3⟩
        · by_cases c : t = i
          · subst c
            rw [s_s, u_n hj]
            exact b2 t j ht hj
          · rw [s_n (by omega)]
            exact b2 t j ht hj
      · rw [show (if ex i ≠ 0 ∧ ow i = ow s ∧ rk s < rk i then 1 else 0) = 0 from if_neg q] at c1
        refine ⟨M', ?_, y_sl_rk b1 (fun t ht => ?_), b2, b3⟩
        · have e := z_lq12 (V := V) hi
          simp (disch := first | omega | assumption) only [l_0, l_1, l_2, l_3, l_4, l_5, l_6, l_7, l_8, l_11, l_12, l_15, l_16, l_31, l_32, l_66, l_80, l_100, l_127, l_128, l_768, l_2304, l_2310, l_2316, l_2388, l_2394, l_2406, l_2418, l_2430, l_2558, l_2686, l_2814, l_2942, l_3070, l_3390, l_3394, l_3395, l_3396, l_3397, n_leT, n_leF, n_ltT, n_ltF, n_eqT, n_eqF, nI_add, pk_mul, n_sub, z_ldn, z_san, z_bs, z_b2s, z_b3s, z_ocN, z_ocS, z_oxL, z_oxR, z_scL, z_scR, ↓reduceIte, st_170, st_171, st_172, st_173, Nat.zero_add, Nat.add_zero, Nat.zero_lt_succ, true_and, and_true, eq_self, fX5_drop_L1, e, c1]
        · by_cases c3 : t < i ∧ ex t ≠ 0 ∧ ow t = ow s ∧ rk s < rk t
          · rw [rd_y c3, rd_y ⟨by have := c3.1; omega, c3.2⟩]
          · rw [rd_n c3, rd_n (fun x => c3 ⟨by
              have : t ≠ i := fun y => q (y ▸ x.2)
              have := x.1
              omega, x.2⟩)]) (fun M' hI => ⟨M', by simp (disch := first | omega | assumption) only [l_0, l_1, l_2, l_3, l_4, l_5, l_6, l_7, l_8, l_11, l_12, l_15, l_16, l_31, l_32, l_66, l_80, l_100, l_127, l_128, l_768, l_2304, l_2310, l_2316, l_2388, l_2394, l_2406, l_2418, l_2430, l_2558, l_2686, l_2814, l_2942, l_3070, l_3390, l_3394, l_3395, l_3396, l_3397, n_leT, n_leF, n_ltT, n_ltF, n_eqT, n_eqF, nI_add, pk_mul, n_sub, z_ldn, z_san, z_bs, z_b2s, z_b3s, z_ocN, z_ocS, z_oxL, z_oxR, z_scL, z_scR, ↓reduceIte, st_170, st_171, st_172, st_173, Nat.zero_add, Nat.add_zero, Nat.zero_lt_succ, true_and, and_true, eq_self, fX5_drop_L1], hI⟩)
  have e2 : y_sl V M1 ex ow (fun t => if ex t ≠ 0 ∧ ow t = ow s ∧ rk s < rk t then rk t - 1 else rk t) := y_sl_rk e2 (fun t ht => by
    show (if ex t ≠ 0 ∧ ow t = ow s ∧ rk s < rk t then rk t - 1 else rk t) = _
    by_cases c3 : ex t ≠ 0 ∧ ow t = ow s ∧ rk s < rk t
    · rw [if_pos c3, rd_y ⟨ht, c3⟩]
    · rw [if_neg c3, rd_n (fun x => c3 x.2)])
  obtain ⟨M2, g1, g2, g3⟩ := cClr (z_T_cg hT (e4 _ (fun t ht => by omega)) (fun u hu => e4 _ (fun t ht => by omega))) (show 6 + s < 18 by omega)
  rw [show V + 9 + 3 * (6 + s) + 1 = V + 27 + 3 * s + 1 by omega] at g1
  have hcell : ∀ t, t < 12 → M2 (V + 27 + 3 * t) = M1 (V + 27 + 3 * t) := fun t ht => g3 _ (by omega) (by omega)
  refine ⟨z_st M2 (V + 27 + 3 * s) 1 (nI 0), ?_, fun t ht => ?_, z_T_cg g2 (s_n (by omega)) (fun u hu => s_n (by omega)), fun t j ht hj hj4 => ?_, fun a k1 k2 k3 => by rw [s_n (k3 s hs), g3 a k1 k2, e4 a k3]⟩
  · simp (disch := first | omega | assumption) only [l_0, l_1, l_2, l_3, l_4, l_5, l_6, l_7, l_8, l_11, l_12, l_15, l_16, l_31, l_32, l_66, l_80, l_100, l_127, l_128, l_768, l_2304, l_2310, l_2316, l_2388, l_2394, l_2406, l_2418, l_2430, l_2558, l_2686, l_2814, l_2942, l_3070, l_3390, l_3394, l_3395, l_3396, l_3397, n_leT, n_leF, n_ltT, n_ltF, n_eqT, n_eqF, nI_add, pk_mul, n_sub, z_ldn, z_san, z_bs, z_b2s, z_b3s, z_ocN, z_ocS, z_oxL, z_oxR, z_scL, z_scR, ↓reduceIte, st_170, st_171, st_172, st_173, Nat.zero_add, Nat.add_zero, Nat.zero_lt_succ, true_and, and_true, eq_self, show z_loop _ z_FU (nI 0, M) = _ from e1, g1, z_pz0]
  · obtain ⟨f1, f2, f3⟩ := e2 t ht
    by_cases c : t = s
    · subst c
      rw [s_s, u_s, upN_s]
      exact ⟨rfl, by decide, fun x => absurd rfl x⟩
    · rw [s_n (by omega), upN_n c, hcell t ht]
      exact ⟨f1, f2, f3⟩
  · by_cases c : t = s
    · subst c
      rw [s_s, u_n hj, hcell t ht]
      exact e3 t j ht hj4
    · rw [s_n (by omega), hcell t ht]
      exact e3 t j ht hj4
/-- is it an origin: over the datasets before i -/
def orN (S : Nat → Nat) (s : Nat) : Nat → Nat
  | 0 => 0
  | i + 1 => if orN S s i = 0 then (if S (2310 + i) = s + 1 then 1 else 0) else 1
theorem orN_1 {S : Nat → Nat} {s : Nat} : ∀ {i : Nat}, orN S s i ≤ 1
  | 0 => Nat.zero_le _
  | i + 1 => by
    unfold orN
    split
    · split <;> omega
    · omega
theorem orN_0 {S : Nat → Nat} {s : Nat} : ∀ {i : Nat}, orN S s i = 0 ↔ ∀ d, d < i → S (2310 + d) ≠ s + 1
  | 0 => ⟨fun _ d hd => absurd hd (Nat.not_lt_zero d), fun _ => rfl⟩
  | i + 1 => by
    have ih := orN_0 (S := S) (s := s) (i := i)
    unfold orN
    constructor
    · intro h d hd
      by_cases q : orN S s i = 0
      · rw [if_pos q] at h
        by_cases c : d = i
        · subst c
          intro c2
          rw [if_pos c2] at h
          omega
        · exact ih.mp q d (by omega)
      · rw [if_neg q] at h
        omega
    · intro h
      rw [if_pos (ih.mpr (fun d hd => h d (by omega))), if_neg (h i (by omega))]
theorem cOr {V n : Nat} {M : zM} {S : Nat → Nat} (hR : R_ds V M S) (hIs : z_Is n S) (hn : n < 600) {s : Nat} (hs : s < 12) (h0 : S (2394 + s) ≠ 0) : fX5_isOrigin V (nI (S (2394 + s) - 1)) M = some (nI (orN S s 6)) := by
  have hb : ∀ t, t < 12 → S (2394 + t) ≤ n := fun t ht => by
    by_cases q : S (2394 + t) = 0
    · omega
    · have := (hIs.2.2.2.1 t ht q).1
      have := hIs.2.2.2.2.2.2.2.2.2.1
      omega
  have hbs := hb s hs
  have hk : ∀ i, i < 6 → (nI (z_onum S i) - nI 1 = nI (S (2394 + s) - 1)) = (S (2310 + i) = s + 1) := fun i hi => by
    obtain ⟨k1, k2⟩ := hIs.2.2.2.2.2.2.2.1 i hi
    rw [← n_pm1 h0]
    have hbo : z_onum S i < 2 ^ 30 := by
      unfold z_onum
      split
      · decide
      · have := hb (S (2310 + i) - 1) (by omega)
        omega
    refine propext (Iff.trans (n_sub_eq hbo (by omega)) ⟨fun e => ?_, fun e => ?_⟩)
    · unfold z_onum at e
      by_cases q : S (2310 + i) = 0
      · rw [if_pos q] at e
        exact absurd e.symm h0
      · rw [if_neg q] at e
        have := hIs.2.2.2.2.1 s (S (2310 + i) - 1) hs (by omega) h0 e.symm
        omega
    · unfold z_onum
      rw [if_neg (by omega), e, Nat.add_sub_cancel]
  unfold fX5_isOrigin
  rcases z_loopW (f := fun s9 => fX5_isOrigin_L1 V (nI (S (2394 + s) - 1)) M s9) (fun i => S (2310 + i) = s + 1) (fun _ => (Sum.inr (nI 1) : Unit ⊕ Int32)) (Sum.inl ()) 0 6 (by decide) (s := 0) rfl (fun i _ => Classical.em _) (fun i hi hne => by
    have e := z_lq11 (V := V) hi
    have c1 := hIs.1 i hi
    have c2 := hk i hi
    have c3 : (S (2310 + i) = s + 1) = False := eq_false hne
    rw [c3] at c2
    by_cases he : S (2304 + i) = 0
    · simp (disch := first | omega | assumption) only [l_0, l_1, l_2, l_3, l_4, l_5, l_6, l_7, l_8, l_11, l_12, l_15, l_16, l_31, l_32, l_66, l_80, l_100, l_127, l_128, l_768, l_2304, l_2310, l_2316, l_2388, l_2394, l_2406, l_2418, l_2430, l_2558, l_2686, l_2814, l_2942, l_3070, l_3390, l_3394, l_3395, l_3396, l_3397, n_leT, n_leF, n_ltT, n_ltF, n_eqT, n_eqF, nI_add, pk_mul, n_sub, z_ldn, z_san, z_bs, z_b2s, z_b3s, z_ocN, z_ocS, z_oxL, z_oxR, z_scL, z_scR, ↓reduceIte, st_170, st_171, st_172, st_173, Nat.zero_add, Nat.add_zero, Nat.zero_lt_succ, true_and, and_true, eq_self, fX5_isOrigin_L1, e, (hR i hi).1, he]
    · simp (disch := first | omega | assumption) only [l_0, l_1, l_2, l_3, l_4, l_5, l_6, l_7, l_8, l_11, l_12, l_15, l_16, l_31, l_32, l_66, l_80, l_100, l_127, l_128, l_768, l_2304, l_2310, l_2316, l_2388, l_2394, l_2406, l_2418, l_2430, l_2558, l_2686, l_2814, l_2942, l_3070, l_3390, l_3394, l_3395, l_3396, l_3397, n_leT, n_leF, n_ltT, n_ltF, n_eqT, n_eqF, nI_add, pk_mul, n_sub, z_ldn, z_san, z_bs, z_b2s, z_b3s, z_ocN, z_ocS, z_oxL, z_oxR, z_scL, z_scR, ↓reduceIte, st_170, st_171, st_172, st_173, Nat.zero_add, Nat.add_zero, Nat.zero_lt_succ, true_and, and_true, eq_self, fX5_isOrigin_L1, e, (hR i hi).1, (hR i hi).2, c2]) (fun i hi hie => by
    have e := z_lq11 (V := V) hi
    have c1 := hIs.1 i hi
    have c2 := hk i hi
    have c3 : (S (2310 + i) = s + 1) = True := eq_true hie
    rw [c3] at c2
    have he : S (2304 + i) = 1 := by
      by_cases q : S (2304 + i) = 0
      · have := (hIs.2.2.1 i hi q).1
        omega
      · omega
    simp (disch := first | omega | assumption) only [l_0, l_1, l_2, l_3, l_4, l_5, l_6, l_7, l_8, l_11, l_12, l_15, l_16, l_31, l_32, l_66, l_80, l_100, l_127, l_128, l_768, l_2304, l_2310, l_2316, l_2388, l_2394, l_2406, l_2418, l_2430, l_2558, l_2686, l_2814, l_2942, l_3070, l_3390, l_3394, l_3395, l_3396, l_3397, n_leT, n_leF, n_ltT, n_ltF, n_eqT, n_eqF, nI_add, pk_mul, n_sub, z_ldn, z_san, z_bs, z_b2s, z_b3s, z_ocN, z_ocS, z_oxL, z_oxR, z_scL, z_scR, ↓reduceIte, st_170, st_171, st_172, st_173, Nat.zero_add, Nat.add_zero, Nat.zero_lt_succ, true_and, and_true, eq_self, fX5_isOrigin_L1, e, (hR i hi).1, (hR i hi).2, he, c2]) (by simp (disch := first | omega | assumption) only [l_0, l_1, l_2, l_3, l_4, l_5, l_6, l_7, l_8, l_11, l_12, l_15, l_16, l_31, l_32, l_66, l_80, l_100, l_127, l_128, l_768, l_2304, l_2310, l_2316, l_2388, l_2394, l_2406, l_2418, l_2430, l_2558, l_2686, l_2814, l_2942, l_3070, l_3390, l_3394, l_3395, l_3396, l_3397, n_leT, n_leF, n_ltT, n_ltF, n_eqT, n_eqF, nI_add, pk_mul, n_sub, z_ldn, z_san, z_bs, z_b2s, z_b3s, z_ocN, z_ocS, z_oxL, z_oxR, z_scL, z_scR, ↓reduceIte, st_170, st_171, st_172, st_173, Nat.zero_add, Nat.add_zero, Nat.zero_lt_succ, true_and, and_true, eq_self, fX5_isOrigin_L1]) with ⟨i, q1, q2, q3, q4⟩ | ⟨q1, q2⟩
  · rw [q4]
    have : orN S s 6 = 1 := by
      have c1 := orN_1 (S := S) (s := s) (i := 6)
      by_cases c2 : orN S s 6 = 0
      · exact absurd q2 (orN_0.mp c2 i q1)
      · omega
    rw [this]
    rfl
  · rw [q2, orN_0.mpr q1]
    rfl
theorem mOr {n : Nat} {M : zM} {S : Nat → Nat} (hN : ∀ k, k < 2430 → M (169 + 1) k = nI (S k)) (hIs : z_Is n S) {s : Nat} (hs : s < 12) : fX7_isOrigin 169 (nI s) M = some (nI (orN S s 6)) := by
  unfold fX7_isOrigin
  have hl := z_loopC (f := fun s9 : Int32 × Int32 => fX7_isOrigin_L1 169 (nI s) M s9.1 s9.2) (fun i => (nI (orN S s i), nI i)) 6 (nI (orN S s 6)) (by decide) (fun i hi => by
    have c1 := hIs.1 i hi
    have c3 := (hIs.2.2.2.2.2.2.2.1 i hi).1
    have c4 := orN_1 (S := S) (s := s) (i := i)
    show _ = some (Sum.inl (nI (if orN S s i = 0 then (if S (2310 + i) = s + 1 then 1 else 0) else 1), nI (i + 1)))
    by_cases q : orN S s i = 0
    · rw [if_pos q]
      by_cases he : S (2304 + i) = 0
      · have c5 := (hIs.2.2.1 i hi he).1
        rw [if_neg (by omega)]
        simp (disch := first | omega | assumption) only [l_0, l_1, l_2, l_3, l_4, l_5, l_6, l_7, l_8, l_11, l_12, l_15, l_16, l_31, l_32, l_66, l_80, l_100, l_127, l_128, l_768, l_2304, l_2310, l_2316, l_2388, l_2394, l_2406, l_2418, l_2430, l_2558, l_2686, l_2814, l_2942, l_3070, l_3390, l_3394, l_3395, l_3396, l_3397, n_leT, n_leF, n_ltT, n_ltF, n_eqT, n_eqF, nI_add, pk_mul, n_sub, z_ldn, z_san, z_bs, z_b2s, z_b3s, z_ocN, z_ocS, z_oxL, z_oxR, z_scL, z_scR, ↓reduceIte, st_170, st_171, st_172, st_173, Nat.zero_add, Nat.add_zero, Nat.zero_lt_succ, true_and, and_true, eq_self, fX7_isOrigin_L1, hN, he, q]
      · have c6 : S (2304 + i) = 1 := by omega
        by_cases c7 : S (2310 + i) = s + 1
        · rw [if_pos c7]
          simp (disch := first | omega | assumption) only [l_0, l_1, l_2, l_3, l_4, l_5, l_6, l_7, l_8, l_11, l_12, l_15, l_16, l_31, l_32, l_66, l_80, l_100, l_127, l_128, l_768, l_2304, l_2310, l_2316, l_2388, l_2394, l_2406, l_2418, l_2430, l_2558, l_2686, l_2814, l_2942, l_3070, l_3390, l_3394, l_3395, l_3396, l_3397, n_leT, n_leF, n_ltT, n_ltF, n_eqT, n_eqF, nI_add, pk_mul, n_sub, z_ldn, z_san, z_bs, z_b2s, z_b3s, z_ocN, z_ocS, z_oxL, z_oxR, z_scL, z_scR, ↓reduceIte, st_170, st_171, st_172, st_173, Nat.zero_add, Nat.add_zero, Nat.zero_lt_succ, true_and, and_true, eq_self, fX7_isOrigin_L1, hN, c6, q, c7]
        · rw [if_neg c7]
          simp (disch := first | omega | assumption) only [l_0, l_1, l_2, l_3, l_4, l_5, l_6, l_7, l_8, l_11, l_12, l_15, l_16, l_31, l_32, l_66, l_80, l_100, l_127, l_128, l_768, l_2304, l_2310, l_2316, l_2388, l_2394, l_2406, l_2418, l_2430, l_2558, l_2686, l_2814, l_2942, l_3070, l_3390, l_3394, l_3395, l_3396, l_3397, n_leT, n_leF, n_ltT, n_ltF, n_eqT, n_eqF, nI_add, pk_mul, n_sub, z_ldn, z_san, z_bs, z_b2s, z_b3s, z_ocN, z_ocS, z_oxL, z_oxR, z_scL, z_scR, ↓reduceIte, st_170, st_171, st_172, st_173, Nat.zero_add, Nat.add_zero, Nat.zero_lt_succ, true_and, and_true, eq_self, fX7_isOrigin_L1, hN, c6, q]
    · rw [if_neg q]
      have q1 : orN S s i = 1 := by omega
      simp (disch := first | omega | assumption) only [l_0, l_1, l_2, l_3, l_4, l_5, l_6, l_7, l_8, l_11, l_12, l_15, l_16, l_31, l_32, l_66, l_80, l_100, l_127, l_128, l_768, l_2304, l_2310, l_2316, l_2388, l_2394, l_2406, l_2418, l_2430, l_2558, l_2686, l_2814, l_2942, l_3070, l_3390, l_3394, l_3395, l_3396, l_3397, n_leT, n_leF, n_ltT, n_ltF, n_eqT, n_eqF, nI_add, pk_mul, n_sub, z_ldn, z_san, z_bs, z_b2s, z_b3s, z_ocN, z_ocS, z_oxL, z_oxR, z_scL, z_scR, ↓reduceIte, st_170, st_171, st_172, st_173, Nat.zero_add, Nat.add_zero, Nat.zero_lt_succ, true_and, and_true, eq_self, fX7_isOrigin_L1, q1]) (by simp (disch := first | omega | assumption) only [l_0, l_1, l_2, l_3, l_4, l_5, l_6, l_7, l_8, l_11, l_12, l_15, l_16, l_31, l_32, l_66, l_80, l_100, l_127, l_128, l_768, l_2304, l_2310, l_2316, l_2388, l_2394, l_2406, l_2418, l_2430, l_2558, l_2686, l_2814, l_2942, l_3070, l_3390, l_3394, l_3395, l_3396, l_3397, n_leT, n_leF, n_ltT, n_ltF, n_eqT, n_eqF, nI_add, pk_mul, n_sub, z_ldn, z_san, z_bs, z_b2s, z_b3s, z_ocN, z_ocS, z_oxL, z_oxR, z_scL, z_scR, ↓reduceIte, st_170, st_171, st_172, st_173, Nat.zero_add, Nat.add_zero, Nat.zero_lt_succ, true_and, and_true, eq_self, fX7_isOrigin_L1])
  have h01 : orN S s 6 = 0 ∨ orN S s 6 = 1 := by have := orN_1 (S := S) (s := s) (i := 6); omega
  have hl2 : z_loop (fun s9 : Int32 × Int32 => fX7_isOrigin_L1 169 (nI s) M s9.1 s9.2) z_FU (nI 0, nI 0) = some (nI (orN S s 6)) := hl
  rcases h01 with q | q
  · simp (disch := first | omega | assumption) only [l_0, l_1, l_2, l_3, l_4, l_5, l_6, l_7, l_8, l_11, l_12, l_15, l_16, l_31, l_32, l_66, l_80, l_100, l_127, l_128, l_768, l_2304, l_2310, l_2316, l_2388, l_2394, l_2406, l_2418, l_2430, l_2558, l_2686, l_2814, l_2942, l_3070, l_3390, l_3394, l_3395, l_3396, l_3397, n_leT, n_leF, n_ltT, n_ltF, n_eqT, n_eqF, nI_add, pk_mul, n_sub, z_ldn, z_san, z_bs, z_b2s, z_b3s, z_ocN, z_ocS, z_oxL, z_oxR, z_scL, z_scR, ↓reduceIte, st_170, st_171, st_172, st_173, Nat.zero_add, Nat.add_zero, Nat.zero_lt_succ, true_and, and_true, eq_self, hl2, q, z_bz0]
  · simp (disch := first | omega | assumption) only [l_0, l_1, l_2, l_3, l_4, l_5, l_6, l_7, l_8, l_11, l_12, l_15, l_16, l_31, l_32, l_66, l_80, l_100, l_127, l_128, l_768, l_2304, l_2310, l_2316, l_2388, l_2394, l_2406, l_2418, l_2430, l_2558, l_2686, l_2814, l_2942, l_3070, l_3390, l_3394, l_3395, l_3396, l_3397, n_leT, n_leF, n_ltT, n_ltF, n_eqT, n_eqF, nI_add, pk_mul, n_sub, z_ldn, z_san, z_bs, z_b2s, z_b3s, z_ocN, z_ocS, z_oxL, z_oxR, z_scL, z_scR, ↓reduceIte, st_170, st_171, st_172, st_173, Nat.zero_add, Nat.add_zero, Nat.zero_lt_succ, true_and, and_true, eq_self, hl2, q, z_bz1]
