theorem z_rk2 {V n : Nat} {M : zM} {S : Nat → Nat} (hR : R_sn V M S) (hIs : z_Is n S) : ∃ rk : Nat → Nat, y_sl V M (z_ex S) (fun t => S (2418 + t)) rk ∧ (∀ t, t < 12 → S (2394 + t) ≠ 0 → rk t < S (2388 + S (2418 + t)) ∧ z_ord S (S (2418 + t)) (rk t) = t) ∧ ∀ t, t < 12 → rk t ≤ 12 := by
  obtain ⟨rk, h1, h2⟩ := z_rk hR hIs
  have e : ∀ t, S (2394 + t) ≠ 0 → (if S (2394 + t) = 0 then 0 else rk t) = rk t := fun t q => if_neg q
  refine ⟨fun t => if S (2394 + t) = 0 then 0 else rk t, fun t ht => ?_, fun t ht q => ?_, fun t ht => ?_⟩
  · obtain ⟨a1, a2, a3⟩ := h1 t ht
    refine ⟨a1, a2, fun q => ?_⟩
    have q1 : S (2394 + t) ≠ 0 := fun c => q (ex_0 c)
    show _ ∧ _ ∧ M (V + 27 + 3 * t) 4 = nI (if S (2394 + t) = 0 then 0 else rk t) ∧ (if S (2394 + t) = 0 then 0 else rk t) < 12
    rw [e t q1]
    exact a3 q
  · show (if S (2394 + t) = 0 then 0 else rk t) < _ ∧ z_ord S _ (if S (2394 + t) = 0 then 0 else rk t) = t
    rw [e t q]
    exact h2 t ht q
  · show (if S (2394 + t) = 0 then 0 else rk t) ≤ 12
    by_cases q : S (2394 + t) = 0
    · rw [if_pos q]
      omega
    · rw [if_neg q]
      have c1 := (h2 t ht q).1
      have c2 := (hIs.2.2.2.1 t ht q).2.1
      have c3 := (hIs.2.2.2.2.2.1 _ c2).1
      omega
/-- the place of a snapshot of d is its rank -/
theorem rk_pl {n : Nat} {S rk : Nat → Nat} {d : Nat} (hI : z_I n S) (hd : d < 6) (hrk : ∀ t, t < 12 → S (2394 + t) ≠ 0 → rk t < S (2388 + S (2418 + t)) ∧ z_ord S (S (2418 + t)) (rk t) = t) : ∀ r, r < S (2388 + d) → rk (z_ord S d r) = r := fun r hr => by
  obtain ⟨k1, k2, k3⟩ := (I_ord hI d hd).2 r hr
  obtain ⟨k4, k5⟩ := hrk _ k1 k2
  rw [k3] at k4 k5
  exact I_inj2 hI hd k4 hr k5
theorem cHo {n : Nat} {M : zM} {S rk : Nat → Nat} {d p s c : Nat} (hR : z_R1 1 M (M 170) S) (hI : z_I n S) (hn : n < 512) (hd : d < 6) (hcc : c = S (2388 + d)) (hp : p < c) (hsl : y_sl 1 M (z_ex S) (fun t => S (2418 + t)) rk) (hrk : ∀ t, t < 12 → S (2394 + t) ≠ 0 → rk t < S (2388 + S (2418 + t)) ∧ z_ord S (S (2418 + t)) (rk t) = t) (hs : s < 12) (h1 : S (2394 + s) ≠ 0) (hsd : S (2418 + s) = d) (hsp : rk s = p) (hk : ∀ t, t < 12 → rk t ≤ p + 12) : fX5_hasOriginBehind 1 (1 + 27 + 3 * s) M = some (nI (if oB S d p (c - 1 - p) = 0 then 0 else 1)) := by
  have hpl := rk_pl hI hd hrk
  have hord := I_ord hI d hd
  have hib : ∀ i, i < 12 → fX5_isBehind 1 (1 + 27 + 3 * i) (1 + 27 + 3 * s) M = some (nI (if z_bh S rk d p 12 i then 1 else 0)) := fun i hi => cIsB hs hi h1 hsd hsp hk hsl (by rw [ex_1 h1]; decide) rfl hsp (fun x => x.2.2.1) (fun _ => rfl)
  unfold fX5_hasOriginBehind
  rcases z_loopW (f := fun s9 => fX5_hasOriginBehind_L1 1 (1 + 27 + 3 * s) M s9) (fun i => z_bh S rk d p 12 i ∧ orN S i 6 ≠ 0) (fun _ => (Sum.inr (nI 1) : Unit ⊕ Int32)) (Sum.inl ()) 0 12 (by decide) (s := 0) rfl (fun i _ => Classical.em _) (fun i hi hne => by
    have e := z_lq12 (V := 1) hi
    have c1 := hib i hi
    by_cases q : z_bh S rk d p 12 i
    · have q2 : orN S i 6 = 0 := Classical.byContradiction (fun x => hne ⟨q, x⟩)
      have c2 := cOr hR.2.1 hI.1 (by omega) hi q.1
      have c3 := ((hR.2.2.1 i hi).2 q.1).1
      rw [if_pos q] at c1
      rw [q2] at c2
      simp (disch := first | omega | assumption) only [l_0, l_1, l_2, l_3, l_4, l_5, l_6, l_7, l_8, l_11, l_12, l_15, l_16, l_31, l_32, l_66, l_80, l_100, l_127, l_128, l_768, l_2304, l_2310, l_2316, l_2388, l_2394, l_2406, l_2418, l_2430, l_2558, l_2686, l_2814, l_2942, l_3070, l_3390, l_3394, l_3395, l_3396, l_3397, n_leT, n_leF, n_ltT, n_ltF, n_eqT, n_eqF, nI_add, pk_mul, n_sub, z_ldn, z_san, z_bs, z_b2s, z_b3s, z_ocN, z_ocS, z_oxL, z_oxR, z_scL, z_scR, ↓reduceIte, st_170, st_171, st_172, st_173, Nat.zero_add, Nat.add_zero, Nat.zero_lt_succ, true_and, and_true, eq_self, fX5_hasOriginBehind_L1, e, c1, c3, c2]
    · rw [if_neg q] at c1
      simp (disch := first | omega | assumption) only [l_0, l_1, l_2, l_3, l_4, l_5, l_6, l_7, l_8, l_11, l_12, l_15, l_16, l_31, l_32, l_66, l_80, l_100, l_127, l_128, l_768, l_2304, l_2310, l_2316, l_2388, l_2394, l_2406, l_2418, l_2430, l_2558, l_2686, l_2814, l_2942, l_3070, l_3390, l_3394, l_3395, l_3396, l_3397, n_leT, n_leF, n_ltT, n_ltF, n_eqT, n_eqF, nI_add, pk_mul, n_sub, z_ldn, z_san, z_bs, z_b2s, z_b3s, z_ocN, z_ocS, z_oxL, z_oxR, z_scL, z_scR, ↓reduceIte, st_170, st_171, st_172, st_173, Nat.zero_add, Nat.add_zero, Nat.zero_lt_succ, true_and, and_true, eq_self, fX5_hasOriginBehind_L1, e, c1]) (fun i hi hie => by
    have e := z_lq12 (V := 1) hi
    have c1 := hib i hi
    obtain ⟨q, q2⟩ := hie
    have c2 := cOr hR.2.1 hI.1 (by omega) hi q.1
    have c3 := ((hR.2.2.1 i hi).2 q.1).1
    have c4 := orN_1 (S := S) (s := i) (i := 6)
    rw [if_pos q] at c1
    rw [show orN S i 6 = 1 by omega] at c2
    simp (disch := first | omega | assumption) only [l_0, l_1, l_2, l_3, l_4, l_5, l_6, l_7, l_8, l_11, l_12, l_15, l_16, l_31, l_32, l_66, l_80, l_100, l_127, l_128, l_768, l_2304, l_2310, l_2316, l_2388, l_2394, l_2406, l_2418, l_2430, l_2558, l_2686, l_2814, l_2942, l_3070, l_3390, l_3394, l_3395, l_3396, l_3397, n_leT, n_leF, n_ltT, n_ltF, n_eqT, n_eqF, nI_add, pk_mul, n_sub, z_ldn, z_san, z_bs, z_b2s, z_b3s, z_ocN, z_ocS, z_oxL, z_oxR, z_scL, z_scR, ↓reduceIte, st_170, st_171, st_172, st_173, Nat.zero_add, Nat.add_zero, Nat.zero_lt_succ, true_and, and_true, eq_self, fX5_hasOriginBehind_L1, e, c1, c3, c2]) (by simp (disch := first | omega | assumption) only [l_0, l_1, l_2, l_3, l_4, l_5, l_6, l_7, l_8, l_11, l_12, l_15, l_16, l_31, l_32, l_66, l_80, l_100, l_127, l_128, l_768, l_2304, l_2310, l_2316, l_2388, l_2394, l_2406, l_2418, l_2430, l_2558, l_2686, l_2814, l_2942, l_3070, l_3390, l_3394, l_3395, l_3396, l_3397, n_leT, n_leF, n_ltT, n_ltF, n_eqT, n_eqF, nI_add, pk_mul, n_sub, z_ldn, z_san, z_bs, z_b2s, z_b3s, z_ocN, z_ocS, z_oxL, z_oxR, z_scL, z_scR, ↓reduceIte, st_170, st_171, st_172, st_173, Nat.zero_add, Nat.add_zero, Nat.zero_lt_succ, true_and, and_true, eq_self, fX5_hasOriginBehind_L1]) with ⟨i, q1, ⟨q2, q3⟩, _, q4⟩ | ⟨q1, q2⟩
  · rw [q4, if_neg]
    · rfl
    · intro x
      obtain ⟨y1, y2⟩ := hrk i q1 q2.1
      rw [q2.2.1] at y1 y2
      have y3 := q2.2.2.1
      have := oB_0.mp x (rk i - p) (by omega) (by omega)
      rw [show p + (rk i - p) = rk i by omega, y2] at this
      exact q3 this
  · rw [q2, if_pos]
    · rfl
    · refine oB_0.mpr (fun j j1 j2 => ?_)
      obtain ⟨k1, k2, k3⟩ := hord.2 (p + j) (by omega)
      have k4 := hpl (p + j) (by omega)
      have := q1 _ k1
      refine Classical.byContradiction (fun x => this ⟨⟨k2, k3, by omega, by omega⟩, x⟩)
/-- the rollback itself: the state, both sides -/
def rbS (S : Nat → Nat) (d p s c : Nat) : Nat → Nat := rngN (djS S d p (c - 1 - p)) (128 * d) 128 (fun x => S (768 + 128 * s + x))
theorem rb_facts {n : Nat} {S rk : Nat → Nat} {d p s c : Nat} (hd : d < 6) (hj : z_dj n S rk d p c (c - 1 - p) (djS S d p (c - 1 - p))) : (∀ k, k < 768 → rbS S d p s c k = if 128 * d ≤ k ∧ k < 128 * d + 128 then S (768 + 128 * s + (k - 128 * d)) else S k) ∧ (∀ t x, t < 12 → x < 128 → rbS S d p s c (768 + 128 * t + x) = if z_bh S rk d p (c - 1 - p) t then 0 else S (768 + 128 * t + x)) ∧ (∀ k, 2304 ≤ k → rbS S d p s c k = djS S d p (c - 1 - p) k) := by
  obtain ⟨t1, t2, t3, t4, t5, t6, t7, t8, t9, t10, t11⟩ := hj
  refine ⟨fun k hk => ?_, fun t x ht hx => ?_, fun k hk => rng_out (by omega)⟩
  · unfold rbS
    by_cases q : 128 * d ≤ k ∧ k < 128 * d + 128
    · rw [rng_in q.1 q.2, if_pos q]
    · rw [rng_out (by omega), if_neg q]
      exact t10 k hk
  · unfold rbS
    rw [rng_out (by omega)]
    exact t11 t x ht hx
theorem rb_c {n : Nat} {M : zM} {S rk : Nat → Nat} {d p s c : Nat} (hR : z_R1 1 M (M 170) S) (hI : z_I n S) (hn : n < 512) (hd : d < 6) (hds : S (2304 + d) = 1) (hcc : c = S (2388 + d)) (hp : p < c) (hsl : y_sl 1 M (z_ex S) (fun t => S (2418 + t)) rk) (hrk : ∀ t, t < 12 → S (2394 + t) ≠ 0 → rk t < S (2388 + S (2418 + t)) ∧ z_ord S (S (2418 + t)) (rk t) = t) (hs : s < 12) (h1 : S (2394 + s) ≠ 0) (hsd : S (2418 + s) = d) (hsp : rk s = p) (hk : ∀ t, t < 12 → rk t ≤ p + 12) (hj : z_dj n S rk d p c (c - 1 - p) (djS S d p (c - 1 - p))) (hno : ∀ j, 1 ≤ j → j ≤ c - 1 - p → orN S (z_ord S d (p + j)) 6 = 0) : ∃ Mf Mb v2 M2, fX5_fill 1 (1 + 9 + 3 * d + 1) (1 + 27 + 3 * s + 1) M = some Mf ∧ fX5_dropBehind 1 (1 + 27 + 3 * s) Mf = some (nI (c - 1 - p), Mb) ∧ fX5_settle 1 Mb = some (v2, M2) ∧ z_R1 1 M2 (M 170) (y_mk (rbS S d p s c)) ∧ z_I n (y_mk (rbS S d p s c)) ∧ (∀ k, k < 2304 → rbS S d p s c k ≤ 128) ∧ ∀ a, 84 ≤ a → M2 a = M a := by
  have hpl := rk_pl hI hd hrk
  obtain ⟨hc12, hord⟩ := I_ord hI d hd
  have hQ := z_Q_of hR hI
  obtain ⟨f1, f2, f3⟩ := rb_facts (s := s) hd hj
  obtain ⟨t1, t2, t3, t4, t5, t6, t7, t8, t9, t10, t11⟩ := hj
  obtain ⟨T, hTT⟩ : ∃ T, T = djS S d p (c - 1 - p) := ⟨_, rfl⟩
  obtain ⟨S1, hS1⟩ : ∃ S1, S1 = rbS S d p s c := ⟨_, rfl⟩
  rw [← hS1] at f1 f2 f3 ⊢
  rw [← hTT] at t1 t2 f3
  simp only [← hTT] at t3 t4 t5 t6 t7 t8 t9 t10 t11
  have hbe : ∀ t, t < 12 → (z_bh S rk d p 12 t ↔ z_bh S rk d p (c - 1 - p) t) := fun t ht => ⟨fun x => ⟨x.1, x.2.1, x.2.2.1, by
    have := (hrk t ht x.1).1
    rw [x.2.1] at this
    omega⟩, fun x => ⟨x.1, x.2.1, x.2.2.1, hk t ht⟩⟩
  have hns : ¬ z_bh S rk d p (c - 1 - p) s := fun x => by
    have := x.2.2.1
    omega
  obtain ⟨Mf, e1, e2, e3⟩ := cFill hQ.1 (show d < 18 by omega) (show 6 + s < 18 by omega) (show d ≠ 6 + s by omega)
  rw [show 1 + 9 + 3 * (6 + s) + 1 = 1 + 27 + 3 * s + 1 by omega] at e1
  obtain ⟨Mb, g1, ⟨ex', rk', g2, g3⟩, ⟨T1, g4, g5, g6⟩, g7, g8⟩ := cDb e2 (y_sl_cg hsl (fun t ht => e3 _ (by omega) (by omega))) hs h1 hsd hsp hk
  have hcnt : sumN (fun t => if z_bh S rk d p 12 t then 1 else 0) 12 = c - 1 - p := bij_cnt (m := 12) (f := fun r => z_ord S d (p + 1 + r)) (c - 1 - p) _ (fun r hr => (hord (p + 1 + r) (by omega)).1) (fun r q hr hq => I_inj hI hd (by omega) (by omega)) (fun t _ => by
    show (if z_bh S rk d p 12 t then 1 else 0) ≤ 1
    split <;> omega) (fun t ht => by
    show (if z_bh S rk d p 12 t then 1 else 0) = 1 ↔ ∃ r, r < c - 1 - p ∧ z_ord S d (p + 1 + r) = t
    constructor
    · intro x
      by_cases q : z_bh S rk d p 12 t
      · obtain ⟨y1, y2⟩ := hrk t ht q.1
        rw [q.2.1] at y1 y2
        have y3 := q.2.2.1
        exact ⟨rk t - (p + 1), by omega, by rw [show p + 1 + (rk t - (p + 1)) = rk t by omega]; exact y2⟩
      · rw [if_neg q] at x
        exact absurd x (by decide)
    · rintro ⟨r, hr, rfl⟩
      obtain ⟨k1, k2, k3⟩ := hord (p + 1 + r) (by omega)
      have k4 := hpl (p + 1 + r) (by omega)
      exact if_pos ⟨k2, k3, by omega, by omega⟩)
  rw [hcnt] at g1
  have fM : ∀ a, a ≠ 1 + 3 + 4 → (∀ u, u < 18 → a ≠ 1 + 9 + 3 * u + 1 + 1) → (∀ t, t < 12 → a ≠ 1 + 27 + 3 * t) → Mb a = M a := fun a q1 q2 q3 => by rw [g8 a q1 q2 q3, e3 a q1 (q2 d (by omega))]
  have hT2 : z_T 1 Mb S1 := z_T_T g4 (fun k hk2 => by
    by_cases q : k < 768
    · rw [f1 k q, g5 k q]
      unfold z_fillT
      rw [show 128 * (6 + s) = 768 + 128 * s by omega]
    · obtain ⟨t, x, ht, hx, rfl⟩ : ∃ t x, t < 12 ∧ x < 128 ∧ k = 768 + 128 * t + x := ⟨(k - 768) / 128, (k - 768) % 128, by omega, by omega, by omega⟩
      rw [f2 t x ht hx, g6 t x ht hx]
      have : z_fillT S d (6 + s) (768 + 128 * t + x) = S (768 + 128 * t + x) := by
        unfold z_fillT
        rw [if_neg (by omega)]
      rw [this]
      by_cases w : z_bh S rk d p 12 t
      · rw [if_pos w, if_pos ((hbe t ht).mp w)]
      · rw [if_neg w, if_neg (fun y => w ((hbe t ht).mpr y))])
  have hIs1 : z_Is n S1 := z_Is_S t1 (fun k k1 k2 => f3 k k1) (fun k k1 k2 => f3 k (by omega))
  have sN : ∀ t, t < 12 → S1 (2394 + t) = if z_bh S rk d p (c - 1 - p) t then 0 else S (2394 + t) := fun t ht => by rw [f3 _ (by omega)]; exact t5 t ht
  have sR : ∀ k, 2406 ≤ k → S1 k = S k := fun k hk => by rw [f3 _ (by omega)]; exact t9 k hk
  have sE : ∀ k, 2304 ≤ k → k < 2316 → S1 k = S k := fun k k1 k2 => by rw [f3 _ (by omega)]; exact t8 k k1 k2
  have hsn : R_sn 1 Mb S1 := R_sn_of g2 (fun t ht => by
      rw [sN t ht, (g3 t ht).1]
      by_cases w : z_bh S rk d p 12 t
      · rw [if_pos w, if_pos ((hbe t ht).mp w)]
      · rw [if_neg w, if_neg (fun y => w ((hbe t ht).mpr y))]
        by_cases c2 : S (2394 + t) = 0
        · rw [ex_0 c2, c2]
        · rw [ex_1 c2]
          exact ⟨fun x => absurd x c2, fun x => absurd x (by decide)⟩) (fun t ht q => by
      obtain ⟨u1, u2⟩ := g3 t ht
      have w : ¬ z_bh S rk d p 12 t := fun y => q (by rw [u1, if_pos y])
      have w2 : ¬ z_bh S rk d p (c - 1 - p) t := fun y => w ((hbe t ht).mpr y)
      rw [u1, if_neg w] at q
      have c2 : S (2394 + t) ≠ 0 := fun x => q (ex_0 x)
      obtain ⟨k1, k2⟩ := hrk t ht c2
      obtain ⟨l1, l2, l3, _⟩ := (hR.2.2.1 t ht).2 c2
      have l4 := (I_liv hI t ht c2).2.1
      have l5 := (I_ord hI _ l4).1
      have hcell : Mf (1 + 27 + 3 * t) = M (1 + 27 + 3 * t) := e3 _ (by omega) (by omega)
      rw [g7 t 2 ht (by decide) (by decide), g7 t 5 ht (by decide) (by decide), hcell, sN t ht, if_neg w2, sR _ (by omega), sR _ (by omega), u2 w]
      refine ⟨l1, l3, rfl, ?_⟩
      show rk t < S1 (2388 + S (2418 + t)) ∧ z_ord S1 (S (2418 + t)) (rk t) = t
      have eo : ∀ a b, z_ord S1 a b = z_ord T a b := fun a b => f3 _ (by omega)
      rw [eo, f3 _ (by omega)]
      by_cases v : S (2418 + t) = d
      · rw [v] at k1 k2 ⊢
        have v2 : rk t ≤ p := Nat.le_of_not_lt (fun y => w ⟨c2, v, y, hk t ht⟩)
        rw [t2, t3 _ v2]
        exact ⟨by omega, k2⟩
      · rw [t7 _ l4 v, t6 _ _ l4 v (by omega)]
        exact ⟨k1, k2⟩)
  have hQ1 : y_Q 1 Mb (M 170) S1 (z_sta S) := y_Q_gen hQ hT2 (fun d2 hd2 => by
      have ho : z_onum S1 d2 = z_onum S d2 := by
        have q1 := (I_ori hI d2 hd2).1
        unfold z_onum
        rw [sE _ (by omega) (by omega)]
        by_cases q : S (2310 + d2) = 0
        · rw [if_pos q, if_pos q]
        · rw [if_neg q, if_neg q, sN _ (by omega), if_neg]
          intro x
          obtain ⟨y1, y2⟩ := hrk _ (by omega) x.1
          rw [x.2.1] at y1 y2
          have y3 := x.2.2.1
          have y4 := orN_0.mp (hno (rk (S (2310 + d2) - 1) - p) (by omega) (by omega)) d2 hd2
          rw [show p + (rk (S (2310 + d2) - 1) - p) = rk (S (2310 + d2) - 1) by omega, y2] at y4
          omega
      rw [fM _ (by omega) (fun u hu => by omega) (fun t ht => by omega), ho, sE _ (by omega) (by omega)]
      exact hR.2.1 d2 hd2) hsn (R_sc_S (R_sc_cg hR.2.2.2.2.2 (fM _ (by omega) (fun u hu => by omega) (fun t ht => by omega))) (fun k k1 k2 => sR k (by omega))) (fun k k1 k2 => sR k (by omega)) (fun a k1 k2 => fM a (by omega) (fun u hu => by omega) (fun t ht => by omega)) (fun a k1 k2 => fM a (by omega) (fun u hu => by omega) (fun t ht => by omega))
  obtain ⟨⟨M2, s1, s2, s3⟩, s4⟩ := z_set2 hn hQ1 hI hIs1 (fun k hk2 => by
      by_cases q : k < 768
      · rw [f1 k q]
        split
        · exact Or.inr ⟨_, by omega, rfl⟩
        · exact Or.inr ⟨k, hk2, rfl⟩
      · obtain ⟨t, x, ht, hx, rfl⟩ : ∃ t x, t < 12 ∧ x < 128 ∧ k = 768 + 128 * t + x := ⟨(k - 768) / 128, (k - 768) % 128, by omega, by omega, by omega⟩
        rw [f2 t x ht hx]
        split
        · exact Or.inl rfl
        · exact Or.inr ⟨_, hk2, rfl⟩) (fun d2 hd2 q x hx => by
      rw [sE _ (by omega) (by omega)] at q
      have hne : d2 ≠ d := fun e => by rw [e] at q; omega
      rw [f1 _ (by omega), if_neg (by omega)]
      exact I_te hI d2 hd2 q x hx) (fun t ht q x hx => by
      rw [f2 t x ht hx]
      rw [sN t ht] at q
      by_cases w : z_bh S rk d p (c - 1 - p) t
      · rw [if_pos w]
      · rw [if_neg w] at q ⊢
        exact I_se hI t ht q x hx) (fun k k1 k2 => sR k (by omega))
  exact ⟨Mf, Mb, _, M2, e1, g1, s1, s2, s4, hT2.2.2, fun a ha => by rw [s3 a (by omega), fM a (by omega) (fun u hu => by omega) (fun t ht => by omega)]⟩
