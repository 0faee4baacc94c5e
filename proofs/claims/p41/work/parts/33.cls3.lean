theorem z_rk2 {V n : Nat} {M : zM} {S : Nat → Nat} (hR : R_sn V M S) (hIs : z_Is n S) : ∃ rk : Nat → Nat, y_sl V M (z_ex S) (fun t => S (2418 + t)) rk ∧ (∀ t, t < 12 → S (2394 + t) ≠ 0 → rk t < S (2388 + S (2418 + t)) ∧ z_ord S (S (2418 + t)) (rk t) = t) ∧ ∀ t, t < 12 → rk t ≤ 12 := by
  obtain ⟨rk, h1, h2⟩ := z_rk hR hIs
  have e : ∀ t, S (2394 + t) ≠ 0 → (if S (2394 + t) = 0 then 0 else rk t) = rk t := fun t q => if_neg q
  refine ⟨fun t => if S (2394 + t) = 0 then 0 else rk t, fun t ht => ?_, fun t ht q => ?_, fun t ht => ?_⟩
  · obtain ⟨a1, a2, a3⟩ := h1 t ht
    refine ⟨a1, a2, fun q => ?_⟩
    have q1 : S (2394 + t) ≠ 0 := fun c => q (ex_0 c)
    show _ ∧ _ ∧ M (V + 27 + 3 * t) 4 = nI (if S (2394 + t) = 0 then 0 else rk t) ∧ (if S (2394 + t) = 0 then 0 else rk t) < 12
    rw [e t q1]
    exact a3 q
  · show (if S (2394 + t) = 0 then 0 else rk t) < _ ∧ z_ord S _ (if S (2394 + t) = 0 then 0 else rk t) = t
    rw [e t q]
    exact h2 t ht q
  · show (if S (2394 + t) = 0 then 0 else rk t) ≤ 12
    by_cases q : S (2394 + t) = 0
    · rw [if_pos q]
      omega
    · rw [if_neg q]
      have c1 := (h2 t ht q).1
      have c2 := (hIs.2.2.2.1 t ht q).2.1
      have c3 := (hIs.2.2.2.2.2.1 _ c2).1
      omega
/-- the place of a snapshot of d is its rank -/
theorem rk_pl {n : Nat} {S rk : Nat → Nat} {d : Nat} (hI : z_I n S) (hd : d < 6) (hrk : ∀ t, t < 12 → S (2394 + t) ≠ 0 → rk t < S (2388 + S (2418 + t)) ∧ z_ord S (S (2418 + t)) (rk t) = t) : ∀ r, r < S (2388 + d) → rk (z_ord S d r) = r := fun r hr => by
  obtain ⟨k1, k2, k3⟩ := (I_ord hI d hd).2 r hr
  obtain ⟨k4, k5⟩ := hrk _ k1 k2
  rw [k3] at k4 k5
  exact I_inj2 hI hd k4 hr k5
theorem cHo {n : Nat} {M : zM} {N : Nat → Int32} {S rk : Nat → Nat} {d p s c : Nat} (hR : z_R1 1 M N S) (hI : z_I n S) (hn : n < 512) (hd : d < 6) (hcc : c = S (2388 + d)) (hp : p < c) (hsl : y_sl 1 M (z_ex S) (fun t => S (2418 + t)) rk) (hrk : ∀ t, t < 12 → S (2394 + t) ≠ 0 → rk t < S (2388 + S (2418 + t)) ∧ z_ord S (S (2418 + t)) (rk t) = t) (hs : s < 12) (h1 : S (2394 + s) ≠ 0) (hsd : S (2418 + s) = d) (hsp : rk s = p) (hk : ∀ t, t < 12 → rk t ≤ p + 12) : fX5_hasOriginBehind 1 (1 + 27 + 3 * s) M = some (nI (if oB S d p (c - 1 - p) = 0 then 0 else 1)) := by
  have hpl := rk_pl hI hd hrk
  have hord := I_ord hI d hd
  have hib : ∀ i, i < 12 → fX5_isBehind 1 (1 + 27 + 3 * i) (1 + 27 + 3 * s) M = some (nI (if z_bh S rk d p 12 i then 1 else 0)) := fun i hi => cIsB hs hi h1 hsd hsp hk hsl (by rw [ex_1 h1]; decide) rfl hsp (fun x => x.2.2.1) (fun _ => rfl)
  unfold fX5_hasOriginBehind
  rcases z_loopW (f := fun s9 => fX5_hasOriginBehind_L1 1 (1 + 27 + 3 * s) M s9) (fun i => z_bh S rk d p 12 i ∧ orN S i 6 ≠ 0) (fun _ => (Sum.inr (nI 1) : Unit ⊕ Int32)) (Sum.inl ()) 0 12 (by decide) (s := 0) rfl (fun i _ => Classical.em _) (fun i hi hne => by
    have e := z_lq12 (V := 1) hi
    have c1 := hib i hi
    by_cases q : z_bh S rk d p 12 i
    · have q2 : orN S i 6 = 0 := Classical.byContradiction (fun x => hne ⟨q, x⟩)
      have c2 := cOr hR.2.1 hI.1 (by omega) hi q.1
      have c3 := ((hR.2.2.1 i hi).2 q.1).1
      rw [if_pos q] at c1
      rw [q2] at c2
      simp (disch := first | omega | assumption) only [l_0, l_1, l_2, l_3, l_4, l_5, l_6, l_7, l_8, l_11, l_12, l_15, l_16, l_31, l_32, l_66, l_80, l_100, l_127, l_128, l_768, l_2304, l_2310, l_2316, l_2388, l_2394, l_2406, l_2418, l_2430, l_2558, l_2686, l_2814, l_2942, l_3070, l_3390, l_3394, l_3395, l_3396, l_3397, n_leT, n_leF, n_ltT, n_ltF, n_eqT, n_eqF, nI_add, pk_mul, n_sub, z_ldn, z_san, z_bs, z_b2s, z_b3s, z_ocN, z_ocS, z_oxL, z_oxR, z_scL, z_scR, ↓reduceIte, Nat.zero_add, Nat.add_zero, Nat.zero_lt_succ, true_and, and_true, eq_self, fX5_hasOriginBehind_L1, e, c1, c3, c2]
    · rw [if_neg q] at c1
      simp (disch := first | omega | assumption) only [l_0, l_1, l_2, l_3, l_4, l_5, l_6, l_7, l_8, l_11, l_12, l_15, l_16, l_31, l_32, l_66, l_80, l_100, l_127, l_128, l_768, l_2304, l_2310, l_2316, l_2388, l_2394, l_2406, l_2418, l_2430, l_2558, l_2686, l_2814, l_2942, l_3070, l_3390, l_3394, l_3395, l_3396, l_3397, n_leT, n_leF, n_ltT, n_ltF, n_eqT, n_eqF, nI_add, pk_mul, n_sub, z_ldn, z_san, z_bs, z_b2s, z_b3s, z_ocN, z_ocS, z_oxL, z_oxR, z_scL, z_scR, ↓reduceIte, Nat.zero_add, Nat.add_zero, Nat.zero_lt_succ, true_and, and_true, eq_self, fX5_hasOriginBehind_L1, e, c1]) (fun i hi hie => by
    have e := z_lq12 (V := 1) hi
    have c1 := hib i hi
    obtain ⟨q, q2⟩ := hie
    have c2 := cOr hR.2.1 hI.1 (by omega) hi q.1
    have c3 := ((hR.2.2.1 i hi).2 q.1).1
    have c4 := orN_1 (S := S) (s := i) (i := 6)
    rw [if_pos q] at c1
    rw [show orN S i 6 = 1 by omega] at c2
    simp (disch := first | omega | assumption) only [l_0, l_1, l_2, l_3, l_4, l_5, l_6, l_7, l_8, l_11, l_12, l_15, l_16, l_31, l_32, l_66, l_80, l_100, l_127, l_128, l_768, l_2304, l_2310, l_2316, l_2388, l_2394, l_2406, l_2418, l_2430, l_2558, l_2686, l_2814, l_2942, l_3070, l_3390, l_3394, l_3395, l_3396, l_3397, n_leT, n_leF, n_ltT, n_ltF, n_eqT, n_eqF, nI_add, pk_mul, n_sub, z_ldn, z_san, z_bs, z_b2s, z_b3s, z_ocN, z_ocS, z_oxL, z_oxR, z_scL, z_scR, ↓reduceIte, Nat.zero_add, Nat.add_zero, Nat.zero_lt_succ, true_and, and_true, eq_self, fX5_hasOriginBehind_L1, e, c1, c3, c2]) (by simp (disch := first | omega | assumption) only [l_0, l_1, l_2, l_3, l_4, l_5, l_6, l_7, l_8, l_11, l_12, l_15, l_16, l_31, l_32, l_66, l_80, l_100, l_127, l_128, l_768, l_2304, l_2310, l_2316, l_2388, l_2394, l_2406, l_2418, l_2430, l_2558, l_2686, l_2814, l_2942, l_3070, l_3390, l_3394, l_3395, l_3396, l_3397, n_leT, n_leF, n_ltT, n_ltF, n_eqT, n_eqF, nI_add, pk_mul, n_sub, z_ldn, z_san, z_bs, z_b2s, z_b3s, z_ocN, z_ocS, z_oxL, z_oxR, z_scL, z_scR, ↓reduceIte, Nat.zero_add, Nat.add_zero, Nat.zero_lt_succ, true_and, and_true, eq_self, fX5_hasOriginBehind_L1]) with ⟨i, q1, ⟨q2, q3⟩, _, q4⟩ | ⟨q1, q2⟩
  · rw [q4, if_neg]
    · rfl
    · intro x
      obtain ⟨y1, y2⟩ := hrk i q1 q2.1
      rw [q2.2.1] at y1 y2
      have y3 := q2.2.2.1
      have := oB_0.mp x (rk i - p) (by omega) (by omega)
      rw [show p + (rk i - p) = rk i by omega, y2] at this
      exact q3 this
  · rw [q2, if_pos]
    · rfl
    · refine oB_0.mpr (fun j j1 j2 => ?_)
      obtain ⟨k1, k2, k3⟩ := hord.2 (p + j) (by omega)
      have k4 := hpl (p + j) (by omega)
      have := q1 _ k1
      refine Classical.byContradiction (fun x => this ⟨⟨k2, k3, by omega, by omega⟩, x⟩)
/-- the rollback itself: the state, both sides -/
def rbS (S : Nat → Nat) (d p s c : Nat) : Nat → Nat := rngN (djS S d p (c - 1 - p)) (128 * d) 128 (fun x => S (768 + 128 * s + x))
theorem rb_facts {n : Nat} {S rk : Nat → Nat} {d p s c : Nat} (hd : d < 6) (hj : z_dj n S rk d p c (c - 1 - p) (djS S d p (c - 1 - p))) : (∀ k, k < 768 → rbS S d p s c k = if 128 * d ≤ k ∧ k < 128 * d + 128 then S (768 + 128 * s + (k - 128 * d)) else S k) ∧ (∀ t x, t < 12 → x < 128 → rbS S d p s c (768 + 128 * t + x) = if z_bh S rk d p (c - 1 - p) t then 0 else S (768 + 128 * t + x)) ∧ (∀ k, 2304 ≤ k → rbS S d p s c k = djS S d p (c - 1 - p) k) := by
  obtain ⟨t1, t2, t3, t4, t5, t6, t7, t8, t9, t10, t11⟩ := hj
  refine ⟨fun k hk => ?_, fun t x ht hx => ?_, fun k hk => rng_out (by omega)⟩
  · unfold rbS
    by_cases q : 128 * d ≤ k ∧ k < 128 * d + 128
    · rw [rng_in q.1 q.2, if_pos q]
    · rw [rng_out (by omega), if_neg q]
      exact t10 k hk
  · unfold rbS
    rw [rng_out (by omega)]
    exact t11 t x ht hx
theorem rb_c {n : Nat} {M : zM} {N : Nat → Int32} {S rk : Nat → Nat} {d p s c : Nat} (hR : z_R1 1 M N S) (hI : z_I n S) (hn : n < 512) (hd : d < 6) (hds : S (2304 + d) = 1) (hcc : c = S (2388 + d)) (hp : p < c) (hsl : y_sl 1 M (z_ex S) (fun t => S (2418 + t)) rk) (hrk : ∀ t, t < 12 → S (2394 + t) ≠ 0 → rk t < S (2388 + S (2418 + t)) ∧ z_ord S (S (2418 + t)) (rk t) = t) (hs : s < 12) (h1 : S (2394 + s) ≠ 0) (hsd : S (2418 + s) = d) (hsp : rk s = p) (hk : ∀ t, t < 12 → rk t ≤ p + 12) (hj : z_dj n S rk d p c (c - 1 - p) (djS S d p (c - 1 - p))) (hno : ∀ j, 1 ≤ j → j ≤ c - 1 - p → orN S (z_ord S d (p + j)) 6 = 0) : ∃ Mf Mb v2 M2, fX5_fill 1 (1 + 9 + 3 * d + 1) (1 + 27 + 3 * s + 1) M = some Mf ∧ fX5_dropBehind 1 (1 + 27 + 3 * s) Mf = some (nI (c - 1 - p), Mb) ∧ fX5_settle 1 Mb = some (v2, M2) ∧ z_R1 1 M2 N (y_mk (rbS S d p s c)) ∧ z_I n (y_mk (rbS S d p s c)) ∧ (∀ k, k < 2304 → rbS S d p s c k ≤ 128) ∧ ∀ a, 84 ≤ a → M2 a = M a := by
  have hpl := rk_pl hI hd hrk
  obtain ⟨hc12, hord⟩ := I_ord hI d hd
  have hQ := z_Q_of hR hI
  obtain ⟨f1, f2, f3⟩ := rb_facts (s := s) hd hj
  obtain ⟨t1, t2, t3, t4, t5, t6, t7, t8, t9, t10, t11⟩ := hj
  obtain ⟨T, hTT⟩ : ∃ T, T = djS S d p (c - 1 - p) := ⟨_, rfl⟩
  obtain ⟨S1, hS1⟩ : ∃ S1, S1 = rbS S d p s c := ⟨_, rfl⟩
  rw [← hS1] at f1 f2 f3 ⊢
  rw [← hTT] at t1 t2 f3
  simp only [← hTT] at t3 t4 t5 t6 t7 t8 t9 t10 t11
  have hbe : ∀ t, t < 12 → (z_bh S rk d p 12 t ↔ z_bh S rk d p (c - 1 - p) t) := fun t ht => ⟨fun x => ⟨x.1, x.2.1, x.2.2.1, by
    have := (hrk t ht x.1).1
    rw [x.2.1] at this
    omega⟩, fun x => ⟨x.1, x.2.1, x.2.2.1, hk t ht⟩⟩
  have hns : ¬ z_bh S rk d p (c - 1 - p) s := fun x => by
    have := x.2.2.1
    omega
  obtain ⟨Mf, e1, e2, e3⟩ := cFill hQ.1 (show d < 18 by omega) (show 6 + s < 18 by omega) (show d ≠ 6 + s by omega)
  rw [show 1 + 9 + 3 * (6 + s) + 1 = 1 + 27 + 3 * s + 1 by omega] at e1
  obtain ⟨Mb, g1, ⟨ex', rk', g2, g3⟩, ⟨T1, g4, g5, g6⟩, g7, g8⟩ := cDb e2 (y_sl_cg hsl (fun t ht => e3 _ (by omega) (by omega))) hs h1 hsd hsp hk
  have hcnt : sumN (fun t => if z_bh S rk d p 12 t then 1 else 0) 12 = c - 1 - p := bij_cnt (m := 12) (f := fun r => z_ord S d (p + 1 + r)) (c - 1 - p) _ (fun r hr => (hord (p + 1 + r) (by omega)).1) (fun r q hr hq => I_inj hI hd (by omega) (by omega)) (fun t _ => by
    show (if z_bh S rk d p 12 t then 1 else 0) ≤ 1
    split <;> omega) (fun t ht => by
    show (if z_bh S rk d p 12 t then 1 else 0) = 1 ↔ ∃ r, r < c - 1 - p ∧ z_ord S d (p + 1 + r) = t
    constructor
    · intro x
      by_cases q : z_bh S rk d p 12 t
      · obtain ⟨y1, y2⟩ := hrk t ht q.1
        rw [q.2.1] at y1 y2
        have y3 := q.2.2.1
        exact ⟨rk t - (p + 1), by omega, by rw [show p + 1 + (rk t - (p + 1)) = rk t by omega]; exact y2⟩
      · rw [if_neg q] at x
        exact absurd x (by decide)
    · rintro ⟨r, hr, rfl⟩
      obtain ⟨k1, k2, k3⟩ := hord (p + 1 + r) (by omega)
      have k4 := hpl (p + 1 + r) (by omega)
      exact if_pos ⟨k2, k3, by omega, by omega⟩)
  rw [hcnt] at g1
  have fM : ∀ a, a ≠ 1 + 3 + 4 → (∀ u, u < 18 → a ≠ 1 + 9 + 3 * u + 1 + 1) → (∀ t, t < 12 → a ≠ 1 + 27 + 3 * t) → Mb a = M a := fun a q1 q2 q3 => by rw [g8 a q1 q2 q3, e3 a q1 (q2 d (by omega))]
  have hT2 : z_T 1 Mb S1 := z_T_T g4 (fun k hk2 => by
    by_cases q : k < 768
    · rw [f1 k q, g5 k q]
      unfold z_fillT
      rw [show 128 * (6 + s) = 768 + 128 * s by omega]
    · obtain ⟨t, x, ht, hx, rfl⟩ : ∃ t x, t < 12 ∧ x < 128 ∧ k = 768 + 128 * t + x := ⟨(k - 768) / 128, (k - 768) % 128, by omega, by omega, by omega⟩
      rw [f2 t x ht hx, g6 t x ht hx]
      have : z_fillT S d (6 + s) (768 + 128 * t + x) = S (768 + 128 * t + x) := by
        unfold z_fillT
        rw [if_neg (by omega)]
      rw [this]
      by_cases w : z_bh S rk d p 12 t
      · rw [if_pos w, if_pos ((hbe t ht).mp w)]
      · rw [if_neg w, if_neg (fun y => w ((hbe t ht).mpr y))])
  have hIs1 : z_Is n S1 := z_Is_S t1 (fun k k1 k2 => f3 k k1) (fun k k1 k2 => f3 k (by omega))
  have sN : ∀ t, t < 12 → S1 (2394 + t) = if z_bh S rk d p (c - 1 - p) t then 0 else S (2394 + t) := fun t ht => by rw [f3 _ (by omega)]; exact t5 t ht
  have sR : ∀ k, 2406 ≤ k → S1 k = S k := fun k hk => by rw [f3 _ (by omega)]; exact t9 k hk
  have sE : ∀ k, 2304 ≤ k → k < 2316 → S1 k = S k := fun k k1 k2 => by rw [f3 _ (by omega)]; exact t8 k k1 k2
  have hsn : R_sn 1 Mb S1 := R_sn_of g2 (fun t ht => by
      rw [sN t ht, (g3 t ht).1]
      by_cases w : z_bh S rk d p 12 t
      · rw [if_pos w, if_pos ((hbe t ht).mp w)]
      · rw [if_neg w, if_neg (fun y => w ((hbe t ht).mpr y))]
        by_cases c2 : S (2394 + t) = 0
        · rw [ex_0 c2, c2]
        · rw [ex_1 c2]
          exact ⟨fun x => absurd x c2, fun x => absurd x (by decide)⟩) (fun t ht q => by
      obtain ⟨u1, u2⟩ := g3 t ht
      have w : ¬ z_bh S rk d p 12 t := fun y => q (by rw [u1, if_pos y])
      have w2 : ¬ z_bh S rk d p (c - 1 - p) t := fun y => w ((hbe t ht).mpr y)
      rw [u1, if_neg w] at q
      have c2 : S (2394 + t) ≠ 0 := fun x => q (ex_0 x)
      obtain ⟨k1, k2⟩ := hrk t ht c2
      obtain ⟨l1, l2, l3, _⟩ := (hR.2.2.1 t ht).2 c2
      have l4 := (I_liv hI t ht c2).2.1
      have l5 := (I_ord hI _ l4).1
      have hcell : Mf (1 + 27 + 3 * t) = M (1 + 27 + 3 * t) := e3 _ (by omega) (by omega)
      rw [g7 t 2 ht (by decide) (by decide), g7 t 5 ht (by decide) (by decide), hcell, sN t ht, if_neg w2, sR _ (by omega), sR _ (by omega), u2 w]
      refine ⟨l1, l3, rfl, ?_⟩
      show rk t < S1 (2388 + S (2418 + t)) ∧ z_ord S1 (S (2418 + t)) (rk t) = t
      have eo : ∀ a b, z_ord S1 a b = z_ord T a b := fun a b => f3 _ (by omega)
      rw [eo, f3 _ (by omega)]
      by_cases v : S (2418 + t) = d
      · rw [v] at k1 k2 ⊢
        have v2 : rk t ≤ p := Nat.le_of_not_lt (fun y => w ⟨c2, v, y, hk t ht⟩)
        rw [t2, t3 _ v2]
        exact ⟨by omega, k2⟩
      · rw [t7 _ l4 v, t6 _ _ l4 v (by omega)]
        exact ⟨k1, k2⟩)
  have hQ1 : y_Q 1 Mb N S1 (z_sta S) := y_Q_gen hQ hT2 (fun d2 hd2 => by
      have ho : z_onum S1 d2 = z_onum S d2 := by
        have q1 := (I_ori hI d2 hd2).1
        unfold z_onum
        rw [sE _ (by omega) (by omega)]
        by_cases q : S (2310 + d2) = 0
        · rw [if_pos q, if_pos q]
        · rw [if_neg q, if_neg q, sN _ (by omega), if_neg]
          intro x
          obtain ⟨y1, y2⟩ := hrk _ (by omega) x.1
          rw [x.2.1] at y1 y2
          have y3 := x.2.2.1
          have y4 := orN_0.mp (hno (rk (S (2310 + d2) - 1) - p) (by omega) (by omega)) d2 hd2
          rw [show p + (rk (S (2310 + d2) - 1) - p) = rk (S (2310 + d2) - 1) by omega, y2] at y4
          omega
      rw [fM _ (by omega) (fun u hu => by omega) (fun t ht => by omega), ho, sE _ (by omega) (by omega)]
      exact hR.2.1 d2 hd2) hsn (R_sc_S (R_sc_cg hR.2.2.2.2.2 (fM _ (by omega) (fun u hu => by omega) (fun t ht => by omega))) (fun k k1 k2 => sR k (by omega))) (fun k k1 k2 => sR k (by omega)) (fun a k1 k2 => fM a (by omega) (fun u hu => by omega) (fun t ht => by omega)) (fun a k1 k2 => fM a (by omega) (fun u hu => by omega) (fun t ht => by omega))
  obtain ⟨⟨M2, s1, s2, s3⟩, s4⟩ := z_set2 hn hQ1 hI hIs1 (fun k hk2 => by
      by_cases q : k < 768
      · rw [f1 k q]
        split
        · exact Or.inr ⟨_, by omega, rfl⟩
        · exact Or.inr ⟨k, hk2, rfl⟩
      · obtain ⟨t, x, ht, hx, rfl⟩ : ∃ t x, t < 12 ∧ x < 128 ∧ k = 768 + 128 * t + x := ⟨(k - 768) / 128, (k - 768) % 128, by omega, by omega, by omega⟩
        rw [f2 t x ht hx]
        split
        · exact Or.inl rfl
        · exact Or.inr ⟨_, hk2, rfl⟩) (fun d2 hd2 q x hx => by
      rw [sE _ (by omega) (by omega)] at q
      have hne : d2 ≠ d := fun e => by rw [e] at q; omega
      rw [f1 _ (by omega), if_neg (by omega)]
      exact I_te hI d2 hd2 q x hx) (fun t ht q x hx => by
      rw [f2 t x ht hx]
      rw [sN t ht] at q
      by_cases w : z_bh S rk d p (c - 1 - p) t
      · rw [if_pos w]
      · rw [if_neg w] at q ⊢
        exact I_se hI t ht q x hx) (fun k k1 k2 => sR k (by omega))
  exact ⟨Mf, Mb, _, M2, e1, g1, s1, s2, s4, hT2.2.2, fun a ha => by rw [s3 a (by omega), fM a (by omega) (fun u hu => by omega) (fun t ht => by omega)]⟩
/-! ===== promote ===== -/
theorem sumN_add {f g : Nat → Nat} : ∀ {n : Nat}, sumN (fun i => f i + g i) n = sumN f n + sumN g n
  | 0 => rfl
  | n + 1 => by
    have ih := sumN_add (f := f) (g := g) (n := n)
    show sumN (fun i => f i + g i) n + (f n + g n) = sumN f n + f n + (sumN g n + g n)
    omega
theorem own2 {n : Nat} {S : Nat → Nat} (hI : z_I n S) {d o : Nat} (hd : d < 6) (ho : o < 6) (hne : d ≠ o) : S (2388 + d) + S (2388 + o) ≤ 12 := by
  rw [← z_own_cnt hI hd, ← z_own_cnt hI ho, ← sumN_add]
  have := sumN_le (g := fun i => z_own S d i + z_own S o i) (c := 1) (n := 12) (fun i _ => by
    show z_own S d i + z_own S o i ≤ 1
    unfold z_own
    by_cases q : S (2394 + i) ≠ 0 ∧ S (2418 + i) = d
    · rw [if_pos q, if_neg (fun x => hne (by rw [← q.2, x.2]))]
      omega
    · rw [if_neg q]
      split <;> omega)
  omega
def prA (S : Nat → Nat) (d p c : Nat) : Nat → Nat := rngN S (2316 + 12 * d + (p + 1)) c (fun j => S (2316 + 12 * d + j))
def prB (S : Nat → Nat) (d o p c : Nat) : Nat → Nat := rngN (prA S d p c) (2316 + 12 * d) (p + 1) (fun j => S (2316 + 12 * o + j))
abbrev prW' (S rk : Nat → Nat) (o i t : Nat) : Prop := S (2394 + t) ≠ 0 ∧ S (2418 + t) = o ∧ rk t < i
def prC (S rk : Nat → Nat) (d o p c i : Nat) : Nat → Nat := fun k => if 2418 ≤ k ∧ k < 2430 ∧ prW' S rk o i (k - 2418) then d else prB S d o p c k
def prD (S rk : Nat → Nat) (d o p c c2 : Nat) : Nat → Nat := updN (updN (prC S rk d o p c (p + 1)) (2388 + d) (c + (p + 1))) (2388 + o) (c2 - (p + 1))
def prE (S rk : Nat → Nat) (d o p c c2 : Nat) : Nat → Nat := rngN (prD S rk d o p c c2) (2316 + 12 * o) (c2 - (p + 1)) (fun j => S (2316 + 12 * o + j + (p + 1)))
def prS (S rk : Nat → Nat) (d o p s c c2 : Nat) : Nat → Nat := updN (updN (prE S rk d o p c c2) (2310 + d) (S (2310 + o))) (2310 + o) (s + 1)
section
variable {S rk : Nat → Nat} {d o p s c c2 : Nat}
theorem pr_T (hd : d < 6) (ho : o < 6) (hc : c + (p + 1) ≤ 12) (hc2 : c2 ≤ 12) {k : Nat} (hk : k < 2310 ∨ (2394 ≤ k ∧ k < 2418) ∨ 2430 ≤ k) : prS S rk d o p s c c2 k = S k := by
  unfold prS prE prD prC prB prA
  rw [upN_n (by omega), upN_n (by omega), rng_out (by omega), upN_n (by omega), upN_n (by omega), if_neg (by omega), rng_out (by omega), rng_out (by omega)]
theorem pr_O (hd : d < 6) (ho : o < 6) (hc : c + (p + 1) ≤ 12) (hc2 : c2 ≤ 12) {e : Nat} (he : e < 6) : prS S rk d o p s c c2 (2310 + e) = if e = o then s + 1 else if e = d then S (2310 + o) else S (2310 + e) := by
  unfold prS
  by_cases q : e = o
  · rw [if_pos q, q, upN_s]
  · rw [if_neg q, upN_n (by omega)]
    by_cases q2 : e = d
    · rw [if_pos q2, q2, upN_s]
    · rw [if_neg q2, upN_n (by omega)]
      unfold prE prD prC prB prA
      rw [rng_out (by omega), upN_n (by omega), upN_n (by omega), if_neg (by omega), rng_out (by omega), rng_out (by omega)]
theorem pr_R (hd : d < 6) (ho : o < 6) (hne : d ≠ o) (hc : c + (p + 1) ≤ 12) (hc2 : c2 ≤ 12) {e r : Nat} (he : e < 6) (hr : r < 12) : z_ord (prS S rk d o p s c c2) e r = if e = d ∧ r < p + 1 then z_ord S o r else if e = d ∧ r < p + 1 + c then z_ord S d (r - (p + 1)) else if e = o ∧ r < c2 - (p + 1) then z_ord S o (r + (p + 1)) else z_ord S e r := by
  unfold z_ord prS prE prD prC
  rw [upN_n (by omega), upN_n (by omega)]
  by_cases q1 : e = d ∧ r < p + 1
  · obtain ⟨rfl, q1⟩ := q1
    rw [if_pos ⟨rfl, q1⟩, rng_out (by omega), upN_n (by omega), upN_n (by omega), if_neg (by omega)]
    unfold prB
    rw [rng_in (by omega) (by omega)]
    congr 1
    omega
  · rw [if_neg q1]
    by_cases q2 : e = d ∧ r < p + 1 + c
    · obtain ⟨rfl, q2⟩ := q2
      rw [if_pos ⟨rfl, q2⟩, rng_out (by omega), upN_n (by omega), upN_n (by omega), if_neg (by omega)]
      unfold prB prA
      rw [rng_out (by omega), rng_in (by omega) (by omega)]
      congr 1
      omega
    · rw [if_neg q2]
      by_cases q3 : e = o ∧ r < c2 - (p + 1)
      · obtain ⟨rfl, q3⟩ := q3
        rw [if_pos ⟨rfl, q3⟩, rng_in (by omega) (by omega)]
        congr 1
        omega
      · rw [if_neg q3, rng_out (by omega), upN_n (by omega), upN_n (by omega), if_neg (by omega)]
        unfold prB prA
        rw [rng_out (by omega), rng_out (by omega)]
theorem pr_C (hd : d < 6) (ho : o < 6) (hne : d ≠ o) (hc : c + (p + 1) ≤ 12) (hc2 : c2 ≤ 12) {e : Nat} (he : e < 6) : prS S rk d o p s c c2 (2388 + e) = if e = d then c + (p + 1) else if e = o then c2 - (p + 1) else S (2388 + e) := by
  unfold prS prE prD
  rw [upN_n (by omega), upN_n (by omega), rng_out (by omega)]
  by_cases q : e = d
  · rw [if_pos q, upN_n (by omega), q, upN_s]
  · rw [if_neg q]
    by_cases q2 : e = o
    · rw [if_pos q2, q2, upN_s]
    · rw [if_neg q2, upN_n (by omega), upN_n (by omega)]
      unfold prC prB prA
      rw [if_neg (by omega), rng_out (by omega), rng_out (by omega)]
theorem pr_W (hd : d < 6) (ho : o < 6) (hc : c + (p + 1) ≤ 12) (hc2 : c2 ≤ 12) {t : Nat} (ht : t < 12) : prS S rk d o p s c c2 (2418 + t) = if prW' S rk o (p + 1) t then d else S (2418 + t) := by
  unfold prS prE prD prC
  rw [upN_n (by omega), upN_n (by omega), rng_out (by omega), upN_n (by omega), upN_n (by omega)]
  by_cases q : prW' S rk o (p + 1) t
  · rw [if_pos q, if_pos ⟨by omega, by omega, by rw [Nat.add_sub_cancel_left]; exact q⟩]
  · rw [if_neg q, if_neg (fun x => q (by have := x.2.2; rw [Nat.add_sub_cancel_left] at this; exact this))]
    unfold prB prA
    rw [rng_out (by omega), rng_out (by omega)]
end
theorem pr_Is {n : Nat} {S rk : Nat → Nat} (hI : z_I n S) {d o p s c c2 : Nat} (hd : d < 6) (ho : o < 6) (hne : d ≠ o) (hdx : S (2304 + d) = 1) (hs : s < 12) (h0 : S (2394 + s) ≠ 0) (hso : S (2418 + s) = o) (hcc : c = S (2388 + d)) (hcc2 : c2 = S (2388 + o)) (hp : p < c2) (hop : z_ord S o p = s) (hor : S (2310 + d) = s + 1) (hrk : ∀ t, t < 12 → S (2394 + t) ≠ 0 → rk t < S (2388 + S (2418 + t)) ∧ z_ord S (S (2418 + t)) (rk t) = t) : z_Is n (prS S rk d o p s c c2) := by
  have hc12 := own2 hI hd ho hne
  rw [← hcc, ← hcc2] at hc12
  have h1 : c + (p + 1) ≤ 12 := by omega
  have h2 : c2 ≤ 12 := by omega
  have hplo := rk_pl hI ho hrk
  rw [← hcc2] at hplo
  have eT := fun {k : Nat} (hk : k < 2310 ∨ (2394 ≤ k ∧ k < 2418) ∨ 2430 ≤ k) => pr_T (S := S) (rk := rk) (s := s) hd ho h1 h2 hk
  have eO := fun {e : Nat} (he : e < 6) => pr_O (S := S) (rk := rk) (s := s) hd ho h1 h2 he
  have eR := fun {e r : Nat} (he : e < 6) (hr : r < 12) => pr_R (S := S) (rk := rk) (s := s) hd ho hne h1 h2 he hr
  have eC := fun {e : Nat} (he : e < 6) => pr_C (S := S) (rk := rk) (s := s) hd ho hne h1 h2 he
  have eW := fun {t : Nat} (ht : t < 12) => pr_W (S := S) (rk := rk) (s := s) hd ho h1 h2 ht
  have hox : S (2304 + o) = 1 := by rw [← hso]; exact (I_liv hI s hs h0).2.2.1
  obtain ⟨i1, i2, i3, i4, i5, i6, i7, i8, i9, j1, j2, j3, j5⟩ := hI.1
  obtain ⟨o12, oo⟩ := i6 o ho
  obtain ⟨d12, od⟩ := i6 d hd
  rw [← hcc2] at o12 oo
  rw [← hcc] at d12 od
  have ao := i7 o ho
  have ad := i7 d hd
  rw [← hcc2] at ao
  rw [← hcc] at ad
  obtain ⟨_, g8⟩ := i8 d hd
  have g8 := (g8 (by omega)).2
  rw [hor, Nat.add_sub_cancel, ← hcc] at g8
  have hnp : ∀ r, r ≤ p → S (2394 + z_ord S o r) ≤ S (2394 + s) := fun r hr => by
    by_cases q : r = p
    · rw [q, hop]
      exact Nat.le_refl _
    · have := ao r p (by omega) hp
      rw [hop] at this
      omega
  refine ⟨fun e he => by rw [eT (by omega)]; exact i1 e he, ?_, fun e he => ?_, fun t ht q => ?_, fun t u ht hu => by rw [eT (by omega), eT (by omega)]; exact i5 t u ht hu, fun e he => ?_, fun e he r q hr hq => ?_, fun e he => ?_, fun r hr => by rw [eT (by omega)]; exact i9 r hr, by rw [eT (by omega)]; exact j1, by rw [eT (by omega)]; exact j2, by rw [eT (by omega)]; exact j3, fun s hs => by rw [eT (by omega)]; exact j5 s hs⟩
  · obtain ⟨e, he, q⟩ := i2
    exact ⟨e, he, by rw [eT (by omega)]; exact q⟩
  · rw [eT (by omega)]
    intro q
    have n1 : e ≠ d := fun x => by rw [x] at q; omega
    have n2 : e ≠ o := fun x => by rw [x] at q; omega
    rw [eO he, if_neg n2, if_neg n1, eC he, if_neg n1, if_neg n2]
    exact i3 e he q
  · rw [eT (by omega)] at q
    obtain ⟨q1, q2, q3, _⟩ := i4 t ht q
    obtain ⟨q4, q5⟩ := hrk t ht q
    unfold z_liv
    rw [eT (by omega), eT (by omega), eW ht]
    have r12 := (i6 _ q2).1
    by_cases w : prW' S rk o (p + 1) t
    · rw [if_pos w]
      obtain ⟨_, w2, w3⟩ := w
      rw [w2] at q4 q5
      refine ⟨q1, hd, by rw [eT (by omega)]; exact hdx, rk t, by rw [eC hd, if_pos rfl]; omega, ?_⟩
      rw [eR hd (by omega), if_pos ⟨rfl, w3⟩]
      exact q5
    · rw [if_neg w]
      refine ⟨q1, q2, by rw [eT (by omega)]; exact q3, ?_⟩
      by_cases v : S (2418 + t) = o
      · have w3 : p + 1 ≤ rk t := Nat.le_of_not_lt (fun x => w ⟨q, v, x⟩)
        rw [v] at q4 q5 ⊢
        rw [← hcc2] at q4
        refine ⟨rk t - (p + 1), by rw [eC ho, if_neg (fun x => hne x.symm), if_pos rfl]; omega, ?_⟩
        rw [eR ho (by omega), if_neg (fun x => hne x.1.symm), if_neg (fun x => hne x.1.symm), if_pos ⟨rfl, by omega⟩, show rk t - (p + 1) + (p + 1) = rk t by omega]
        exact q5
      · by_cases v2 : S (2418 + t) = d
        · rw [v2] at q4 q5 ⊢
          rw [← hcc] at q4
          refine ⟨rk t + (p + 1), by rw [eC hd, if_pos rfl]; omega, ?_⟩
          rw [eR hd (by omega), if_neg (fun x => by have := x.2; omega), if_pos ⟨rfl, by omega⟩, show rk t + (p + 1) - (p + 1) = rk t by omega]
          exact q5
        · refine ⟨rk t, by rw [eC q2, if_neg v2, if_neg v]; exact q4, ?_⟩
          rw [eR q2 (by omega), if_neg (fun x => v2 x.1), if_neg (fun x => v2 x.1), if_neg (fun x => v x.1)]
          exact q5
  · rw [eC he]
    have r12 := (i6 e he).1
    by_cases v : e = d
    · subst v
      rw [if_pos rfl]
      refine ⟨h1, fun r hr => ?_⟩
      rw [eR he (by omega)]
      by_cases w : r < p + 1
      · obtain ⟨k1, k2, k3⟩ := oo r (by omega)
        rw [if_pos ⟨rfl, w⟩, eT (by omega), eW k1, if_pos ⟨k2, k3, by rw [hplo r (by omega)]; exact w⟩]
        exact ⟨k1, k2, rfl⟩
      · obtain ⟨k1, k2, k3⟩ := od (r - (p + 1)) (by omega)
        rw [if_neg (fun x => w x.2), if_pos ⟨rfl, by omega⟩, eT (by omega), eW k1, if_neg (fun x => hne (by rw [← k3, x.2.1]))]
        exact ⟨k1, k2, k3⟩
    · rw [if_neg v]
      by_cases v2 : e = o
      · subst v2
        rw [if_pos rfl]
        refine ⟨by omega, fun r hr => ?_⟩
        obtain ⟨k1, k2, k3⟩ := oo (r + (p + 1)) (by omega)
        rw [eR he (by omega), if_neg (fun x => v x.1), if_neg (fun x => v x.1), if_pos ⟨rfl, hr⟩, eT (by omega), eW k1, if_neg (fun x => by
          have := x.2.2
          rw [hplo _ (by omega)] at this
          omega)]
        exact ⟨k1, k2, k3⟩
      · rw [if_neg v2]
        refine ⟨r12, fun r hr => ?_⟩
        obtain ⟨k1, k2, k3⟩ := (i6 e he).2 r hr
        rw [eR he (by omega), if_neg (fun x => v x.1), if_neg (fun x => v x.1), if_neg (fun x => v2 x.1), eT (by omega), eW k1, if_neg (fun x => v2 (by rw [← k3, x.2.1]))]
        exact ⟨k1, k2, k3⟩
  · rw [eC he] at hq
    have r12 := (i6 e he).1
    by_cases v : e = d
    · subst v
      rw [if_pos rfl] at hq
      have eD1 : ∀ r, r < p + 1 → z_ord (prS S rk e o p s c c2) e r = z_ord S o r := fun r hr => by rw [eR he (by omega), if_pos ⟨rfl, hr⟩]
      have eD2 : ∀ r, p + 1 ≤ r → r < c + (p + 1) → z_ord (prS S rk e o p s c c2) e r = z_ord S e (r - (p + 1)) := fun r hr hr2 => by rw [eR he (by omega), if_neg (fun x => by have := x.2; omega), if_pos ⟨rfl, by omega⟩]
      by_cases w : q < p + 1
      · rw [eD1 r (by omega), eD1 q w, eT (by have := (oo r (by omega)).1; omega), eT (by have := (oo q (by omega)).1; omega)]
        exact ao r q hr (by omega)
      · rw [eD2 q (by omega) hq]
        have k1 := (od (q - (p + 1)) (by omega)).1
        by_cases w2 : r < p + 1
        · have k2 := (oo r (by omega)).1
          rw [eD1 r w2, eT (by omega), eT (by omega)]
          have := hnp r (by omega)
          have := g8 (q - (p + 1)) (by omega)
          omega
        · have k2 := (od (r - (p + 1)) (by omega)).1
          rw [eD2 r (by omega) (by omega), eT (by omega), eT (by omega)]
          exact ad _ _ (by omega) (by omega)
    · rw [if_neg v] at hq
      by_cases v2 : e = o
      · subst v2
        rw [if_pos rfl] at hq
        have k1 := (oo (q + (p + 1)) (by omega)).1
        have k2 := (oo (r + (p + 1)) (by omega)).1
        rw [eR he (by omega), eR he (by omega), if_neg (fun x => v x.1), if_neg (fun x => v x.1), if_pos ⟨rfl, by omega⟩, if_neg (fun x => v x.1), if_neg (fun x => v x.1), if_pos ⟨rfl, by omega⟩, eT (by omega), eT (by omega)]
        exact ao _ _ (by omega) (by omega)
      · rw [if_neg v2] at hq
        have k1 := ((i6 e he).2 q hq).1
        have k2 := ((i6 e he).2 r (by omega)).1
        rw [eR he (by omega), eR he (by omega), if_neg (fun x => v x.1), if_neg (fun x => v x.1), if_neg (fun x => v2 x.1), if_neg (fun x => v x.1), if_neg (fun x => v x.1), if_neg (fun x => v2 x.1), eT (by omega), eT (by omega)]
        exact i7 e he r q hr hq
  · rw [eO he, eC he]
    by_cases v : e = o
    · subst v
      rw [if_pos rfl, if_neg (fun x => hne x.symm), if_pos rfl]
      refine ⟨by omega, fun _ => ?_⟩
      rw [Nat.add_sub_cancel, eT (by omega)]
      refine ⟨h0, fun r hr => ?_⟩
      have k2 := (oo (r + (p + 1)) (by omega)).1
      rw [eR he (by omega), if_neg (fun x => hne x.1.symm), if_neg (fun x => hne x.1.symm), if_pos ⟨rfl, hr⟩, eT (by omega)]
      have := ao p (r + (p + 1)) (by omega) (by omega)
      rw [hop] at this
      exact this
    · rw [if_neg v]
      by_cases v2 : e = d
      · subst v2
        rw [if_pos rfl, if_pos rfl]
        obtain ⟨m1, m2⟩ := i8 o ho
        refine ⟨m1, fun q => ?_⟩
        obtain ⟨m3, m4⟩ := m2 q
        rw [← hcc2] at m4
        rw [eT (by omega)]
        refine ⟨m3, fun r hr => ?_⟩
        rw [eR he (by omega)]
        by_cases w : r < p + 1
        · have k1 := (oo r (by omega)).1
          rw [if_pos ⟨rfl, w⟩, eT (by omega)]
          exact m4 r (by omega)
        · have k1 := (od (r - (p + 1)) (by omega)).1
          rw [if_neg (fun x => w x.2), if_pos ⟨rfl, by omega⟩, eT (by omega)]
          have z1 := m4 p hp
          rw [hop] at z1
          have := g8 (r - (p + 1)) (by omega)
          omega
      · rw [if_neg v2, if_neg v2, if_neg v]
        obtain ⟨m1, m2⟩ := i8 e he
        refine ⟨m1, fun q => ?_⟩
        obtain ⟨m3, m4⟩ := m2 q
        rw [eT (by omega)]
        refine ⟨m3, fun r hr => ?_⟩
        have r12 := (i6 e he).1
        have k1 := ((i6 e he).2 r hr).1
        rw [eR he (by omega), if_neg (fun x => v2 x.1), if_neg (fun x => v2 x.1), if_neg (fun x => v x.1), eT (by omega)]
        exact m4 r hr
theorem cBel2 {V : Nat} {M : zM} {ex ow rk : Nat → Nat} (h : y_sl V M ex ow rk) {t e : Nat} (ht : t < 12) (he : e < 6) : fX2_belongsTo (V + 27 + 3 * t) (nI e) M = some (nI (if ex t ≠ 0 ∧ ow t = e then 1 else 0)) := by
  obtain ⟨b1, b2, b3⟩ := h t ht
  unfold fX2_belongsTo
  by_cases q : ex t = 0
  · rw [show (if ex t ≠ 0 ∧ ow t = e then 1 else 0) = 0 from if_neg (fun c => c.1 q)]
    simp (disch := first | omega | assumption) only [l_0, l_1, l_2, l_3, l_4, l_5, l_6, l_7, l_8, l_11, l_12, l_15, l_16, l_31, l_32, l_66, l_80, l_100, l_127, l_128, l_768, l_2304, l_2310, l_2316, l_2388, l_2394, l_2406, l_2418, l_2430, l_2558, l_2686, l_2814, l_2942, l_3070, l_3390, l_3394, l_3395, l_3396, l_3397, n_leT, n_leF, n_ltT, n_ltF, n_eqT, n_eqF, nI_add, pk_mul, n_sub, z_ldn, z_san, z_bs, z_b2s, z_b3s, z_ocN, z_ocS, z_oxL, z_oxR, z_scL, z_scR, ↓reduceIte, Nat.zero_add, Nat.add_zero, Nat.zero_lt_succ, true_and, and_true, eq_self, b1, q]
  · obtain ⟨b4, b5, b6, b7⟩ := b3 q
    by_cases q2 : ow t = e
    · rw [show (if ex t ≠ 0 ∧ ow t = e then 1 else 0) = 1 from if_pos ⟨q, q2⟩]
      simp (disch := first | omega | assumption) only [l_0, l_1, l_2, l_3, l_4, l_5, l_6, l_7, l_8, l_11, l_12, l_15, l_16, l_31, l_32, l_66, l_80, l_100, l_127, l_128, l_768, l_2304, l_2310, l_2316, l_2388, l_2394, l_2406, l_2418, l_2430, l_2558, l_2686, l_2814, l_2942, l_3070, l_3390, l_3394, l_3395, l_3396, l_3397, n_leT, n_leF, n_ltT, n_ltF, n_eqT, n_eqF, nI_add, pk_mul, n_sub, z_ldn, z_san, z_bs, z_b2s, z_b3s, z_ocN, z_ocS, z_oxL, z_oxR, z_scL, z_scR, ↓reduceIte, Nat.zero_add, Nat.add_zero, Nat.zero_lt_succ, true_and, and_true, eq_self, b1, b4, q2]
    · rw [show (if ex t ≠ 0 ∧ ow t = e then 1 else 0) = 0 from if_neg (fun c => q2 c.2)]
      simp (disch := first | omega | assumption) only [l_0, l_1, l_2, l_3, l_4, l_5, l_6, l_7, l_8, l_11, l_12, l_15, l_16, l_31, l_32, l_66, l_80, l_100, l_127, l_128, l_768, l_2304, l_2310, l_2316, l_2388, l_2394, l_2406, l_2418, l_2430, l_2558, l_2686, l_2814, l_2942, l_3070, l_3390, l_3394, l_3395, l_3396, l_3397, n_leT, n_leF, n_ltT, n_ltF, n_eqT, n_eqF, nI_add, pk_mul, n_sub, z_ldn, z_san, z_bs, z_b2s, z_b3s, z_ocN, z_ocS, z_oxL, z_oxR, z_scL, z_scR, ↓reduceIte, Nat.zero_add, Nat.add_zero, Nat.zero_lt_succ, true_and, and_true, eq_self, b1, b4]
def ho_w (S rk : Nat → Nat) (d o p i : Nat) : Nat → Nat := fun t => if t < i ∧ S (2418 + t) = o ∧ rk t ≤ p then d else S (2418 + t)
def ho_r (S rk : Nat → Nat) (d o p i : Nat) : Nat → Nat := fun t => if t < i ∧ S (2418 + t) = d then rk t + (p + 1) else if t < i ∧ S (2418 + t) = o ∧ p < rk t then rk t - (p + 1) else rk t
theorem ho_n {S rk : Nat → Nat} {d o p i t : Nat} (h : t ≠ i) : ho_w S rk d o p (i + 1) t = ho_w S rk d o p i t ∧ ho_r S rk d o p (i + 1) t = ho_r S rk d o p i t := by
  have e : (t < i + 1) = (t < i) := propext (by omega)
  refine ⟨?_, ?_⟩
  · unfold ho_w
    by_cases q : t < i ∧ S (2418 + t) = o ∧ rk t ≤ p
    · rw [if_pos q, if_pos (by rw [e]; exact q)]
    · rw [if_neg q, if_neg (by rw [e]; exact q)]
  · unfold ho_r
    by_cases q : t < i ∧ S (2418 + t) = d
    · rw [if_pos q, if_pos (by rw [e]; exact q)]
    · rw [if_neg q, if_neg (show ¬ (t < i + 1 ∧ S (2418 + t) = d) by rw [e]; exact q)]
      by_cases q2 : t < i ∧ S (2418 + t) = o ∧ p < rk t
      · rw [if_pos q2, if_pos (by rw [e]; exact q2)]
      · rw [if_neg q2, if_neg (by rw [e]; exact q2)]
theorem ho_b {S rk : Nat → Nat} {d o p i t : Nat} (h : i ≤ t) : ho_w S rk d o p i t = S (2418 + t) ∧ ho_r S rk d o p i t = rk t := by
  unfold ho_w ho_r
  rw [if_neg (fun x => absurd x.1 (by omega)), if_neg (fun x => absurd x.1 (by omega)), if_neg (fun x => absurd x.1 (by omega))]
  exact ⟨rfl, rfl⟩
theorem cHand {M : zM} {S rk : Nat → Nat} {d o p s : Nat} (hd : d < 6) (ho : o < 6) (hne : d ≠ o) (hs : s < 12) (hsl : y_sl 1 M (z_ex S) (fun t => S (2418 + t)) rk) (c3 : M (1 + 27 + 3 * s) 3 = nI o) (c4 : M (1 + 27 + 3 * s) 4 = nI p) (hp : p < 12) (hb : ∀ t, t < 12 → S (2394 + t) ≠ 0 → S (2418 + t) = d → rk t + (p + 1) < 12) : ∃ M', fX5_handOver 1 (1 + 27 + 3 * s) (nI d) M = some M' ∧ y_sl 1 M' (z_ex S) (ho_w S rk d o p 12) (ho_r S rk d o p 12) ∧ (∀ t j, t < 12 → j ≠ 3 → j ≠ 4 → M' (1 + 27 + 3 * t) j = M (1 + 27 + 3 * t) j) ∧ ∀ a, (∀ t, t < 12 → a ≠ 1 + 27 + 3 * t) → M' a = M a := by
  unfold fX5_handOver
  obtain ⟨M', e1, e2⟩ := z_loopM (f := fun x : Int32 × zM => fX5_handOver_L1 1 (1 + 27 + 3 * s) (nI d) M x.1 x.2) (fun i M' => y_sl 1 M' (z_ex S) (ho_w S rk d o p i) (ho_r S rk d o p i) ∧ (∀ t j, t < 12 → j ≠ 3 → j ≠ 4 → M' (1 + 27 + 3 * t) j = M (1 + 27 + 3 * t) j) ∧ ∀ a, (∀ t, t < 12 → a ≠ 1 + 27 + 3 * t) → M' a = M a) (fun M' => y_sl 1 M' (z_ex S) (ho_w S rk d o p 12) (ho_r S rk d o p 12) ∧ (∀ t j, t < 12 → j ≠ 3 → j ≠ 4 → M' (1 + 27 + 3 * t) j = M (1 + 27 + 3 * t) j) ∧ ∀ a, (∀ t, t < 12 → a ≠ 1 + 27 + 3 * t) → M' a = M a) 0 12 (by decide) (s := 0) (M := M) rfl ⟨fun t ht => by
      rw [(ho_b (Nat.zero_le t)).1, (ho_b (Nat.zero_le t)).2]
      exact hsl t ht, fun _ _ _ _ _ => rfl, fun _ _ => rfl⟩ (fun i M' hi hI9 => by
      obtain ⟨b1, b2, b3⟩ := hI9
      have bd := cBel2 b1 hi hd
      have bo := cBel2 b1 hi ho
      obtain ⟨hw, hr⟩ := ho_b (S := S) (rk := rk) (d := d) (o := o) (p := p) (Nat.le_refl i)
      rw [hw] at bd bo
      have e12 := z_lq12 (V := 1) hi
      have bi := b1 i hi
      rw [hw, hr] at bi
      obtain ⟨f1, f2, f3⟩ := bi
      -- what stays for the others
      have oth : ∀ (M2 : zM), (∀ t, t < 12 → t ≠ i → M2 (1 + 27 + 3 * t) = M' (1 + 27 + 3 * t)) → (M2 (1 + 27 + 3 * i) 1 = nI (z_ex S i) ∧ z_ex S i ≤ 1 ∧ (z_ex S i ≠ 0 → M2 (1 + 27 + 3 * i) 3 = nI (ho_w S rk d o p (i + 1) i) ∧ ho_w S rk d o p (i + 1) i < 6 ∧ M2 (1 + 27 + 3 * i) 4 = nI (ho_r S rk d o p (i + 1) i) ∧ ho_r S rk d o p (i + 1) i < 12)) → y_sl 1 M2 (z_ex S) (ho_w S rk d o p (i + 1)) (ho_r S rk d o p (i + 1)) := fun M2 h1 h2 t ht => by
        by_cases q : t = i
        · subst q
          exact h2
        · rw [(ho_n q).1, (ho_n q).2, h1 t ht q]
          exact b1 t ht
      by_cases q : z_ex S i = 0
      · rw [show (if z_ex S i ≠ 0 ∧ S (2418 + i) = d then 1 else 0) = 0 from if_neg (fun x => x.1 q)] at bd
        rw [show (if z_ex S i ≠ 0 ∧ S (2418 + i) = o then 1 else 0) = 0 from if_neg (fun x => x.1 q)] at bo
        refine ⟨M', ?_, oth M' (fun _ _ _ => rfl) ⟨f1, f2, fun x => absurd q x⟩, b2, b3⟩
        simp (disch := first | omega | assumption) only [l_0, l_1, l_2, l_3, l_4, l_5, l_6, l_7, l_8, l_11, l_12, l_15, l_16, l_31, l_32, l_66, l_80, l_100, l_127, l_128, l_768, l_2304, l_2310, l_2316, l_2388, l_2394, l_2406, l_2418, l_2430, l_2558, l_2686, l_2814, l_2942, l_3070, l_3390, l_3394, l_3395, l_3396, l_3397, n_leT, n_leF, n_ltT, n_ltF, n_eqT, n_eqF, nI_add, pk_mul, n_sub, z_ldn, z_san, z_bs, z_b2s, z_b3s, z_ocN, z_ocS, z_oxL, z_oxR, z_scL, z_scR, ↓reduceIte, Nat.zero_add, Nat.add_zero, Nat.zero_lt_succ, true_and, and_true, eq_self, fX5_handOver_L1, e12, bd, c3, bo]
      · obtain ⟨f4, f5, f6, f7⟩ := f3 q
        have hlive : S (2394 + i) ≠ 0 := fun x => q (ex_0 x)
        by_cases v1 : S (2418 + i) = d
        · rw [show (if z_ex S i ≠ 0 ∧ S (2418 + i) = d then 1 else 0) = 1 from if_pos ⟨q, v1⟩] at bd
          have hb1 := hb i hi hlive v1
          have w1 : ho_w S rk d o p (i + 1) i = S (2418 + i) := if_neg (fun x => hne (by rw [← v1, x.2.1]))
          have w2 : ho_r S rk d o p (i + 1) i = rk i + (p + 1) := if_pos ⟨Nat.lt_succ_self i, v1⟩
          refine ⟨z_st M' (1 + 27 + 3 * i) 4 (nI (rk i + (p + 1))), ?_, oth _ (fun t ht x => s_n (by omega)) ⟨?_, f2, fun _ => ⟨?_, ?_, ?_, ?_⟩⟩, fun t j ht j3 j4 => ?_, fun a ha => by rw [s_n (ha i hi)]; exact b3 a ha⟩
          · simp (disch := first | omega | assumption) only [l_0, l_1, l_2, l_3, l_4, l_5, l_6, l_7, l_8, l_11, l_12, l_15, l_16, l_31, l_32, l_66, l_80, l_100, l_127, l_128, l_768, l_2304, l_2310, l_2316, l_2388, l_2394, l_2406, l_2418, l_2430, l_2558, l_2686, l_2814, l_2942, l_3070, l_3390, l_3394, l_3395, l_3396, l_3397, n_leT, n_leF, n_ltT, n_ltF, n_eqT, n_eqF, nI_add, pk_mul, n_sub, z_ldn, z_san, z_bs, z_b2s, z_b3s, z_ocN, z_ocS, z_oxL, z_oxR, z_scL, z_scR, ↓reduceIte, Nat.zero_add, Nat.add_zero, Nat.zero_lt_succ, true_and, and_true, eq_self, fX5_handOver_L1, e12, bd, f6, c4]
          · rw [s_s, u_n (by decide)]
            exact f1
          · rw [s_s, u_n (by decide), w1]
            exact f4
          · rw [w1]
            exact f5
          · rw [s_s, u_s, w2]
          · rw [w2]
            exact hb1
          · by_cases x : t = i
            · rw [x, s_s, u_n j4]
              exact b2 i j hi j3 j4
            · rw [s_n (by omega)]
              exact b2 t j ht j3 j4
        · rw [show (if z_ex S i ≠ 0 ∧ S (2418 + i) = d then 1 else 0) = 0 from if_neg (fun x => v1 x.2)] at bd
          by_cases v2 : S (2418 + i) = o
          · rw [show (if z_ex S i ≠ 0 ∧ S (2418 + i) = o then 1 else 0) = 1 from if_pos ⟨q, v2⟩] at bo
            by_cases v3 : rk i ≤ p
            · have w1 : ho_w S rk d o p (i + 1) i = d := if_pos ⟨Nat.lt_succ_self i, v2, v3⟩
              have w2 : ho_r S rk d o p (i + 1) i = rk i := by
                unfold ho_r
                rw [if_neg (fun x => v1 x.2), if_neg (fun x => absurd x.2.2 (by omega))]
              refine ⟨z_st M' (1 + 27 + 3 * i) 3 (nI d), ?_, oth _ (fun t ht x => s_n (by omega)) ⟨?_, f2, fun _ => ⟨?_, ?_, ?_, ?_⟩⟩, fun t j ht j3 j4 => ?_, fun a ha => by rw [s_n (ha i hi)]; exact b3 a ha⟩
              · simp (disch := first | omega | assumption) only [l_0, l_1, l_2, l_3, l_4, l_5, l_6, l_7, l_8, l_11, l_12, l_15, l_16, l_31, l_32, l_66, l_80, l_100, l_127, l_128, l_768, l_2304, l_2310, l_2316, l_2388, l_2394, l_2406, l_2418, l_2430, l_2558, l_2686, l_2814, l_2942, l_3070, l_3390, l_3394, l_3395, l_3396, l_3397, n_leT, n_leF, n_ltT, n_ltF, n_eqT, n_eqF, nI_add, pk_mul, n_sub, z_ldn, z_san, z_bs, z_b2s, z_b3s, z_ocN, z_ocS, z_oxL, z_oxR, z_scL, z_scR, ↓reduceIte, Nat.zero_add, Nat.add_zero, Nat.zero_lt_succ, true_and, and_true, eq_self, fX5_handOver_L1, e12, bd, c3, bo, f6, c4]
              · rw [s_s, u_n (by decide)]
                exact f1
              · rw [s_s, u_s, w1]
              · rw [w1]
                exact hd
              · rw [s_s, u_n (by decide), w2]
                exact f6
              · rw [w2]
                exact f7
              · by_cases x : t = i
                · rw [x, s_s, u_n j3]
                  exact b2 i j hi j3 j4
                · rw [s_n (by omega)]
                  exact b2 t j ht j3 j4
            · have w1 : ho_w S rk d o p (i + 1) i = S (2418 + i) := if_neg (fun x => v3 x.2.2)
              have w2 : ho_r S rk d o p (i + 1) i = rk i - (p + 1) := by
                unfold ho_r
                rw [if_neg (fun x => v1 x.2), if_pos ⟨Nat.lt_succ_self i, v2, by omega⟩]
              refine ⟨z_st M' (1 + 27 + 3 * i) 4 (nI (rk i - (p + 1))), ?_, oth _ (fun t ht x => s_n (by omega)) ⟨?_, f2, fun _ => ⟨?_, ?_, ?_, ?_⟩⟩, fun t j ht j3 j4 => ?_, fun a ha => by rw [s_n (ha i hi)]; exact b3 a ha⟩
              · simp (disch := first | omega | assumption) only [l_0, l_1, l_2, l_3, l_4, l_5, l_6, l_7, l_8, l_11, l_12, l_15, l_16, l_31, l_32, l_66, l_80, l_100, l_127, l_128, l_768, l_2304, l_2310, l_2316, l_2388, l_2394, l_2406, l_2418, l_2430, l_2558, l_2686, l_2814, l_2942, l_3070, l_3390, l_3394, l_3395, l_3396, l_3397, n_leT, n_leF, n_ltT, n_ltF, n_eqT, n_eqF, nI_add, pk_mul, n_sub, z_ldn, z_san, z_bs, z_b2s, z_b3s, z_ocN, z_ocS, z_oxL, z_oxR, z_scL, z_scR, ↓reduceIte, Nat.zero_add, Nat.add_zero, Nat.zero_lt_succ, true_and, and_true, eq_self, fX5_handOver_L1, e12, bd, c3, bo, f6, c4]
              · rw [s_s, u_n (by decide)]
                exact f1
              · rw [s_s, u_n (by decide), w1]
                exact f4
              · rw [w1]
                exact f5
              · rw [s_s, u_s, w2]
              · rw [w2]
                omega
              · by_cases x : t = i
                · rw [x, s_s, u_n j4]
                  exact b2 i j hi j3 j4
                · rw [s_n (by omega)]
                  exact b2 t j ht j3 j4
          · rw [show (if z_ex S i ≠ 0 ∧ S (2418 + i) = o then 1 else 0) = 0 from if_neg (fun x => v2 x.2)] at bo
            have w1 : ho_w S rk d o p (i + 1) i = S (2418 + i) := if_neg (fun x => v2 x.2.1)
            have w2 : ho_r S rk d o p (i + 1) i = rk i := by
              unfold ho_r
              rw [if_neg (fun x => v1 x.2), if_neg (fun x => v2 x.2.1)]
            refine ⟨M', ?_, oth M' (fun _ _ _ => rfl) ⟨f1, f2, fun _ => ?_⟩, b2, b3⟩
            · simp (disch := first | omega | assumption) only [l_0, l_1, l_2, l_3, l_4, l_5, l_6, l_7, l_8, l_11, l_12, l_15, l_16, l_31, l_32, l_66, l_80, l_100, l_127, l_128, l_768, l_2304, l_2310, l_2316, l_2388, l_2394, l_2406, l_2418, l_2430, l_2558, l_2686, l_2814, l_2942, l_3070, l_3390, l_3394, l_3395, l_3396, l_3397, n_leT, n_leF, n_ltT, n_ltF, n_eqT, n_eqF, nI_add, pk_mul, n_sub, z_ldn, z_san, z_bs, z_b2s, z_b3s, z_ocN, z_ocS, z_oxL, z_oxR, z_scL, z_scR, ↓reduceIte, Nat.zero_add, Nat.add_zero, Nat.zero_lt_succ, true_and, and_true, eq_self, fX5_handOver_L1, e12, bd, c3, bo]
            · rw [w1, w2]
              exact ⟨f4, f5, f6, f7⟩) (fun M' hI9 => ⟨M', by simp (disch := first | omega | assumption) only [l_0, l_1, l_2, l_3, l_4, l_5, l_6, l_7, l_8, l_11, l_12, l_15, l_16, l_31, l_32, l_66, l_80, l_100, l_127, l_128, l_768, l_2304, l_2310, l_2316, l_2388, l_2394, l_2406, l_2418, l_2430, l_2558, l_2686, l_2814, l_2942, l_3070, l_3390, l_3394, l_3395, l_3396, l_3397, n_leT, n_leF, n_ltT, n_ltF, n_eqT, n_eqF, nI_add, pk_mul, n_sub, z_ldn, z_san, z_bs, z_b2s, z_b3s, z_ocN, z_ocS, z_oxL, z_oxR, z_scL, z_scR, ↓reduceIte, Nat.zero_add, Nat.add_zero, Nat.zero_lt_succ, true_and, and_true, eq_self, fX5_handOver_L1], hI9⟩)
  exact ⟨M', by rw [e1]; rfl, e2⟩
/-! ===== one volume copied to the other; crash ===== -/
theorem cp_s {M : zM} {k0 k j : Nat} (h : j < 128) : z_cpy M k0 k (nI 128) k j = M k0 j := by
  unfold z_cpy va_cpy
  have e : (nI 128).toNatClampNeg = 128 := by decide
  rw [if_pos rfl, if_pos ⟨Nat.zero_le _, by rw [e]; omega⟩, Nat.zero_add, Nat.sub_zero]
theorem cp_n {M : zM} {k0 k a : Nat} {n : Int32} (h : a ≠ k) : z_cpy M k0 k n a = M a := if_neg h
theorem cCp0 {X Y v : Nat} {M : zM} (h1 : M Y 1 = nI v) (hv : v ≤ 1) (hd : X ≠ Y ∧ X ≠ Y + 1 + 1 ∧ X + 1 + 1 ≠ Y) : ∃ M', fX0_copyFrom X Y M = some M' ∧ M' X 1 = M Y 1 ∧ M' X 2 = M Y 2 ∧ (∀ p, p < 128 → M' (X + 1 + 1) p = M (Y + 1 + 1) p) ∧ ∀ a, a ≠ X → a ≠ X + 1 + 1 → M' a = M a := by
  unfold fX0_copyFrom fX4_copyFrom
  obtain ⟨d1, d2, d3⟩ := hd
  have e1 : z_cpy M (Y + 1 + 1) (X + 1 + 1) (nI 128) Y = M Y := cp_n (by omega)
  have hp : z_pz (z_cpy M (Y + 1 + 1) (X + 1 + 1) (nI 128)) X 1 (nI v) = some (z_st (z_cpy M (Y + 1 + 1) (X + 1 + 1) (nI 128)) X 1 (nI v)) := by
    by_cases q : v = 0
    · rw [q]
      exact z_pz0
    · rw [show v = 1 by omega]
      exact z_pz1
  have e2 : z_st (z_cpy M (Y + 1 + 1) (X + 1 + 1) (nI 128)) X 1 (nI v) Y = M Y := by rw [s_n (by omega), e1]
  refine ⟨z_st (z_st (z_cpy M (Y + 1 + 1) (X + 1 + 1) (nI 128)) X 1 (nI v)) X 2 (M Y 2), ?_, ?_, ?_, fun p hp => ?_, fun a a1 a2 => by rw [s_n a1, s_n a1, cp_n a2]⟩
  · simp (disch := first | omega | assumption) only [l_0, l_1, l_2, l_3, l_4, l_5, l_6, l_7, l_8, l_11, l_12, l_15, l_16, l_31, l_32, l_66, l_80, l_100, l_127, l_128, l_768, l_2304, l_2310, l_2316, l_2388, l_2394, l_2406, l_2418, l_2430, l_2558, l_2686, l_2814, l_2942, l_3070, l_3390, l_3394, l_3395, l_3396, l_3397, n_leT, n_leF, n_ltT, n_ltF, n_eqT, n_eqF, nI_add, pk_mul, n_sub, z_ldn, z_san, z_bs, z_b2s, z_b3s, z_ocN, z_ocS, z_oxL, z_oxR, z_scL, z_scR, ↓reduceIte, Nat.zero_add, Nat.add_zero, Nat.zero_lt_succ, true_and, and_true, eq_self, e1, h1, hp, e2]
  · rw [s_s, u_n (by decide), s_s, u_s, h1]
  · rw [s_s, u_s]
  · rw [s_n (by omega), s_n (by omega), cp_s hp]
theorem cCp2 {X Y v : Nat} {M : zM} (h1 : M Y 1 = nI v) (hv : v ≤ 1) (hd : X ≠ Y ∧ X ≠ Y + 1 + 1 ∧ X + 1 + 1 ≠ Y) : ∃ M', fX2_copyFrom X Y M = some M' ∧ (∀ j, 1 ≤ j → j ≤ 5 → M' X j = M Y j) ∧ (∀ p, p < 128 → M' (X + 1 + 1) p = M (Y + 1 + 1) p) ∧ ∀ a, a ≠ X → a ≠ X + 1 + 1 → M' a = M a := by
  unfold fX2_copyFrom fX4_copyFrom
  obtain ⟨d1, d2, d3⟩ := hd
  obtain ⟨Mc, hMc⟩ : ∃ Mc, Mc = z_cpy M (Y + 1 + 1) (X + 1 + 1) (nI 128) := ⟨_, rfl⟩
  have e1 : Mc Y = M Y := by rw [hMc]; exact cp_n (by omega)
  have hp : z_pz Mc X 1 (nI v) = some (z_st Mc X 1 (nI v)) := by
    by_cases q : v = 0
    · rw [q]
      exact z_pz0
    · rw [show v = 1 by omega]
      exact z_pz1
  obtain ⟨M1, hM1⟩ : ∃ M1, M1 = z_st Mc X 1 (nI v) := ⟨_, rfl⟩
  have f1 : M1 Y = M Y := by rw [hM1, s_n (by omega), e1]
  obtain ⟨M2, hM2⟩ : ∃ M2, M2 = z_st M1 X 2 (M Y 2) := ⟨_, rfl⟩
  have f2 : M2 Y = M Y := by rw [hM2, s_n (by omega), f1]
  obtain ⟨M3, hM3⟩ : ∃ M3, M3 = z_st M2 X 3 (M Y 3) := ⟨_, rfl⟩
  have f3 : M3 Y = M Y := by rw [hM3, s_n (by omega), f2]
  obtain ⟨M4, hM4⟩ : ∃ M4, M4 = z_st M3 X 4 (M Y 4) := ⟨_, rfl⟩
  have f4 : M4 Y = M Y := by rw [hM4, s_n (by omega), f3]
  obtain ⟨M5, hM5⟩ : ∃ M5, M5 = z_st M4 X 5 (M Y 5) := ⟨_, rfl⟩
  have hrow : M5 X = upd (upd (upd (upd (upd (Mc X) 1 (nI v)) 2 (M Y 2)) 3 (M Y 3)) 4 (M Y 4)) 5 (M Y 5) := by rw [hM5, s_s, hM4, s_s, hM3, s_s, hM2, s_s, hM1, s_s]
  have hoth : ∀ a, a ≠ X → M5 a = Mc a := fun a ha => by rw [hM5, s_n ha, hM4, s_n ha, hM3, s_n ha, hM2, s_n ha, hM1, s_n ha]
  refine ⟨M5, ?_, fun j j1 j5 => ?_, fun p hp => ?_, fun a a1 a2 => by rw [hoth a a1, hMc, cp_n a2]⟩
  · simp (disch := first | omega | assumption) only [l_0, l_1, l_2, l_3, l_4, l_5, l_6, l_7, l_8, l_11, l_12, l_15, l_16, l_31, l_32, l_66, l_80, l_100, l_127, l_128, l_768, l_2304, l_2310, l_2316, l_2388, l_2394, l_2406, l_2418, l_2430, l_2558, l_2686, l_2814, l_2942, l_3070, l_3390, l_3394, l_3395, l_3396, l_3397, n_leT, n_leF, n_ltT, n_ltF, n_eqT, n_eqF, nI_add, pk_mul, n_sub, z_ldn, z_san, z_bs, z_b2s, z_b3s, z_ocN, z_ocS, z_oxL, z_oxR, z_scL, z_scR, ↓reduceIte, Nat.zero_add, Nat.add_zero, Nat.zero_lt_succ, true_and, and_true, eq_self, ← hMc, e1, h1, hp, ← hM1, f1, ← hM2, f2, ← hM3, f3, ← hM4, f4, ← hM5]
  · rw [hrow]
    have : j = 1 ∨ j = 2 ∨ j = 3 ∨ j = 4 ∨ j = 5 := by omega
    rcases this with q | q | q | q | q <;> subst q
    · rw [u_n (by decide), u_n (by decide), u_n (by decide), u_n (by decide), u_s, h1]
    · rw [u_n (by decide), u_n (by decide), u_n (by decide), u_s]
    · rw [u_n (by decide), u_n (by decide), u_s]
    · rw [u_n (by decide), u_s]
    · rw [u_s]
  · rw [hoth _ (by omega), hMc, cp_s hp]
theorem cCp3 {X Y : Nat} {M : zM} (hd : X + 5 ≤ Y ∨ Y + 5 ≤ X) : ∃ M', fX3_copyFrom X Y M = some M' ∧ (∀ q p, 1 ≤ q → q ≤ 4 → p < 128 → M' (X + q) p = M (Y + q) p) ∧ ∀ a, (a ≤ X ∨ X + 5 ≤ a) → M' a = M a := by
  unfold fX3_copyFrom
  refine ⟨_, rfl, fun q p q1 q4 hp => ?_, fun a ha => ?_⟩
  · have : q = 1 ∨ q = 2 ∨ q = 3 ∨ q = 4 := by omega
    show z_cpy (z_cpy (z_cpy (z_cpy M (Y + 1) (X + 1) (nI 128)) (Y + 2) (X + 2) (nI 128)) (Y + 3) (X + 3) (nI 128)) (Y + 4) (X + 4) (nI 128) (X + q) p = _
    rcases this with q | q | q | q <;> subst q
    · rw [cp_n (by omega), cp_n (by omega), cp_n (by omega), cp_s hp]
    · rw [cp_n (by omega), cp_n (by omega), cp_s hp, cp_n (by omega)]
    · rw [cp_n (by omega), cp_s hp, cp_n (by omega), cp_n (by omega)]
    · rw [cp_s hp, cp_n (by omega), cp_n (by omega), cp_n (by omega)]
  · show z_cpy (z_cpy (z_cpy (z_cpy M (Y + 1) (X + 1) (nI 128)) (Y + 2) (X + 2) (nI 128)) (Y + 3) (X + 3) (nI 128)) (Y + 4) (X + 4) (nI 128) a = _
    rw [cp_n (by omega), cp_n (by omega), cp_n (by omega), cp_n (by omega)]
theorem cCp1 {X Y k : Nat} {M : zM} (h1 : M Y 4 = nI k) (hk : k ≤ 66) (hm : ∀ j, j < k → M (Y + 3) j = nI 0 ∨ M (Y + 3) j = nI 1) (hd : X + 5 ≤ Y ∨ Y + 5 ≤ X) : ∃ M', fX1_copyFrom X Y M = some M' ∧ M' X 4 = nI k ∧ (∀ j, j ≠ 4 → M' X j = M X j) ∧ (∀ q j, 1 ≤ q → q ≤ 3 → j < k → M' (X + q) j = M (Y + q) j) ∧ ∀ a, (a < X ∨ X + 4 ≤ a) → M' a = M a := by
  unfold fX1_copyFrom
  obtain ⟨M0, hM0⟩ : ∃ M0, M0 = z_st M X 4 (nI k) := ⟨_, rfl⟩
  obtain ⟨M', e1, e2⟩ := z_loopM (f := fun x : Int32 × zM => fX1_copyFrom_L1 X Y x.1 x.2) (fun i M' => M' X = M0 X ∧ (∀ q j, 1 ≤ q → q ≤ 3 → j < i → M' (X + q) j = M (Y + q) j) ∧ ∀ a, (a < X ∨ X + 4 ≤ a) → M' a = M a) (fun M' => M' X = M0 X ∧ (∀ q j, 1 ≤ q → q ≤ 3 → j < k → M' (X + q) j = M (Y + q) j) ∧ ∀ a, (a < X ∨ X + 4 ≤ a) → M' a = M a) 0 k (by omega) (s := nI 0) (M := M0) rfl ⟨rfl, fun q j _ _ h => absurd h (Nat.not_lt_zero j), fun a ha => by rw [hM0, s_n (by omega)]⟩ (fun i M' hi hI => by
      obtain ⟨b1, b2, b3⟩ := hI
      have c4 : M' X 4 = nI k := by rw [b1, hM0, s_s, u_s]
      obtain ⟨Ma, hMa⟩ : ∃ Ma, Ma = z_st M' (X + 1) i (M (Y + 1) i) := ⟨_, rfl⟩
      obtain ⟨Mb, hMb⟩ : ∃ Mb, Mb = z_st Ma (X + 2) i (M (Y + 2) i) := ⟨_, rfl⟩
      obtain ⟨Mc, hMc⟩ : ∃ Mc, Mc = z_st Mb (X + 3) i (M (Y + 3) i) := ⟨_, rfl⟩
      have g1 : M' (Y + 1) = M (Y + 1) := b3 _ (by omega)
      have g2 : Ma (Y + 2) = M (Y + 2) := by rw [hMa, s_n (by omega)]; exact b3 _ (by omega)
      have g3 : Mb (Y + 3) = M (Y + 3) := by rw [hMb, s_n (by omega), hMa, s_n (by omega)]; exact b3 _ (by omega)
      have hsb : z_sb Mb (X + 3) 66 (nI i) (M (Y + 3) i) = some Mc := by
        rw [hMc]
        rcases hm i hi with q | q <;> rw [q]
        · exact z_sb0 (by omega) (by decide)
        · exact z_sb1 (by omega) (by decide)
      have l66 : z_sb Mb (X + 3) 66 (nI i) (M (Y + 3) i) = some Mc := hsb
      refine ⟨Mc, ?_, ?_, fun q j q1 q3 hj => ?_, fun a ha => by rw [hMc, s_n (by omega), hMb, s_n (by omega), hMa, s_n (by omega)]; exact b3 a ha⟩
      · simp (disch := first | omega | assumption) only [l_0, l_1, l_2, l_3, l_4, l_5, l_6, l_7, l_8, l_11, l_12, l_15, l_16, l_31, l_32, l_66, l_80, l_100, l_127, l_128, l_768, l_2304, l_2310, l_2316, l_2388, l_2394, l_2406, l_2418, l_2430, l_2558, l_2686, l_2814, l_2942, l_3070, l_3390, l_3394, l_3395, l_3396, l_3397, n_leT, n_leF, n_ltT, n_ltF, n_eqT, n_eqF, nI_add, pk_mul, n_sub, z_ldn, z_san, z_bs, z_b2s, z_b3s, z_ocN, z_ocS, z_oxL, z_oxR, z_scL, z_scR, ↓reduceIte, Nat.zero_add, Nat.add_zero, Nat.zero_lt_succ, true_and, and_true, eq_self, fX1_copyFrom_L1, c4, g1, ← hMa, g2, ← hMb, g3, hsb]
      · rw [hMc, s_n (by omega), hMb, s_n (by omega), hMa, s_n (by omega), b1]
      · have : q = 1 ∨ q = 2 ∨ q = 3 := by omega
        rcases this with q | q | q <;> subst q
        · rw [hMc, s_n (by omega), hMb, s_n (by omega), hMa, s_s]
          by_cases y : j = i
          · rw [y, u_s]
          · rw [u_n y]
            exact b2 1 j (by omega) (by omega) (by omega)
        · rw [hMc, s_n (by omega), hMb, s_s, hMa, s_n (by omega)]
          by_cases y : j = i
          · rw [y, u_s]
          · rw [u_n y]
            exact b2 2 j (by omega) (by omega) (by omega)
        · rw [hMc, s_s, hMb, s_n (by omega), hMa, s_n (by omega)]
          by_cases y : j = i
          · rw [y, u_s]
          · rw [u_n y]
            exact b2 3 j (by omega) (by omega) (by omega)) (fun M' hI => by
      have c4 : M' X 4 = nI k := by rw [hI.1, hM0, s_s, u_s]
      exact ⟨M', by simp (disch := first | omega | assumption) only [l_0, l_1, l_2, l_3, l_4, l_5, l_6, l_7, l_8, l_11, l_12, l_15, l_16, l_31, l_32, l_66, l_80, l_100, l_127, l_128, l_768, l_2304, l_2310, l_2316, l_2388, l_2394, l_2406, l_2418, l_2430, l_2558, l_2686, l_2814, l_2942, l_3070, l_3390, l_3394, l_3395, l_3396, l_3397, n_leT, n_leF, n_ltT, n_ltF, n_eqT, n_eqF, nI_add, pk_mul, n_sub, z_ldn, z_san, z_bs, z_b2s, z_b3s, z_ocN, z_ocS, z_oxL, z_oxR, z_scL, z_scR, ↓reduceIte, Nat.zero_add, Nat.add_zero, Nat.zero_lt_succ, true_and, and_true, eq_self, fX1_copyFrom_L1, c4], hI⟩)
  obtain ⟨e2, e3, e4⟩ := e2
  refine ⟨M', ?_, by rw [e2, hM0, s_s, u_s], fun j hj => by rw [e2, hM0, s_s, u_n hj], e3, e4⟩
  simp (disch := first | omega | assumption) only [l_0, l_1, l_2, l_3, l_4, l_5, l_6, l_7, l_8, l_11, l_12, l_15, l_16, l_31, l_32, l_66, l_80, l_100, l_127, l_128, l_768, l_2304, l_2310, l_2316, l_2388, l_2394, l_2406, l_2418, l_2430, l_2558, l_2686, l_2814, l_2942, l_3070, l_3390, l_3394, l_3395, l_3396, l_3397, n_leT, n_leF, n_ltT, n_ltF, n_eqT, n_eqF, nI_add, pk_mul, n_sub, z_ldn, z_san, z_bs, z_b2s, z_b3s, z_ocN, z_ocS, z_oxL, z_oxR, z_scL, z_scR, ↓reduceIte, Nat.zero_add, Nat.add_zero, Nat.zero_lt_succ, true_and, and_true, eq_self, h1, ← hM0, e1]
theorem cCa {V W n : Nat} {M : zM} {S : Nat → Nat} (hVW : V + 83 ≤ W ∨ W + 83 ≤ V) (r2 : R_ds W M S) (hI : z_I n S) : ∃ M', z_loop (fun x : Int32 × zM => fX5_copyFrom_L1 V W x.1 x.2) z_FU (nI 0, M) = some M' ∧ (∀ d, d < 6 → M' (V + 9 + 3 * d) 1 = M (W + 9 + 3 * d) 1 ∧ M' (V + 9 + 3 * d) 2 = M (W + 9 + 3 * d) 2) ∧ (∀ d p, d < 6 → p < 128 → M' (V + 9 + 3 * d + 1 + 1) p = M (W + 9 + 3 * d + 1 + 1) p) ∧ ∀ a, a < V + 9 ∨ V + 27 ≤ a → M' a = M a :=
  z_loopM (f := fun x : Int32 × zM => fX5_copyFrom_L1 V W x.1 x.2) (fun i M' => (∀ d, d < i → M' (V + 9 + 3 * d) 1 = M (W + 9 + 3 * d) 1 ∧ M' (V + 9 + 3 * d) 2 = M (W + 9 + 3 * d) 2) ∧ (∀ d p, d < i → p < 128 → M' (V + 9 + 3 * d + 1 + 1) p = M (W + 9 + 3 * d + 1 + 1) p) ∧ ∀ a, a < V + 9 ∨ V + 27 ≤ a → M' a = M a) (fun M' => (∀ d, d < 6 → M' (V + 9 + 3 * d) 1 = M (W + 9 + 3 * d) 1 ∧ M' (V + 9 + 3 * d) 2 = M (W + 9 + 3 * d) 2) ∧ (∀ d p, d < 6 → p < 128 → M' (V + 9 + 3 * d + 1 + 1) p = M (W + 9 + 3 * d + 1 + 1) p) ∧ ∀ a, a < V + 9 ∨ V + 27 ≤ a → M' a = M a) 0 6 (by decide) (s := nI 0) (M := M) rfl ⟨fun d hd => absurd hd (Nat.not_lt_zero d), fun d p hd => absurd hd (Nat.not_lt_zero d), fun _ _ => rfl⟩ (fun i M' hi hI9 => by
      obtain ⟨b1, b2, b3⟩ := hI9
      have c1 : M' (W + 9 + 3 * i) = M (W + 9 + 3 * i) := b3 _ (by omega)
      have c2 : M' (W + 9 + 3 * i + 1 + 1) = M (W + 9 + 3 * i + 1 + 1) := b3 _ (by omega)
      obtain ⟨Ma, f1, f2, f3, f4, f5⟩ := cCp0 (X := V + 9 + 3 * i) (Y := W + 9 + 3 * i) (M := M') (v := S (2304 + i)) (by rw [c1]; exact (r2 i hi).1) (I_ex hI i hi) (by omega)
      have g1 := z_lq11 (V := V) hi
      have g2 := z_lq11 (V := W) hi
      refine ⟨Ma, by simp (disch := first | omega | assumption) only [l_0, l_1, l_2, l_3, l_4, l_5, l_6, l_7, l_8, l_11, l_12, l_15, l_16, l_31, l_32, l_66, l_80, l_100, l_127, l_128, l_768, l_2304, l_2310, l_2316, l_2388, l_2394, l_2406, l_2418, l_2430, l_2558, l_2686, l_2814, l_2942, l_3070, l_3390, l_3394, l_3395, l_3396, l_3397, n_leT, n_leF, n_ltT, n_ltF, n_eqT, n_eqF, nI_add, pk_mul, n_sub, z_ldn, z_san, z_bs, z_b2s, z_b3s, z_ocN, z_ocS, z_oxL, z_oxR, z_scL, z_scR, ↓reduceIte, Nat.zero_add, Nat.add_zero, Nat.zero_lt_succ, true_and, and_true, eq_self, fX5_copyFrom_L1, g1, g2, f1], fun d hd => ?_, fun d p hd hp => ?_, fun a ha => by rw [f5 a (by omega) (by omega)]; exact b3 a ha⟩
      · by_cases q : d = i
        · rw [q, f2, f3, c1]
          exact ⟨rfl, rfl⟩
        · rw [f5 _ (by omega) (by omega)]
          exact b1 d (by omega)
      · by_cases q : d = i
        · rw [q, f4 p hp, c2]
        · rw [f5 _ (by omega) (by omega)]
          exact b2 d p (by omega) hp) (fun M' hI9 => ⟨M', by simp (disch := first | omega | assumption) only [l_0, l_1, l_2, l_3, l_4, l_5, l_6, l_7, l_8, l_11, l_12, l_15, l_16, l_31, l_32, l_66, l_80, l_100, l_127, l_128, l_768, l_2304, l_2310, l_2316, l_2388, l_2394, l_2406, l_2418, l_2430, l_2558, l_2686, l_2814, l_2942, l_3070, l_3390, l_3394, l_3395, l_3396, l_3397, n_leT, n_leF, n_ltT, n_ltF, n_eqT, n_eqF, nI_add, pk_mul, n_sub, z_ldn, z_san, z_bs, z_b2s, z_b3s, z_ocN, z_ocS, z_oxL, z_oxR, z_scL, z_scR, ↓reduceIte, Nat.zero_add, Nat.add_zero, Nat.zero_lt_succ, true_and, and_true, eq_self, fX5_copyFrom_L1], hI9⟩)
theorem cCb {V W : Nat} {M M1 : zM} {S : Nat → Nat} (hVW : V + 83 ≤ W ∨ W + 83 ≤ V) (r3 : R_sn W M S) (a4 : ∀ a, a < V + 9 ∨ V + 27 ≤ a → M1 a = M a) : ∃ M', z_loop (fun x : Int32 × zM => fX5_copyFrom_L2 V W x.1 x.2) z_FU (nI 0, M1) = some M' ∧ (∀ t j, t < 12 → 1 ≤ j → j ≤ 5 → M' (V + 27 + 3 * t) j = M (W + 27 + 3 * t) j) ∧ (∀ t p, t < 12 → p < 128 → M' (V + 27 + 3 * t + 1 + 1) p = M (W + 27 + 3 * t + 1 + 1) p) ∧ ∀ a, a < V + 27 ∨ V + 63 ≤ a → M' a = M1 a :=
  z_loopM (f := fun x : Int32 × zM => fX5_copyFrom_L2 V W x.1 x.2) (fun i M' => (∀ t j, t < i → 1 ≤ j → j ≤ 5 → M' (V + 27 + 3 * t) j = M (W + 27 + 3 * t) j) ∧ (∀ t p, t < i → p < 128 → M' (V + 27 + 3 * t + 1 + 1) p = M (W + 27 + 3 * t + 1 + 1) p) ∧ ∀ a, a < V + 27 ∨ V + 63 ≤ a → M' a = M1 a) (fun M' => (∀ t j, t < 12 → 1 ≤ j → j ≤ 5 → M' (V + 27 + 3 * t) j = M (W + 27 + 3 * t) j) ∧ (∀ t p, t < 12 → p < 128 → M' (V + 27 + 3 * t + 1 + 1) p = M (W + 27 + 3 * t + 1 + 1) p) ∧ ∀ a, a < V + 27 ∨ V + 63 ≤ a → M' a = M1 a) 0 12 (by decide) (s := nI 0) (M := M1) rfl ⟨fun d j hd => absurd hd (Nat.not_lt_zero d), fun d p hd => absurd hd (Nat.not_lt_zero d), fun _ _ => rfl⟩ (fun i M' hi hI9 => by
      obtain ⟨b1, b2, b3⟩ := hI9
      have c1 : M' (W + 27 + 3 * i) = M (W + 27 + 3 * i) := by rw [b3 _ (by omega), a4 _ (by omega)]
      have c2 : M' (W + 27 + 3 * i + 1 + 1) = M (W + 27 + 3 * i + 1 + 1) := by rw [b3 _ (by omega), a4 _ (by omega)]
      obtain ⟨Ma, f1, f2, f4, f5⟩ := cCp2 (X := V + 27 + 3 * i) (Y := W + 27 + 3 * i) (M := M') (v := if S (2394 + i) = 0 then 0 else 1) (by rw [c1]; exact (r3 i hi).1) (by split <;> omega) (by omega)
      have g1 := z_lq12 (V := V) hi
      have g2 := z_lq12 (V := W) hi
      refine ⟨Ma, by simp (disch := first | omega | assumption) only [l_0, l_1, l_2, l_3, l_4, l_5, l_6, l_7, l_8, l_11, l_12, l_15, l_16, l_31, l_32, l_66, l_80, l_100, l_127, l_128, l_768, l_2304, l_2310, l_2316, l_2388, l_2394, l_2406, l_2418, l_2430, l_2558, l_2686, l_2814, l_2942, l_3070, l_3390, l_3394, l_3395, l_3396, l_3397, n_leT, n_leF, n_ltT, n_ltF, n_eqT, n_eqF, nI_add, pk_mul, n_sub, z_ldn, z_san, z_bs, z_b2s, z_b3s, z_ocN, z_ocS, z_oxL, z_oxR, z_scL, z_scR, ↓reduceIte, Nat.zero_add, Nat.add_zero, Nat.zero_lt_succ, true_and, and_true, eq_self, fX5_copyFrom_L2, g1, g2, f1], fun t j ht j1 j5 => ?_, fun t p ht hp => ?_, fun a ha => by rw [f5 a (by omega) (by omega)]; exact b3 a ha⟩
      · by_cases q : t = i
        · rw [q, f2 j j1 j5, c1]
        · rw [f5 _ (by omega) (by omega)]
          exact b1 t j (by omega) j1 j5
      · by_cases q : t = i
        · rw [q, f4 p hp, c2]
        · rw [f5 _ (by omega) (by omega)]
          exact b2 t p (by omega) hp) (fun M' hI9 => ⟨M', by simp (disch := first | omega | assumption) only [l_0, l_1, l_2, l_3, l_4, l_5, l_6, l_7, l_8, l_11, l_12, l_15, l_16, l_31, l_32, l_66, l_80, l_100, l_127, l_128, l_768, l_2304, l_2310, l_2316, l_2388, l_2394, l_2406, l_2418, l_2430, l_2558, l_2686, l_2814, l_2942, l_3070, l_3390, l_3394, l_3395, l_3396, l_3397, n_leT, n_leF, n_ltT, n_ltF, n_eqT, n_eqF, nI_add, pk_mul, n_sub, z_ldn, z_san, z_bs, z_b2s, z_b3s, z_ocN, z_ocS, z_oxL, z_oxR, z_scL, z_scR, ↓reduceIte, Nat.zero_add, Nat.add_zero, Nat.zero_lt_succ, true_and, and_true, eq_self, fX5_copyFrom_L2], hI9⟩)
theorem cCc {V W n : Nat} {M M3 : zM} {N : Nat → Int32} {S : Nat → Nat} (hVW : V + 83 ≤ W ∨ W + 83 ≤ V) (r5 : R_lg W M N S) (hI : z_I n S) (h0 : ∀ r, r < 4 → M (V + 63 + 5 * r) 0 = nI (32 * r)) (m3 : ∀ a, (a ≤ V + 3 ∨ V + 8 ≤ a) → (a < V + 9 ∨ V + 63 ≤ a) → M3 a = M a) (hmk : ∀ r, r < 4 → ∀ j, j < S (3390 + r) → M (W + 63 + 5 * r + 3) j = nI 0 ∨ M (W + 63 + 5 * r + 3) j = nI 1) : ∃ M', z_loop (fun x : Int32 × zM => fX5_copyFrom_L3 V W x.1 x.2) z_FU (nI 0, M3) = some M' ∧ (∀ r, r < 4 → M' (V + 63 + 5 * r) 4 = nI (S (3390 + r)) ∧ ∀ q j, 1 ≤ q → q ≤ 3 → j < S (3390 + r) → M' (V + 63 + 5 * r + q) j = M (W + 63 + 5 * r + q) j) ∧ (∀ r, r < 4 → M' (V + 63 + 5 * r) 0 = nI (32 * r)) ∧ ∀ a, a < V + 63 ∨ V + 83 ≤ a → M' a = M3 a :=
  z_loopM (f := fun x : Int32 × zM => fX5_copyFrom_L3 V W x.1 x.2) (fun i M' => (∀ r, r < i → M' (V + 63 + 5 * r) 4 = nI (S (3390 + r)) ∧ ∀ q j, 1 ≤ q → q ≤ 3 → j < S (3390 + r) → M' (V + 63 + 5 * r + q) j = M (W + 63 + 5 * r + q) j) ∧ (∀ r, r < 4 → M' (V + 63 + 5 * r) 0 = nI (32 * r)) ∧ ∀ a, a < V + 63 ∨ V + 83 ≤ a → M' a = M3 a) (fun M' => (∀ r, r < 4 → M' (V + 63 + 5 * r) 4 = nI (S (3390 + r)) ∧ ∀ q j, 1 ≤ q → q ≤ 3 → j < S (3390 + r) → M' (V + 63 + 5 * r + q) j = M (W + 63 + 5 * r + q) j) ∧ (∀ r, r < 4 → M' (V + 63 + 5 * r) 0 = nI (32 * r)) ∧ ∀ a, a < V + 63 ∨ V + 83 ≤ a → M' a = M3 a) 0 4 (by decide) (s := nI 0) (M := M3) rfl ⟨fun d hd => absurd hd (Nat.not_lt_zero d), fun r hr => by rw [m3 _ (by omega) (by omega)]; exact h0 r hr, fun _ _ => rfl⟩ (fun i M' hi hI9 => by
      obtain ⟨b1, b2, b3⟩ := hI9
      have c0 : ∀ q, q < 5 → M' (W + 63 + 5 * i + q) = M (W + 63 + 5 * i + q) := fun q hq => by rw [b3 _ (by omega), m3 _ (by omega) (by omega)]
      obtain ⟨Ma, f1, f2, f3, f4, f5⟩ := cCp1 (X := V + 63 + 5 * i) (Y := W + 63 + 5 * i) (M := M') (k := S (3390 + i)) (by rw [show M' (W + 63 + 5 * i) = _ from c0 0 (by omega)]; exact (r5 i hi).2.1) (by have := I_log hI i hi; omega) (fun j hj => by rw [c0 3 (by omega)]; exact hmk i hi j hj) (by omega)
      have g1 := z_lq13 (V := V) hi
      have g2 := z_lq13 (V := W) hi
      refine ⟨Ma, by simp (disch := first | omega | assumption) only [l_0, l_1, l_2, l_3, l_4, l_5, l_6, l_7, l_8, l_11, l_12, l_15, l_16, l_31, l_32, l_66, l_80, l_100, l_127, l_128, l_768, l_2304, l_2310, l_2316, l_2388, l_2394, l_2406, l_2418, l_2430, l_2558, l_2686, l_2814, l_2942, l_3070, l_3390, l_3394, l_3395, l_3396, l_3397, n_leT, n_leF, n_ltT, n_ltF, n_eqT, n_eqF, nI_add, pk_mul, n_sub, z_ldn, z_san, z_bs, z_b2s, z_b3s, z_ocN, z_ocS, z_oxL, z_oxR, z_scL, z_scR, ↓reduceIte, Nat.zero_add, Nat.add_zero, Nat.zero_lt_succ, true_and, and_true, eq_self, fX5_copyFrom_L3, g1, g2, f1], fun r hr => ?_, fun r hr => ?_, fun a ha => by rw [f5 a (by omega)]; exact b3 a ha⟩
      · by_cases q : r = i
        · rw [q]
          exact ⟨f2, fun q j q1 q3 hj => by rw [f4 q j q1 q3 hj, c0 q (by omega)]⟩
        · rw [f5 _ (by omega)]
          refine ⟨(b1 r (by omega)).1, fun q j q1 q3 hj => ?_⟩
          rw [f5 _ (by omega)]
          exact (b1 r (by omega)).2 q j q1 q3 hj
      · by_cases q : r = i
        · rw [q, f3 0 (by decide)]
          exact b2 i hi
        · rw [f5 _ (by omega)]
          exact b2 r hr) (fun M' hI9 => ⟨M', by simp (disch := first | omega | assumption) only [l_0, l_1, l_2, l_3, l_4, l_5, l_6, l_7, l_8, l_11, l_12, l_15, l_16, l_31, l_32, l_66, l_80, l_100, l_127, l_128, l_768, l_2304, l_2310, l_2316, l_2388, l_2394, l_2406, l_2418, l_2430, l_2558, l_2686, l_2814, l_2942, l_3070, l_3390, l_3394, l_3395, l_3396, l_3397, n_leT, n_leF, n_ltT, n_ltF, n_eqT, n_eqF, nI_add, pk_mul, n_sub, z_ldn, z_san, z_bs, z_b2s, z_b3s, z_ocN, z_ocS, z_oxL, z_oxR, z_scL, z_scR, ↓reduceIte, Nat.zero_add, Nat.add_zero, Nat.zero_lt_succ, true_and, and_true, eq_self, fX5_copyFrom_L3], hI9⟩)
theorem cCopy_R {V W : Nat} {M M1 M2 M3 M4 M5 M6 M7 : zM} {N : Nat → Int32} {S : Nat → Nat} (hVW : V + 83 ≤ W ∨ W + 83 ≤ V) (r1 : R_tab W M S) (r2 : R_ds W M S) (r3 : R_sn W M S) (r4 : R_sp W M N S) (r5 : R_lg W M N S) (r6 : R_sc W M S) (a2 : ∀ d, d < 6 → M1 (V + 9 + 3 * d) 1 = M (W + 9 + 3 * d) 1 ∧ M1 (V + 9 + 3 * d) 2 = M (W + 9 + 3 * d) 2) (a3 : ∀ d p, d < 6 → p < 128 → M1 (V + 9 + 3 * d + 1 + 1) p = M (W + 9 + 3 * d + 1 + 1) p) (a4 : ∀ a, a < V + 9 ∨ V + 27 ≤ a → M1 a = M a) (s2 : ∀ t j, t < 12 → 1 ≤ j → j ≤ 5 → M2 (V + 27 + 3 * t) j = M (W + 27 + 3 * t) j) (s3 : ∀ t p, t < 12 → p < 128 → M2 (V + 27 + 3 * t + 1 + 1) p = M (W + 27 + 3 * t + 1 + 1) p) (s4 : ∀ a, a < V + 27 ∨ V + 63 ≤ a → M2 a = M1 a) (p2 : ∀ q p, 1 ≤ q → q ≤ 4 → p < 128 → M3 (V + 3 + q) p = M2 (W + 3 + q) p) (p3 : ∀ a, (a ≤ V + 3 ∨ V + 3 + 5 ≤ a) → M3 a = M2 a) (l2 : ∀ r, r < 4 → M4 (V + 63 + 5 * r) 4 = nI (S (3390 + r)) ∧ ∀ q j, 1 ≤ q → q ≤ 3 → j < S (3390 + r) → M4 (V + 63 + 5 * r + q) j = M (W + 63 + 5 * r + q) j) (l3 : ∀ r, r < 4 → M4 (V + 63 + 5 * r) 0 = nI (32 * r)) (l4 : ∀ a, a < V + 63 ∨ V + 83 ≤ a → M4 a = M3 a) (hM5 : M5 = z_st M4 V 4 (M W 4)) (hM6 : M6 = z_st M5 V 5 (M W 5)) (hM7 : M7 = z_st M6 V 6 (M W 6)) : z_R1 V M7 N S := by
  have f7 : ∀ a, a ≠ V → M7 a = M4 a := fun a ha => by rw [hM7, s_n ha, hM6, s_n ha, hM5, s_n ha]
  refine ⟨fun t ht p hp => ?_, fun d hd => ?_, fun t ht => ?_, fun b hb => ?_, fun r hr => ?_, ?_⟩
  · by_cases q : t < 6
    · rw [f7 _ (by omega), l4 _ (by omega), p3 _ (by omega), s4 _ (by omega), a3 t p q hp]
      exact r1 t ht p hp
    · obtain ⟨u, hu, rfl⟩ : ∃ u, u < 12 ∧ t = 6 + u := ⟨t - 6, by omega, by omega⟩
      have e := r1 (6 + u) ht p hp
      rw [show W + 9 + 3 * (6 + u) + 1 + 1 = W + 27 + 3 * u + 1 + 1 by omega] at e
      rw [show V + 9 + 3 * (6 + u) + 1 + 1 = V + 27 + 3 * u + 1 + 1 by omega, f7 _ (by omega), l4 _ (by omega), p3 _ (by omega), s3 u p hu hp]
      exact e
  · rw [f7 _ (by omega), l4 _ (by omega), p3 _ (by omega), s4 _ (by omega), (a2 d hd).1, (a2 d hd).2]
    exact r2 d hd
  · have e : ∀ j, 1 ≤ j → j ≤ 5 → M7 (V + 27 + 3 * t) j = M (W + 27 + 3 * t) j := fun j j1 j5 => by rw [f7 _ (by omega), l4 _ (by omega), p3 _ (by omega), s2 t j ht j1 j5]
    unfold R_sn1
    rw [e 1 (by omega) (by omega), e 2 (by omega) (by omega), e 3 (by omega) (by omega), e 4 (by omega) (by omega), e 5 (by omega) (by omega)]
    exact r3 t ht
  · have e : ∀ q, 1 ≤ q → q ≤ 4 → M7 (V + 3 + q) b = M (W + 3 + q) b := fun q q1 q4 => by
      rw [f7 _ (by omega), l4 _ (by omega), p2 q b q1 q4 hb, s4 _ (by omega), a4 _ (by omega)]
    rw [e 1 (by omega) (by omega), e 2 (by omega) (by omega), e 3 (by omega) (by omega), e 4 (by omega) (by omega)]
    exact r4 b hb
  · have hk : ∀ q, q < 5 → M7 (V + 63 + 5 * r + q) = M4 (V + 63 + 5 * r + q) := fun q hq => f7 _ (by omega)
    have hk0 : M7 (V + 63 + 5 * r) = M4 (V + 63 + 5 * r) := f7 _ (by omega)
    obtain ⟨b1, b2⟩ := l2 r hr
    refine ⟨by rw [hk0]; exact l3 r hr, by rw [hk0]; exact b1, fun j hj => ?_⟩
    unfold R_lg1
    rw [hk 1 (by omega), hk 2 (by omega), hk 3 (by omega), b2 1 j (by omega) (by omega) hj, b2 2 j (by omega) (by omega) hj, b2 3 j (by omega) (by omega) hj]
    exact (r5 r hr).2.2 j hj
  · have e : M7 V = upd (upd (upd (M4 V) 4 (M W 4)) 5 (M W 5)) 6 (M W 6) := by rw [hM7, s_s, hM6, s_s, hM5, s_s]
    unfold R_sc
    rw [e, u_s, u_n (by decide), u_n (by decide), u_s, u_n (by decide), u_s]
    exact r6
theorem cCopy {V W n : Nat} {M : zM} {N : Nat → Int32} {S : Nat → Nat} (hVW : V + 83 ≤ W ∨ W + 83 ≤ V) (hR : z_R1 W M N S) (hI : z_I n S) (h0 : ∀ r, r < 4 → M (V + 63 + 5 * r) 0 = nI (32 * r)) : ∃ M', fX5_copyFrom V W M = some M' ∧ (∀ N' : Nat → Int32, z_R1 W M N' S → z_R1 V M' N' S) ∧ ∀ a, a < V ∨ V + 83 ≤ a → M' a = M a := by
  obtain ⟨r1, r2, r3, r4, r5, r6⟩ := hR
  unfold fX5_copyFrom
  obtain ⟨M1, a1, a2, a3, a4⟩ := cCa hVW r2 hI
  obtain ⟨M2, s1, s2, s3, s4⟩ := cCb hVW r3 a4
  -- the space
  obtain ⟨M3, p1, p2, p3⟩ := cCp3 (X := V + 3) (Y := W + 3) (M := M2) (by omega)
  have m3 : ∀ a, (a ≤ V + 3 ∨ V + 8 ≤ a) → (a < V + 9 ∨ V + 63 ≤ a) → M3 a = M a := fun a q1 q2 => by rw [p3 a (by omega), s4 a (by omega), a4 a (by omega)]
  have hmk : ∀ r, r < 4 → ∀ j, j < S (3390 + r) → M (W + 63 + 5 * r + 3) j = nI 0 ∨ M (W + 63 + 5 * r + 3) j = nI 1 := fun r hr j hj => by
    obtain ⟨f, l, _, _, _, _, _, h⟩ := (r5 r hr).2.2 j hj
    rcases h with h | h
    · exact Or.inr h.1
    · exact Or.inl h.1
  obtain ⟨M4, l1, l2, l3, l4⟩ := cCc hVW r5 hI h0 m3 hmk
  -- its own fields
  have mW : M4 W = M W := by rw [l4 W (by omega), m3 W (by omega) (by omega)]
  obtain ⟨M5, hM5⟩ : ∃ M5, M5 = z_st M4 V 4 (M W 4) := ⟨_, rfl⟩
  have w5 : M5 W = M W := by rw [hM5, s_n (by omega), mW]
  obtain ⟨M6, hM6⟩ : ∃ M6, M6 = z_st M5 V 5 (M W 5) := ⟨_, rfl⟩
  have w6 : M6 W = M W := by rw [hM6, s_n (by omega), w5]
  obtain ⟨M7, hM7⟩ : ∃ M7, M7 = z_st M6 V 6 (M W 6) := ⟨_, rfl⟩
  have f7 : ∀ a, a ≠ V → M7 a = M4 a := fun a ha => by rw [hM7, s_n ha, hM6, s_n ha, hM5, s_n ha]
  refine ⟨M7, ?_, fun N' hR' => ?_, fun a ha => ?_⟩
  rotate_left
  · obtain ⟨r1, r2, r3, r4, r5, r6⟩ := hR'
    exact cCopy_R hVW r1 r2 r3 r4 r5 r6 a2 a3 a4 s2 s3 s4 p2 p3 l2 l3 l4 hM5 hM6 hM7
  · rw [f7 a (by omega), l4 a (by omega), m3 a (by omega) (by omega)]
  · rw [show z_loop _ z_FU ((0 : Int32), M) = _ from a1, z_bs, show z_loop _ z_FU ((0 : Int32), M1) = _ from s1, z_bs, p1, z_bs, show z_loop _ z_FU ((0 : Int32), M3) = _ from l1, z_bs, mW, ← hM5, z_bs, w5, ← hM6, z_bs, w6, ← hM7, z_bs]
/-! ===== runs of marks ===== -/
/-- so many marks stand right before place p -/
def trl (g : Nat → Nat) : Nat → Nat
  | 0 => 0
  | p + 1 => if g p = 0 then 0 else trl g p + 1
/-- the runs that ended before place p: how many, and which -/
def rl (g : Nat → Nat) : Nat → Nat × (Nat → Nat × Nat)
  | 0 => (0, fun _ => (0, 0))
  | p + 1 => if g p = 0 ∧ trl g p ≠ 0 then ((rl g p).1 + 1, fun j => if j = (rl g p).1 then (p - trl g p, trl g p) else (rl g p).2 j) else rl g p
section
variable {g : Nat → Nat}
theorem trl_0 {p : Nat} (h : g p = 0) : trl g (p + 1) = 0 := if_pos h
theorem trl_1 {p : Nat} (h : g p ≠ 0) : trl g (p + 1) = trl g p + 1 := if_neg h
theorem rl_y {p : Nat} (h : g p = 0) (h2 : trl g p ≠ 0) : rl g (p + 1) = ((rl g p).1 + 1, fun j => if j = (rl g p).1 then (p - trl g p, trl g p) else (rl g p).2 j) := if_pos ⟨h, h2⟩
theorem rl_n {p : Nat} (h : g p ≠ 0 ∨ trl g p = 0) : rl g (p + 1) = rl g p := if_neg (fun x => by
  rcases h with h | h
  · exact h x.1
  · exact x.2 h)
theorem trl_le : ∀ {p : Nat}, trl g p ≤ p
  | 0 => Nat.le_refl _
  | p + 1 => by
    have ih := trl_le (p := p)
    by_cases q : g p = 0
    · rw [trl_0 q]
      omega
    · rw [trl_1 q]
      omega
theorem rl_cnt : ∀ {p : Nat}, 2 * (rl g p).1 + trl g p ≤ p
  | 0 => Nat.le_refl _
  | p + 1 => by
    have ih := rl_cnt (p := p)
    by_cases q : g p = 0
    · rw [trl_0 q]
      by_cases q2 : trl g p = 0
      · rw [rl_n (Or.inr q2)]
        omega
      · rw [rl_y q q2]
        show 2 * ((rl g p).1 + 1) + 0 ≤ p + 1
        omega
    · rw [trl_1 q, rl_n (Or.inl q)]
      omega
theorem rl_val : ∀ {p j : Nat}, j < (rl g p).1 → 1 ≤ ((rl g p).2 j).2 ∧ ((rl g p).2 j).1 + ((rl g p).2 j).2 < p
  | 0, j, h => absurd h (Nat.not_lt_zero j)
  | p + 1, j, h => by
    by_cases q : g p = 0 ∧ trl g p ≠ 0
    · rw [rl_y q.1 q.2] at h ⊢
      have h : j < (rl g p).1 + 1 := h
      show 1 ≤ (if j = (rl g p).1 then (p - trl g p, trl g p) else (rl g p).2 j).2 ∧ (if j = (rl g p).1 then (p - trl g p, trl g p) else (rl g p).2 j).1 + (if j = (rl g p).1 then (p - trl g p, trl g p) else (rl g p).2 j).2 < p + 1
      by_cases c : j = (rl g p).1
      · rw [if_pos c]
        have := trl_le (g := g) (p := p)
        have := q.2
        show 1 ≤ trl g p ∧ p - trl g p + trl g p < p + 1
        omega
      · rw [if_neg c]
        have ih := rl_val (p := p) (j := j) (by omega)
        omega
    · have e : rl g (p + 1) = rl g p := if_neg q
      rw [e] at h ⊢
      have ih := rl_val (p := p) (j := j) h
      omega
/-- the starts of runs -/
theorem rl_st : ∀ {p : Nat}, sumN (fun q => if g q ≠ 0 ∧ trl g q = 0 then 1 else 0) p = (rl g p).1 + (if trl g p = 0 then 0 else 1)
  | 0 => rfl
  | p + 1 => by
    have ih := rl_st (p := p)
    show sumN _ p + (if g p ≠ 0 ∧ trl g p = 0 then 1 else 0) = _
    rw [ih]
    by_cases q : g p = 0
    · have e1 : (if g p ≠ 0 ∧ trl g p = 0 then 1 else 0) = 0 := if_neg (fun x => x.1 q)
      rw [e1, trl_0 q]
      show (rl g p).1 + (if trl g p = 0 then 0 else 1) + 0 = (rl g (p + 1)).1 + 0
      by_cases q2 : trl g p = 0
      · rw [rl_n (Or.inr q2), if_pos q2]
      · rw [rl_y q q2, if_neg q2]
    · rw [trl_1 q, rl_n (Or.inl q), show (if trl g p + 1 = 0 then 0 else 1) = 1 from if_neg (Nat.succ_ne_zero (trl g p))]
      by_cases q2 : trl g p = 0
      · rw [if_pos q2, if_pos ⟨q, q2⟩]
      · rw [if_neg q2, if_neg (fun x => q2 x.2)]
/-- a run from place p on -/
theorem rl_run {p : Nat} (h0 : trl g p = 0) : ∀ {i : Nat}, (∀ j, j < i → g (p + j) ≠ 0) → trl g (p + i) = i ∧ rl g (p + i) = rl g p
  | 0, _ => ⟨h0, rfl⟩
  | i + 1, h => by
    obtain ⟨a1, a2⟩ := rl_run h0 (i := i) (fun j hj => h j (by omega))
    have hg := h i (Nat.lt_succ_self i)
    rw [show p + (i + 1) = p + i + 1 from rfl, trl_1 hg, rl_n (Or.inl hg), a1, a2]
    exact ⟨rfl, rfl⟩
theorem run_ex (hg : ∀ q, 32 ≤ q → g q = 0) : ∀ (m p : Nat), 32 ≤ p + m → ∃ i, i ≤ m ∧ g (p + i) = 0 ∧ ∀ j, j < i → g (p + j) ≠ 0
  | 0, p, h => ⟨0, Nat.le_refl _, hg _ (by omega), fun j hj => absurd hj (Nat.not_lt_zero j)⟩
  | m + 1, p, h => by
    by_cases q : g p = 0
    · exact ⟨0, Nat.zero_le _, q, fun j hj => absurd hj (Nat.not_lt_zero j)⟩
    · obtain ⟨i, i1, i2, i3⟩ := run_ex hg m (p + 1) (by omega)
      refine ⟨i + 1, by omega, by rw [show p + (i + 1) = p + 1 + i by omega]; exact i2, fun j hj => ?_⟩
      by_cases c : j = 0
      · rw [c]
        exact q
      · rw [show p + j = p + 1 + (j - 1) by omega]
        exact i3 (j - 1) (by omega)
theorem trl_z {p : Nat} : trl g p = 0 ↔ p = 0 ∨ (p ≠ 0 ∧ g (p - 1) = 0) := by
  cases p with
  | zero => exact ⟨fun _ => Or.inl rfl, fun _ => rfl⟩
  | succ p =>
    by_cases q : g p = 0
    · rw [trl_0 q]
      exact ⟨fun _ => Or.inr ⟨by omega, q⟩, fun _ => rfl⟩
    · rw [trl_1 q]
      refine ⟨fun x => by omega, fun x => ?_⟩
      rcases x with x | x
      · omega
      · exact absurd x.2 q
end
/-! ===== the class's logs at a commit ===== -/
theorem cAl2 {sp b : Nat} {M : zM} {st : Nat → Nat} (hst : ∀ c, c < 128 → M (sp + 1) c = nI (st c) ∧ st c ≤ 2) (hb : b < 128) : fX3_isAllocated sp (nI b) M = some (nI (if st b = 1 then 1 else 0)) := by
  obtain ⟨h1, h2⟩ := hst b hb
  unfold fX3_isAllocated
  by_cases q : st b = 1
  · rw [if_pos q]
    simp (disch := first | omega | assumption) only [l_0, l_1, l_2, l_3, l_4, l_5, l_6, l_7, l_8, l_11, l_12, l_15, l_16, l_31, l_32, l_66, l_80, l_100, l_127, l_128, l_768, l_2304, l_2310, l_2316, l_2388, l_2394, l_2406, l_2418, l_2430, l_2558, l_2686, l_2814, l_2942, l_3070, l_3390, l_3394, l_3395, l_3396, l_3397, n_leT, n_leF, n_ltT, n_ltF, n_eqT, n_eqF, nI_add, pk_mul, n_sub, z_ldn, z_san, z_bs, z_b2s, z_b3s, z_ocN, z_ocS, z_oxL, z_oxR, z_scL, z_scR, ↓reduceIte, Nat.zero_add, Nat.add_zero, Nat.zero_lt_succ, true_and, and_true, eq_self, cIb, h1, q]
  · rw [if_neg q]
    simp (disch := first | omega | assumption) only [l_0, l_1, l_2, l_3, l_4, l_5, l_6, l_7, l_8, l_11, l_12, l_15, l_16, l_31, l_32, l_66, l_80, l_100, l_127, l_128, l_768, l_2304, l_2310, l_2316, l_2388, l_2394, l_2406, l_2418, l_2430, l_2558, l_2686, l_2814, l_2942, l_3070, l_3390, l_3394, l_3395, l_3396, l_3397, n_leT, n_leF, n_ltT, n_ltF, n_eqT, n_eqF, nI_add, pk_mul, n_sub, z_ldn, z_san, z_bs, z_b2s, z_b3s, z_ocN, z_ocS, z_oxL, z_oxR, z_scL, z_scR, ↓reduceIte, Nat.zero_add, Nat.add_zero, Nat.zero_lt_succ, true_and, and_true, eq_self, cIb, h1]
theorem cMk {X a b r : Nat} {M : zM} {g sa sb : Nat → Nat} (hr : r < 4) (h0 : M X 0 = nI (32 * r)) (ha : ∀ c, c < 128 → M (a + 1) c = nI (sa c) ∧ sa c ≤ 2) (hb : ∀ c, c < 128 → M (b + 1) c = nI (sb c) ∧ sb c ≤ 2) (da : a + 1 < X ∨ X + 5 ≤ a + 1) (db : b + 1 < X ∨ X + 5 ≤ b + 1) (hg : ∀ p, p < 32 → g p = if sa (32 * r + p) = 1 ∧ sb (32 * r + p) ≠ 1 then 1 else 0) : ∃ M', fX1_markChanges X a b M = some M' ∧ (∀ c, c ≠ X + 4 → M' c = M c) ∧ ∀ p, p < 32 → M' (X + 4) p = nI (g p) := by
  unfold fX1_markChanges
  obtain ⟨M', e1, e2, e3⟩ := z_loopR (f := fun x : Int32 × zM => fX1_markChanges_L1 X a b x.1 x.2) (X + 4) 0 0 32 (fun p => nI (g p)) (by decide) (s := 0) (M := M) rfl (fun i M' hi q1 _ => by
    have c0 : M' X 0 = nI (32 * r) := by rw [q1 _ (by omega)]; exact h0
    have c1 := cAl2 (sp := a) (M := M') (b := 32 * r + i) (fun c hc => by rw [q1 _ (by omega)]; exact ha c hc) (by omega)
    have c2 := cAl2 (sp := b) (M := M') (b := 32 * r + i) (fun c hc => by rw [q1 _ (by omega)]; exact hb c hc) (by omega)
    have c3 := hg i hi
    by_cases y1 : sa (32 * r + i) = 1
    · rw [if_pos y1] at c1
      by_cases y2 : sb (32 * r + i) = 1
      · rw [if_pos y2] at c2
        rw [if_neg (fun x => x.2 y2)] at c3
        simp (disch := first | omega | assumption) only [l_0, l_1, l_2, l_3, l_4, l_5, l_6, l_7, l_8, l_11, l_12, l_15, l_16, l_31, l_32, l_66, l_80, l_100, l_127, l_128, l_768, l_2304, l_2310, l_2316, l_2388, l_2394, l_2406, l_2418, l_2430, l_2558, l_2686, l_2814, l_2942, l_3070, l_3390, l_3394, l_3395, l_3396, l_3397, n_leT, n_leF, n_ltT, n_ltF, n_eqT, n_eqF, nI_add, pk_mul, n_sub, z_ldn, z_san, z_bs, z_b2s, z_b3s, z_ocN, z_ocS, z_oxL, z_oxR, z_scL, z_scR, ↓reduceIte, Nat.zero_add, Nat.add_zero, Nat.zero_lt_succ, true_and, and_true, eq_self, fX1_markChanges_L1, c0, c1, c2, c3, z_sb0]
      · rw [if_neg y2] at c2
        rw [if_pos ⟨y1, y2⟩] at c3
        simp (disch := first | omega | assumption) only [l_0, l_1, l_2, l_3, l_4, l_5, l_6, l_7, l_8, l_11, l_12, l_15, l_16, l_31, l_32, l_66, l_80, l_100, l_127, l_128, l_768, l_2304, l_2310, l_2316, l_2388, l_2394, l_2406, l_2418, l_2430, l_2558, l_2686, l_2814, l_2942, l_3070, l_3390, l_3394, l_3395, l_3396, l_3397, n_leT, n_leF, n_ltT, n_ltF, n_eqT, n_eqF, nI_add, pk_mul, n_sub, z_ldn, z_san, z_bs, z_b2s, z_b3s, z_ocN, z_ocS, z_oxL, z_oxR, z_scL, z_scR, ↓reduceIte, Nat.zero_add, Nat.add_zero, Nat.zero_lt_succ, true_and, and_true, eq_self, fX1_markChanges_L1, c0, c1, c2, c3, z_sb1]
    · rw [if_neg y1] at c1
      rw [if_neg (fun x => y1 x.1)] at c3
      simp (disch := first | omega | assumption) only [l_0, l_1, l_2, l_3, l_4, l_5, l_6, l_7, l_8, l_11, l_12, l_15, l_16, l_31, l_32, l_66, l_80, l_100, l_127, l_128, l_768, l_2304, l_2310, l_2316, l_2388, l_2394, l_2406, l_2418, l_2430, l_2558, l_2686, l_2814, l_2942, l_3070, l_3390, l_3394, l_3395, l_3396, l_3397, n_leT, n_leF, n_ltT, n_ltF, n_eqT, n_eqF, nI_add, pk_mul, n_sub, z_ldn, z_san, z_bs, z_b2s, z_b3s, z_ocN, z_ocS, z_oxL, z_oxR, z_scL, z_scR, ↓reduceIte, Nat.zero_add, Nat.add_zero, Nat.zero_lt_succ, true_and, and_true, eq_self, fX1_markChanges_L1, c0, c1, c3, z_sb0]) (fun M' => by simp (disch := first | omega | assumption) only [l_0, l_1, l_2, l_3, l_4, l_5, l_6, l_7, l_8, l_11, l_12, l_15, l_16, l_31, l_32, l_66, l_80, l_100, l_127, l_128, l_768, l_2304, l_2310, l_2316, l_2388, l_2394, l_2406, l_2418, l_2430, l_2558, l_2686, l_2814, l_2942, l_3070, l_3390, l_3394, l_3395, l_3396, l_3397, n_leT, n_leF, n_ltT, n_ltF, n_eqT, n_eqF, nI_add, pk_mul, n_sub, z_ldn, z_san, z_bs, z_b2s, z_b3s, z_ocN, z_ocS, z_oxL, z_oxR, z_scL, z_scR, ↓reduceIte, Nat.zero_add, Nat.add_zero, Nat.zero_lt_succ, true_and, and_true, eq_self, fX1_markChanges_L1])
  refine ⟨M', by rw [e1]; rfl, e2, fun p hp => ?_⟩
  rw [e3 p, if_pos ⟨Nat.zero_le _, by omega⟩, Nat.sub_zero]
theorem cMa {X a r : Nat} {M : zM} {g sa : Nat → Nat} (hr : r < 4) (h0 : M X 0 = nI (32 * r)) (ha : ∀ c, c < 128 → M (a + 1) c = nI (sa c) ∧ sa c ≤ 2) (da : a + 1 < X ∨ X + 5 ≤ a + 1) (hg : ∀ p, p < 32 → g p = if sa (32 * r + p) = 1 then 1 else 0) : ∃ M', fX1_markAllocated X a M = some M' ∧ (∀ c, c ≠ X + 4 → M' c = M c) ∧ ∀ p, p < 32 → M' (X + 4) p = nI (g p) := by
  unfold fX1_markAllocated
  obtain ⟨M', e1, e2, e3⟩ := z_loopR (f := fun x : Int32 × zM => fX1_markAllocated_L1 X a x.1 x.2) (X + 4) 0 0 32 (fun p => nI (g p)) (by decide) (s := 0) (M := M) rfl (fun i M' hi q1 _ => by
    have c0 : M' X 0 = nI (32 * r) := by rw [q1 _ (by omega)]; exact h0
    have c1 := cAl2 (sp := a) (M := M') (b := 32 * r + i) (fun c hc => by rw [q1 _ (by omega)]; exact ha c hc) (by omega)
    have c3 := hg i hi
    by_cases y1 : sa (32 * r + i) = 1
    · rw [if_pos y1] at c1 c3
      simp (disch := first | omega | assumption) only [l_0, l_1, l_2, l_3, l_4, l_5, l_6, l_7, l_8, l_11, l_12, l_15, l_16, l_31, l_32, l_66, l_80, l_100, l_127, l_128, l_768, l_2304, l_2310, l_2316, l_2388, l_2394, l_2406, l_2418, l_2430, l_2558, l_2686, l_2814, l_2942, l_3070, l_3390, l_3394, l_3395, l_3396, l_3397, n_leT, n_leF, n_ltT, n_ltF, n_eqT, n_eqF, nI_add, pk_mul, n_sub, z_ldn, z_san, z_bs, z_b2s, z_b3s, z_ocN, z_ocS, z_oxL, z_oxR, z_scL, z_scR, ↓reduceIte, Nat.zero_add, Nat.add_zero, Nat.zero_lt_succ, true_and, and_true, eq_self, fX1_markAllocated_L1, c0, c1, c3, z_sb1]
    · rw [if_neg y1] at c1 c3
      simp (disch := first | omega | assumption) only [l_0, l_1, l_2, l_3, l_4, l_5, l_6, l_7, l_8, l_11, l_12, l_15, l_16, l_31, l_32, l_66, l_80, l_100, l_127, l_128, l_768, l_2304, l_2310, l_2316, l_2388, l_2394, l_2406, l_2418, l_2430, l_2558, l_2686, l_2814, l_2942, l_3070, l_3390, l_3394, l_3395, l_3396, l_3397, n_leT, n_leF, n_ltT, n_ltF, n_eqT, n_eqF, nI_add, pk_mul, n_sub, z_ldn, z_san, z_bs, z_b2s, z_b3s, z_ocN, z_ocS, z_oxL, z_oxR, z_scL, z_scR, ↓reduceIte, Nat.zero_add, Nat.add_zero, Nat.zero_lt_succ, true_and, and_true, eq_self, fX1_markAllocated_L1, c0, c1, c3, z_sb0]) (fun M' => by simp (disch := first | omega | assumption) only [l_0, l_1, l_2, l_3, l_4, l_5, l_6, l_7, l_8, l_11, l_12, l_15, l_16, l_31, l_32, l_66, l_80, l_100, l_127, l_128, l_768, l_2304, l_2310, l_2316, l_2388, l_2394, l_2406, l_2418, l_2430, l_2558, l_2686, l_2814, l_2942, l_3070, l_3390, l_3394, l_3395, l_3396, l_3397, n_leT, n_leF, n_ltT, n_ltF, n_eqT, n_eqF, nI_add, pk_mul, n_sub, z_ldn, z_san, z_bs, z_b2s, z_b3s, z_ocN, z_ocS, z_oxL, z_oxR, z_scL, z_scR, ↓reduceIte, Nat.zero_add, Nat.add_zero, Nat.zero_lt_succ, true_and, and_true, eq_self, fX1_markAllocated_L1])
  refine ⟨M', by rw [e1]; rfl, e2, fun p hp => ?_⟩
  rw [e3 p, if_pos ⟨Nat.zero_le _, by omega⟩, Nat.sub_zero]
theorem cApp {X k l m : Nat} {a : Int32} {M : zM} (h4 : M X 4 = nI k) (hk : k < 66) (hl : 1 ≤ l) (hl2 : l ≤ 32) (hm : m ≤ 1) : fX1_append X a (nI l) (nI m) M = some (z_st (z_st (z_st (z_st M (X + 1) k a) (X + 2) k (nI l)) (X + 3) k (nI m)) X 4 (nI (k + 1))) := by
  unfold fX1_append
  have e0 : fX1_isEntry (nI k) M = some (nI 1) := by
    unfold fX1_isEntry
    simp (disch := first | omega | assumption) only [l_0, l_1, l_2, l_3, l_4, l_5, l_6, l_7, l_8, l_11, l_12, l_15, l_16, l_31, l_32, l_66, l_80, l_100, l_127, l_128, l_768, l_2304, l_2310, l_2316, l_2388, l_2394, l_2406, l_2418, l_2430, l_2558, l_2686, l_2814, l_2942, l_3070, l_3390, l_3394, l_3395, l_3396, l_3397, n_leT, n_leF, n_ltT, n_ltF, n_eqT, n_eqF, nI_add, pk_mul, n_sub, z_ldn, z_san, z_bs, z_b2s, z_b3s, z_ocN, z_ocS, z_oxL, z_oxR, z_scL, z_scR, ↓reduceIte, Nat.zero_add, Nat.add_zero, Nat.zero_lt_succ, true_and, and_true, eq_self]
  obtain ⟨Ma, hMa⟩ : ∃ Ma, Ma = z_st M (X + 1) k a := ⟨_, rfl⟩
  have ca : Ma X 4 = nI k := by rw [hMa, s_n (by omega)]; exact h4
  obtain ⟨Mb, hMb⟩ : ∃ Mb, Mb = z_st Ma (X + 2) k (nI l) := ⟨_, rfl⟩
  have cb : Mb X 4 = nI k := by rw [hMb, s_n (by omega)]; exact ca
  obtain ⟨Mc, hMc⟩ : ∃ Mc, Mc = z_st Mb (X + 3) k (nI m) := ⟨_, rfl⟩
  have cc : Mc X 4 = nI k := by rw [hMc, s_n (by omega)]; exact cb
  have hsb : z_sb Mb (X + 3) 66 (nI k) (nI m) = some Mc := by
    rw [hMc]
    by_cases q : m = 0
    · rw [q]
      exact z_sb0 hk (by decide)
    · rw [show m = 1 by omega]
      exact z_sb1 hk (by decide)
  simp (disch := first | omega | assumption) only [l_0, l_1, l_2, l_3, l_4, l_5, l_6, l_7, l_8, l_11, l_12, l_15, l_16, l_31, l_32, l_66, l_80, l_100, l_127, l_128, l_768, l_2304, l_2310, l_2316, l_2388, l_2394, l_2406, l_2418, l_2430, l_2558, l_2686, l_2814, l_2942, l_3070, l_3390, l_3394, l_3395, l_3396, l_3397, n_leT, n_leF, n_ltT, n_ltF, n_eqT, n_eqF, nI_add, pk_mul, n_sub, z_ldn, z_san, z_bs, z_b2s, z_b3s, z_ocN, z_ocS, z_oxL, z_oxR, z_scL, z_scR, ↓reduceIte, Nat.zero_add, Nat.add_zero, Nat.zero_lt_succ, true_and, and_true, eq_self, h4, e0, ← hMa, ca, ← hMb, cb, hsb, cc, ← hMc]
/-- the log X while runs are appended: those that ended before place p -/
def y_rn (X : Nat) (M0 : zM) (k r m : Nat) (g : Nat → Nat) (p : Nat) (M' : zM) : Prop := M' X 4 = nI (k + (rl g p).1) ∧ (∀ j, j ≠ 4 → M' X j = M0 X j) ∧ (∀ q j, 1 ≤ q → q ≤ 3 → j < k → M' (X + q) j = M0 (X + q) j) ∧ (∀ j, j < (rl g p).1 → M' (X + 1) (k + j) = nI (32 * r + ((rl g p).2 j).1) ∧ M' (X + 2) (k + j) = nI ((rl g p).2 j).2 ∧ M' (X + 3) (k + j) = nI m) ∧ ∀ a, (a < X ∨ X + 4 ≤ a) → M' a = M0 a
theorem y_rn_st {X k r m p : Nat} {M0 M' : zM} {g : Nat → Nat} (h : y_rn X M0 k r m g p M') (hg : g p = 0) (hp : p ≤ 32) (hk : k ≤ 50) (hm : m ≤ 1) (hr : r < 4) : ∃ M2, fX1_append X (nI (32 * r + p - trl g p)) (nI (trl g p)) (nI m) M' = some M2 ∧ y_rn X M0 k r m g (p + 1) M2 := by
  have ht := trl_le (g := g) (p := p)
  have hc := rl_cnt (g := g) (p := p)
  by_cases q : trl g p = 0
  · refine ⟨M', ?_, ?_⟩
    · unfold fX1_append
      rw [q]
      simp (disch := first | omega | assumption) only [l_0, l_1, l_2, l_3, l_4, l_5, l_6, l_7, l_8, l_11, l_12, l_15, l_16, l_31, l_32, l_66, l_80, l_100, l_127, l_128, l_768, l_2304, l_2310, l_2316, l_2388, l_2394, l_2406, l_2418, l_2430, l_2558, l_2686, l_2814, l_2942, l_3070, l_3390, l_3394, l_3395, l_3396, l_3397, n_leT, n_leF, n_ltT, n_ltF, n_eqT, n_eqF, nI_add, pk_mul, n_sub, z_ldn, z_san, z_bs, z_b2s, z_b3s, z_ocN, z_ocS, z_oxL, z_oxR, z_scL, z_scR, ↓reduceIte, Nat.zero_add, Nat.add_zero, Nat.zero_lt_succ, true_and, and_true, eq_self]
    · unfold y_rn
      rw [rl_n (Or.inr q)]
      exact h
  · obtain ⟨b1, b2, b3, b4, b5⟩ := h
    obtain ⟨c, hcc⟩ : ∃ c, c = (rl g p).1 := ⟨_, rfl⟩
    rw [← hcc] at b1 b4 hc
    refine ⟨_, cApp b1 (by omega) (by omega) (by omega) hm, ?_⟩
    have hF : rl g (p + 1) = (c + 1, fun j => if j = c then (p - trl g p, trl g p) else (rl g p).2 j) := by rw [rl_y hg q, ← hcc]
    unfold y_rn
    rw [hF]
    refine ⟨?_, fun j hj => ?_, fun q2 j q3 q4 hj => ?_, fun j hj => ?_, fun a ha => ?_⟩
    · rw [s_s, u_s]
      rfl
    · rw [s_s, u_n hj, s_n (by omega), s_n (by omega), s_n (by omega)]
      exact b2 j hj
    · rw [s_n (by omega)]
      have : q2 = 1 ∨ q2 = 2 ∨ q2 = 3 := by omega
      rcases this with y | y | y <;> subst y
      · rw [s_n (by omega), s_n (by omega), s_s, u_n (by omega)]
        exact b3 1 j (by omega) (by omega) hj
      · rw [s_n (by omega), s_s, u_n (by omega), s_n (by omega)]
        exact b3 2 j (by omega) (by omega) hj
      · rw [s_s, u_n (by omega), s_n (by omega), s_n (by omega)]
        exact b3 3 j (by omega) (by omega) hj
    · have hj : j < c + 1 := hj
      rw [s_n (by omega), s_n (by omega), s_n (by omega), s_s, s_n (by omega), s_n (by omega), s_s, s_n (by omega), s_n (by omega), s_s]
      show upd _ (k + c) _ (k + j) = nI (32 * r + (if j = c then (p - trl g p, trl g p) else (rl g p).2 j).1) ∧ upd _ (k + c) _ (k + j) = nI (if j = c then (p - trl g p, trl g p) else (rl g p).2 j).2 ∧ upd _ (k + c) _ (k + j) = nI m
      by_cases y : j = c
      · rw [if_pos y, y, u_s, u_s, u_s]
        refine ⟨?_, rfl, rfl⟩
        show nI (32 * r + p - trl g p) = nI (32 * r + (p - trl g p))
        congr 1
        omega
      · rw [if_neg y, u_n (by omega), u_n (by omega), u_n (by omega), s_n (by omega), s_n (by omega)]
        exact b4 j (by omega)
    · rw [s_n (by omega), s_n (by omega), s_n (by omega), s_n (by omega)]
      exact b5 a ha
theorem cRuns {X k r m : Nat} {M : zM} {g : Nat → Nat} (hr : r < 4) (hm : m ≤ 1) (hk : k ≤ 50) (h0 : M X 0 = nI (32 * r)) (h4 : M X 4 = nI k) (hmk : ∀ p, p < 32 → M (X + 4) p = nI (g p)) (hg1 : ∀ p, g p ≤ 1) (hg : g 32 = 0) : ∃ M', fX1_appendMarkedRuns X (nI m) M = some M' ∧ y_rn X M k r m g 33 M' := by
  unfold fX1_appendMarkedRuns
  obtain ⟨x, e1, e2, e3⟩ := z_loopA (f := fun x : Int32 × Int32 × zM => fX1_appendMarkedRuns_L1 X (nI m) x.1 x.2.1 x.2.2) (fun p x M' => x = nI (trl g p) ∧ y_rn X M k r m g p M') (fun x => x.1 = nI (trl g 32) ∧ y_rn X M k r m g 32 x.2) 0 32 (by decide) (x := nI 0) (s := nI 0) (M := M) rfl ⟨rfl, h4, fun _ _ => rfl, fun _ _ _ _ _ => rfl, fun j hj => absurd hj (Nat.not_lt_zero j), fun _ _ => rfl⟩ (fun p x M' hp hI => by
    obtain ⟨b1, b2⟩ := hI
    subst b1
    have c0 : M' X 0 = nI (32 * r) := by rw [b2.2.1 0 (by decide)]; exact h0
    have c1 : M' (X + 4) p = nI (g p) := by rw [b2.2.2.2.2 _ (by omega)]; exact hmk p hp
    have ht := trl_le (g := g) (p := p)
    have hg1p := hg1 p
    by_cases q : g p = 0
    · obtain ⟨M2, f1, f2⟩ := y_rn_st b2 q (by omega) hk hm hr
      rw [q] at c1
      refine ⟨nI 0, M2, ?_, by rw [trl_0 q], f2⟩
      simp (disch := first | omega | assumption) only [l_0, l_1, l_2, l_3, l_4, l_5, l_6, l_7, l_8, l_11, l_12, l_15, l_16, l_31, l_32, l_66, l_80, l_100, l_127, l_128, l_768, l_2304, l_2310, l_2316, l_2388, l_2394, l_2406, l_2418, l_2430, l_2558, l_2686, l_2814, l_2942, l_3070, l_3390, l_3394, l_3395, l_3396, l_3397, n_leT, n_leF, n_ltT, n_ltF, n_eqT, n_eqF, nI_add, pk_mul, n_sub, z_ldn, z_san, z_bs, z_b2s, z_b3s, z_ocN, z_ocS, z_oxL, z_oxR, z_scL, z_scR, ↓reduceIte, Nat.zero_add, Nat.add_zero, Nat.zero_lt_succ, true_and, and_true, eq_self, fX1_appendMarkedRuns_L1, c1, c0, f1]
    · refine ⟨nI (trl g p + 1), M', ?_, by rw [trl_1 q], ?_⟩
      · simp (disch := first | omega | assumption) only [l_0, l_1, l_2, l_3, l_4, l_5, l_6, l_7, l_8, l_11, l_12, l_15, l_16, l_31, l_32, l_66, l_80, l_100, l_127, l_128, l_768, l_2304, l_2310, l_2316, l_2388, l_2394, l_2406, l_2418, l_2430, l_2558, l_2686, l_2814, l_2942, l_3070, l_3390, l_3394, l_3395, l_3396, l_3397, n_leT, n_leF, n_ltT, n_ltF, n_eqT, n_eqF, nI_add, pk_mul, n_sub, z_ldn, z_san, z_bs, z_b2s, z_b3s, z_ocN, z_ocS, z_oxL, z_oxR, z_scL, z_scR, ↓reduceIte, Nat.zero_add, Nat.add_zero, Nat.zero_lt_succ, true_and, and_true, eq_self, fX1_appendMarkedRuns_L1, c1]
      · unfold y_rn
        rw [rl_n (Or.inl q)]
        exact b2) (fun x M' hI => ⟨(x, M'), by simp (disch := first | omega | assumption) only [l_0, l_1, l_2, l_3, l_4, l_5, l_6, l_7, l_8, l_11, l_12, l_15, l_16, l_31, l_32, l_66, l_80, l_100, l_127, l_128, l_768, l_2304, l_2310, l_2316, l_2388, l_2394, l_2406, l_2418, l_2430, l_2558, l_2686, l_2814, l_2942, l_3070, l_3390, l_3394, l_3395, l_3396, l_3397, n_leT, n_leF, n_ltT, n_ltF, n_eqT, n_eqF, nI_add, pk_mul, n_sub, z_ldn, z_san, z_bs, z_b2s, z_b3s, z_ocN, z_ocS, z_oxL, z_oxR, z_scL, z_scR, ↓reduceIte, Nat.zero_add, Nat.add_zero, Nat.zero_lt_succ, true_and, and_true, eq_self, fX1_appendMarkedRuns_L1], hI⟩)
  obtain ⟨x1, M1⟩ := x
  have e2 : x1 = nI (trl g 32) := e2
  subst e2
  have e3 : y_rn X M k r m g 32 M1 := e3
  have ht := trl_le (g := g) (p := 32)
  have c0 : M1 X 0 = nI (32 * r) := by rw [e3.2.1 0 (by decide)]; exact h0
  obtain ⟨M2, f1, f2⟩ := y_rn_st e3 hg (by omega) hk hm hr
  refine ⟨M2, ?_, f2⟩
  simp (disch := first | omega | assumption) only [l_0, l_1, l_2, l_3, l_4, l_5, l_6, l_7, l_8, l_11, l_12, l_15, l_16, l_31, l_32, l_66, l_80, l_100, l_127, l_128, l_768, l_2304, l_2310, l_2316, l_2388, l_2394, l_2406, l_2418, l_2430, l_2558, l_2686, l_2814, l_2942, l_3070, l_3390, l_3394, l_3395, l_3396, l_3397, n_leT, n_leF, n_ltT, n_ltF, n_eqT, n_eqF, nI_add, pk_mul, n_sub, z_ldn, z_san, z_bs, z_b2s, z_b3s, z_ocN, z_ocS, z_oxL, z_oxR, z_scL, z_scR, ↓reduceIte, Nat.zero_add, Nat.add_zero, Nat.zero_lt_succ, true_and, and_true, eq_self, e1, c0, f1]
theorem cCr {X : Nat} {M : zM} {g : Nat → Nat} (hmk : ∀ p, p < 32 → M (X + 4) p = nI (g p)) (hg1 : ∀ p, g p ≤ 1) (hg : g 32 = 0) : fX1_countMarkedRuns X M = some (nI (rl g 33).1) := by
  unfold fX1_countMarkedRuns
  rw [z_loopS (f := fun s : Int32 × Int32 => fX1_countMarkedRuns_L1 X M s.1 s.2) (fun q => if g q ≠ 0 ∧ trl g q = 0 then 1 else 0) 0 32 (by decide) (s := (0, 0)) rfl (fun i x hi => by
    have c1 := hmk i hi
    have hgi := hg1 i
    have hz := trl_z (g := g) (p := i)
    by_cases q : g i = 0
    · rw [show (if g i ≠ 0 ∧ trl g i = 0 then 1 else 0) = 0 from if_neg (fun x => x.1 q)]
      rw [q] at c1
      simp (disch := first | omega | assumption) only [l_0, l_1, l_2, l_3, l_4, l_5, l_6, l_7, l_8, l_11, l_12, l_15, l_16, l_31, l_32, l_66, l_80, l_100, l_127, l_128, l_768, l_2304, l_2310, l_2316, l_2388, l_2394, l_2406, l_2418, l_2430, l_2558, l_2686, l_2814, l_2942, l_3070, l_3390, l_3394, l_3395, l_3396, l_3397, n_leT, n_leF, n_ltT, n_ltF, n_eqT, n_eqF, nI_add, pk_mul, n_sub, z_ldn, z_san, z_bs, z_b2s, z_b3s, z_ocN, z_ocS, z_oxL, z_oxR, z_scL, z_scR, ↓reduceIte, Nat.zero_add, Nat.add_zero, Nat.zero_lt_succ, true_and, and_true, eq_self, fX1_countMarkedRuns_L1, c1]
    · by_cases q2 : i = 0
      · rw [show (if g i ≠ 0 ∧ trl g i = 0 then 1 else 0) = 1 from if_pos ⟨q, hz.mpr (Or.inl q2)⟩]
        rw [q2] at c1 q
        have hg0 := hg1 0
        simp (disch := first | omega | assumption) only [l_0, l_1, l_2, l_3, l_4, l_5, l_6, l_7, l_8, l_11, l_12, l_15, l_16, l_31, l_32, l_66, l_80, l_100, l_127, l_128, l_768, l_2304, l_2310, l_2316, l_2388, l_2394, l_2406, l_2418, l_2430, l_2558, l_2686, l_2814, l_2942, l_3070, l_3390, l_3394, l_3395, l_3396, l_3397, n_leT, n_leF, n_ltT, n_ltF, n_eqT, n_eqF, nI_add, pk_mul, n_sub, z_ldn, z_san, z_bs, z_b2s, z_b3s, z_ocN, z_ocS, z_oxL, z_oxR, z_scL, z_scR, ↓reduceIte, Nat.zero_add, Nat.add_zero, Nat.zero_lt_succ, true_and, and_true, eq_self, fX1_countMarkedRuns_L1, c1, q2]
      · have c2 := hmk (i - 1) (by omega)
        have hgj := hg1 (i - 1)
        by_cases q3 : g (i - 1) = 0
        · rw [show (if g i ≠ 0 ∧ trl g i = 0 then 1 else 0) = 1 from if_pos ⟨q, hz.mpr (Or.inr ⟨q2, q3⟩)⟩]
          rw [q3] at c2
          simp (disch := first | omega | assumption) only [l_0, l_1, l_2, l_3, l_4, l_5, l_6, l_7, l_8, l_11, l_12, l_15, l_16, l_31, l_32, l_66, l_80, l_100, l_127, l_128, l_768, l_2304, l_2310, l_2316, l_2388, l_2394, l_2406, l_2418, l_2430, l_2558, l_2686, l_2814, l_2942, l_3070, l_3390, l_3394, l_3395, l_3396, l_3397, n_leT, n_leF, n_ltT, n_ltF, n_eqT, n_eqF, nI_add, pk_mul, n_sub, z_ldn, z_san, z_bs, z_b2s, z_b3s, z_ocN, z_ocS, z_oxL, z_oxR, z_scL, z_scR, ↓reduceIte, Nat.zero_add, Nat.add_zero, Nat.zero_lt_succ, true_and, and_true, eq_self, fX1_countMarkedRuns_L1, c1, c2]
        · rw [show (if g i ≠ 0 ∧ trl g i = 0 then 1 else 0) = 0 from if_neg (fun x => by
            rcases hz.mp x.2 with y | y
            · exact q2 y
            · exact q3 y.2)]
          simp (disch := first | omega | assumption) only [l_0, l_1, l_2, l_3, l_4, l_5, l_6, l_7, l_8, l_11, l_12, l_15, l_16, l_31, l_32, l_66, l_80, l_100, l_127, l_128, l_768, l_2304, l_2310, l_2316, l_2388, l_2394, l_2406, l_2418, l_2430, l_2558, l_2686, l_2814, l_2942, l_3070, l_3390, l_3394, l_3395, l_3396, l_3397, n_leT, n_leF, n_ltT, n_ltF, n_eqT, n_eqF, nI_add, pk_mul, n_sub, z_ldn, z_san, z_bs, z_b2s, z_b3s, z_ocN, z_ocS, z_oxL, z_oxR, z_scL, z_scR, ↓reduceIte, Nat.zero_add, Nat.add_zero, Nat.zero_lt_succ, true_and, and_true, eq_self, fX1_countMarkedRuns_L1, c1, c2]) (fun x => by simp (disch := first | omega | assumption) only [l_0, l_1, l_2, l_3, l_4, l_5, l_6, l_7, l_8, l_11, l_12, l_15, l_16, l_31, l_32, l_66, l_80, l_100, l_127, l_128, l_768, l_2304, l_2310, l_2316, l_2388, l_2394, l_2406, l_2418, l_2430, l_2558, l_2686, l_2814, l_2942, l_3070, l_3390, l_3394, l_3395, l_3396, l_3397, n_leT, n_leF, n_ltT, n_ltF, n_eqT, n_eqF, nI_add, pk_mul, n_sub, z_ldn, z_san, z_bs, z_b2s, z_b3s, z_ocN, z_ocS, z_oxL, z_oxR, z_scL, z_scR, ↓reduceIte, Nat.zero_add, Nat.add_zero, Nat.zero_lt_succ, true_and, and_true, eq_self, fX1_countMarkedRuns_L1]), rl_st]
  by_cases q : trl g 32 = 0
  · rw [if_pos q, rl_n (Or.inr q)]
    rfl
  · rw [if_neg q, rl_y hg q]
    rfl
abbrev lgC (k : Nat) (g1 g0 g2 : Nat → Nat) : Prop := 2 * (rl g2 33).1 + 2 < k + (rl g1 33).1 + (rl g0 33).1
def lgN (k : Nat) (g1 g0 g2 : Nat → Nat) : Nat := if lgC k g1 g0 g2 then (rl g2 33).1 else k + (rl g1 33).1 + (rl g0 33).1
abbrev lgO (k : Nat) (g1 g0 g2 : Nat → Nat) (j : Nat) : Prop := ¬ lgC k g1 g0 g2 ∧ j < k
def lgE (k : Nat) (g1 g0 g2 : Nat → Nat) (j : Nat) : Nat × Nat × Nat := if lgC k g1 g0 g2 then (((rl g2 33).2 j).1, ((rl g2 33).2 j).2, 1) else if j < k + (rl g1 33).1 then (((rl g1 33).2 (j - k)).1, ((rl g1 33).2 (j - k)).2, 1) else (((rl g0 33).2 (j - (k + (rl g1 33).1))).1, ((rl g0 33).2 (j - (k + (rl g1 33).1))).2, 0)
theorem rl16 {g : Nat → Nat} : (rl g 33).1 ≤ 16 := by
  have := rl_cnt (g := g) (p := 33)
  omega
theorem lgN_le {k : Nat} {g1 g0 g2 : Nat → Nat} : lgN k g1 g0 g2 ≤ 34 := by
  have h := rl16 (g := g2)
  unfold lgN
  split
  · omega
  · omega
theorem lgE_val {k j : Nat} {g1 g0 g2 : Nat → Nat} (hj : j < lgN k g1 g0 g2) (hn : ¬ lgO k g1 g0 g2 j) : 1 ≤ (lgE k g1 g0 g2 j).2.1 ∧ (lgE k g1 g0 g2 j).1 + (lgE k g1 g0 g2 j).2.1 ≤ 32 ∧ (lgE k g1 g0 g2 j).2.2 ≤ 1 := by
  unfold lgN at hj
  unfold lgE
  by_cases q : lgC k g1 g0 g2
  · rw [if_pos q] at hj ⊢
    have := rl_val hj
    exact ⟨this.1, Nat.le_of_lt_succ this.2, Nat.le_refl _⟩
  · rw [if_neg q] at hj ⊢
    have hk : k ≤ j := Nat.le_of_not_lt (fun x => hn ⟨q, x⟩)
    by_cases q2 : j < k + (rl g1 33).1
    · rw [if_pos q2]
      have := rl_val (g := g1) (p := 33) (j := j - k) (by omega)
      exact ⟨this.1, Nat.le_of_lt_succ this.2, Nat.le_refl _⟩
    · rw [if_neg q2]
      have := rl_val (g := g0) (p := 33) (j := j - (k + (rl g1 33).1)) (by omega)
      exact ⟨this.1, Nat.le_of_lt_succ this.2, Nat.zero_le _⟩
/-- the class records in log X what a transaction changed -/
theorem cRec {X a b r k : Nat} {M : zM} {sa sb g1 g0 g2 : Nat → Nat} (hr : r < 4) (h0 : M X 0 = nI (32 * r)) (h4 : M X 4 = nI k) (hk : k ≤ 34) (ha : ∀ c, c < 128 → M (a + 1) c = nI (sa c) ∧ sa c ≤ 2) (hb : ∀ c, c < 128 → M (b + 1) c = nI (sb c) ∧ sb c ≤ 2) (da : a + 1 < X ∨ X + 5 ≤ a + 1) (db : b + 1 < X ∨ X + 5 ≤ b + 1) (hg1 : ∀ p, p < 32 → g1 p = if sa (32 * r + p) = 1 ∧ sb (32 * r + p) ≠ 1 then 1 else 0) (hg0 : ∀ p, p < 32 → g0 p = if sb (32 * r + p) = 1 ∧ sa (32 * r + p) ≠ 1 then 1 else 0) (hg2 : ∀ p, p < 32 → g2 p = if sa (32 * r + p) = 1 then 1 else 0) (l1 : ∀ p, g1 p ≤ 1) (l0 : ∀ p, g0 p ≤ 1) (l2 : ∀ p, g2 p ≤ 1) (z1 : g1 32 = 0) (z0 : g0 32 = 0) (z2 : g2 32 = 0) : ∃ M', fX1_record X a b M = some (nI (if lgC k g1 g0 g2 then 1 else 0), M') ∧ M' X 0 = nI (32 * r) ∧ M' X 4 = nI (lgN k g1 g0 g2) ∧ (∀ j, j < lgN k g1 g0 g2 → (lgO k g1 g0 g2 j → ∀ q, 1 ≤ q → q ≤ 3 → M' (X + q) j = M (X + q) j) ∧ (¬ lgO k g1 g0 g2 j → M' (X + 1) j = nI (32 * r + (lgE k g1 g0 g2 j).1) ∧ M' (X + 2) j = nI (lgE k g1 g0 g2 j).2.1 ∧ M' (X + 3) j = nI (lgE k g1 g0 g2 j).2.2)) ∧ ∀ c, (c < X ∨ X + 5 ≤ c) → M' c = M c := by
  have c1 := rl16 (g := g1)
  have c0 := rl16 (g := g0)
  have c2 := rl16 (g := g2)
  obtain ⟨M1, a1, a2, a3⟩ := cMk hr h0 ha hb da db hg1
  obtain ⟨M2, b1, b2, b3, b4, b5, b6⟩ := cRuns (M := M1) (m := 1) (k := k) hr (Nat.le_refl _) (by omega) (by rw [a2 _ (by omega)]; exact h0) (by rw [a2 _ (by omega)]; exact h4) a3 l1 z1
  have f2 : ∀ c, (c < X ∨ X + 5 ≤ c) → M2 c = M c := fun c hc => by rw [b6 c (by omega), a2 c (by omega)]
  have x2 : M2 X 0 = nI (32 * r) := by rw [b3 0 (by decide), a2 _ (by omega)]; exact h0
  obtain ⟨M3, d1, d2, d3⟩ := cMk (M := M2) hr x2 (fun c hc => by rw [f2 _ (by omega)]; exact hb c hc) (fun c hc => by rw [f2 _ (by omega)]; exact ha c hc) db da hg0
  obtain ⟨M4, e1, e2, e3, e4, e5, e6⟩ := cRuns (M := M3) (m := 0) (k := k + (rl g1 33).1) hr (by decide) (by omega) (by rw [d2 _ (by omega)]; exact x2) (by rw [d2 _ (by omega)]; exact b2) d3 l0 z0
  have f4 : ∀ c, (c < X ∨ X + 5 ≤ c) → M4 c = M c := fun c hc => by rw [e6 c (by omega), d2 c (by omega), f2 c hc]
  have x4 : M4 X 0 = nI (32 * r) := by rw [e3 0 (by decide), d2 _ (by omega)]; exact x2
  obtain ⟨M5, g5, h5, i5⟩ := cMa (M := M4) hr x4 (fun c hc => by rw [f4 _ (by omega)]; exact ha c hc) da hg2
  have j5 := cCr i5 l2 z2
  have x5 : M5 X 4 = nI (k + (rl g1 33).1 + (rl g0 33).1) := by rw [h5 _ (by omega)]; exact e2
  have x50 : M5 X 0 = nI (32 * r) := by rw [h5 _ (by omega)]; exact x4
  unfold fX1_record
  by_cases q : lgC k g1 g0 g2
  · obtain ⟨M6, hM6⟩ : ∃ M6, M6 = z_st M5 X 4 (nI 0) := ⟨_, rfl⟩
    obtain ⟨M7, k1, k2, k3, k4, k5, k6⟩ := cRuns (M := M6) (m := 1) (k := 0) (g := g2) hr (Nat.le_refl _) (by decide) (by rw [hM6, s_s, u_n (by decide)]; exact x50) (by rw [hM6, s_s, u_s]) (fun p hp => by rw [hM6, s_n (by omega)]; exact i5 p hp) l2 z2
    have eN : lgN k g1 g0 g2 = (rl g2 33).1 := if_pos q
    rw [if_pos q, eN]
    refine ⟨M7, ?_, ?_, ?_, fun j hj => ⟨fun x => absurd q x.1, fun _ => ?_⟩, fun c hc => by rw [k6 c (by omega), hM6, s_n (by omega), h5 c (by omega), f4 c hc]⟩
    · simp (disch := first | omega | assumption) only [l_0, l_1, l_2, l_3, l_4, l_5, l_6, l_7, l_8, l_11, l_12, l_15, l_16, l_31, l_32, l_66, l_80, l_100, l_127, l_128, l_768, l_2304, l_2310, l_2316, l_2388, l_2394, l_2406, l_2418, l_2430, l_2558, l_2686, l_2814, l_2942, l_3070, l_3390, l_3394, l_3395, l_3396, l_3397, n_leT, n_leF, n_ltT, n_ltF, n_eqT, n_eqF, nI_add, pk_mul, n_sub, z_ldn, z_san, z_bs, z_b2s, z_b3s, z_ocN, z_ocS, z_oxL, z_oxR, z_scL, z_scR, ↓reduceIte, Nat.zero_add, Nat.add_zero, Nat.zero_lt_succ, true_and, and_true, eq_self, a1, b1, d1, e1, g5, j5, x5, ← hM6, k1]
    · rw [k3 0 (by decide), hM6, s_s, u_n (by decide)]
      exact x50
    · rw [k2, Nat.zero_add]
    · have eE : lgE k g1 g0 g2 j = (((rl g2 33).2 j).1, ((rl g2 33).2 j).2, 1) := if_pos q
      have := k5 j hj
      rw [Nat.zero_add] at this
      rw [eE]
      exact this
  · have eN : lgN k g1 g0 g2 = k + (rl g1 33).1 + (rl g0 33).1 := if_neg q
    rw [if_neg q, eN]
    have row5 : ∀ q j, 1 ≤ q → q ≤ 3 → M5 (X + q) j = M4 (X + q) j := fun q j q1 q3 => by rw [h5 _ (by omega)]
    refine ⟨M5, ?_, x50, x5, fun j hj => ⟨fun x q1 q2 q3 => ?_, fun x => ?_⟩, fun c hc => by rw [h5 c (by omega), f4 c hc]⟩
    · simp (disch := first | omega | assumption) only [l_0, l_1, l_2, l_3, l_4, l_5, l_6, l_7, l_8, l_11, l_12, l_15, l_16, l_31, l_32, l_66, l_80, l_100, l_127, l_128, l_768, l_2304, l_2310, l_2316, l_2388, l_2394, l_2406, l_2418, l_2430, l_2558, l_2686, l_2814, l_2942, l_3070, l_3390, l_3394, l_3395, l_3396, l_3397, n_leT, n_leF, n_ltT, n_ltF, n_eqT, n_eqF, nI_add, pk_mul, n_sub, z_ldn, z_san, z_bs, z_b2s, z_b3s, z_ocN, z_ocS, z_oxL, z_oxR, z_scL, z_scR, ↓reduceIte, Nat.zero_add, Nat.add_zero, Nat.zero_lt_succ, true_and, and_true, eq_self, a1, b1, d1, e1, g5, j5, x5]
    · rw [row5 q1 j q2 q3, e4 q1 j q2 q3 (by have := x.2; omega), d2 _ (by omega), b4 q1 j q2 q3 x.2, a2 _ (by omega)]
    · have hkj : k ≤ j := Nat.le_of_not_lt (fun y => x ⟨q, y⟩)
      rw [row5 1 j (by omega) (by omega), row5 2 j (by omega) (by omega), row5 3 j (by omega) (by omega)]
      by_cases y : j < k + (rl g1 33).1
      · have eE : lgE k g1 g0 g2 j = (((rl g1 33).2 (j - k)).1, ((rl g1 33).2 (j - k)).2, 1) := by
          unfold lgE
          rw [if_neg q, if_pos y]
        have := b5 (j - k) (by omega)
        rw [show k + (j - k) = j by omega] at this
        rw [eE, e4 1 j (by omega) (by omega) y, e4 2 j (by omega) (by omega) y, e4 3 j (by omega) (by omega) y, d2 _ (by omega), d2 _ (by omega), d2 _ (by omega)]
        exact this
      · have eE : lgE k g1 g0 g2 j = (((rl g0 33).2 (j - (k + (rl g1 33).1))).1, ((rl g0 33).2 (j - (k + (rl g1 33).1))).2, 0) := by
          unfold lgE
          rw [if_neg q, if_neg y]
        have := e5 (j - (k + (rl g1 33).1)) (by omega)
        rw [show k + (rl g1 33).1 + (j - (k + (rl g1 33).1)) = j by omega] at this
        rw [eE]
        exact this
/-! ===== the model's logs at a commit ===== -/
def gm (S : Nat → Nat) (kd b : Nat) : Nat := if kd = 2 then (if S (2814 + b) = 0 then 0 else 1) else if kd = 1 then (if S (2814 + b) ≠ 0 ∧ S (2942 + b) ≠ 1 then 1 else 0) else (if S (2814 + b) = 0 ∧ S (2942 + b) = 1 then 1 else 0)
def gR (S : Nat → Nat) (kd r p : Nat) : Nat := if p < 32 then gm S kd (32 * r + p) else 0
theorem gm_1 {S : Nat → Nat} {kd b : Nat} : gm S kd b ≤ 1 := by
  unfold gm
  split
  · split <;> omega
  · split
    · split <;> omega
    · split <;> omega
theorem gR_1 {S : Nat → Nat} {kd r p : Nat} : gR S kd r p ≤ 1 := by
  unfold gR
  split
  · exact gm_1
  · omega
theorem gR_in {S : Nat → Nat} {kd r p : Nat} (h : p < 32) : gR S kd r p = gm S kd (32 * r + p) := if_pos h
theorem gR_z {S : Nat → Nat} {kd r p : Nat} (h : 32 ≤ p) : gR S kd r p = 0 := if_neg (by omega)
def z_en (kd f l : Nat) : Int32 := if kd = 0 then -nI (100 * f + l) else nI (100 * f + l)
/-! ===== commit, both sides ===== -/
abbrev cmC (S : Nat → Nat) (r : Nat) : Prop := lgC (S (3390 + r)) (gR S 1 r) (gR S 0 r) (gR S 2 r)
def cmN (S : Nat → Nat) (r : Nat) : Nat := lgN (S (3390 + r)) (gR S 1 r) (gR S 0 r) (gR S 2 r)
abbrev cmO (S : Nat → Nat) (r j : Nat) : Prop := lgO (S (3390 + r)) (gR S 1 r) (gR S 0 r) (gR S 2 r) j
def cmE (S : Nat → Nat) (r j : Nat) : Nat × Nat × Nat := lgE (S (3390 + r)) (gR S 1 r) (gR S 0 r) (gR S 2 r) j
def cmQ (S : Nat → Nat) (i : Nat) : Nat := sumN (fun r => if cmC S r then 1 else 0) i
/-- the state after a commit -/
def cmS (S : Nat → Nat) : Nat → Nat := fun k => if 2686 ≤ k ∧ k < 2814 then 0 else if 2942 ≤ k ∧ k < 3070 then (if S (2814 + (k - 2942)) = 0 then 0 else 1) else if 3390 ≤ k ∧ k < 3394 then cmN S (k - 3390) else if k = 3395 then S 3395 + 1 else if k = 3396 then S 3396 + cmQ S 4 else S k
section
variable {S : Nat → Nat}
theorem cm_o {k : Nat} (h : k < 2686 ∨ (2814 ≤ k ∧ k < 2942) ∨ (3070 ≤ k ∧ k < 3390) ∨ k = 3394) : cmS S k = S k := by
  unfold cmS
  rw [if_neg (by omega), if_neg (by omega), if_neg (by omega), if_neg (by omega), if_neg (by omega)]
theorem cm_p {b : Nat} (h : b < 128) : cmS S (2686 + b) = 0 := if_pos ⟨by omega, by omega⟩
theorem cm_b {b : Nat} (h : b < 128) : cmS S (2942 + b) = if S (2814 + b) = 0 then 0 else 1 := by
  unfold cmS
  rw [if_neg (by omega), if_pos ⟨by omega, by omega⟩, Nat.add_sub_cancel_left]
theorem cm_l {r : Nat} (h : r < 4) : cmS S (3390 + r) = cmN S r := by
  unfold cmS
  rw [if_neg (by omega), if_neg (by omega), if_pos ⟨by omega, by omega⟩, Nat.add_sub_cancel_left]
theorem cm_5 : cmS S 3395 = S 3395 + 1 := by
  unfold cmS
  rw [if_neg (by omega), if_neg (by omega), if_neg (by omega), if_pos rfl]
theorem cm_6 : cmS S 3396 = S 3396 + cmQ S 4 := by
  unfold cmS
  rw [if_neg (by omega), if_neg (by omega), if_neg (by omega), if_neg (by omega), if_pos rfl]
theorem cmQ_le {i : Nat} : cmQ S i ≤ i := by
  have := sumN_le (g := fun r => if cmC S r then 1 else 0) (c := 1) (n := i) (fun r _ => by
    show (if cmC S r then 1 else 0) ≤ 1
    split <;> omega)
  unfold cmQ
  omega
theorem cmN_le {r : Nat} : cmN S r ≤ 34 := lgN_le
end
/-- what a commit makes of the logs' entries -/
def Fcm (S : Nat → Nat) (N N' : Nat → Int32) : Prop := (∀ k, 2430 ≤ k → k < 2558 → N' k = N k) ∧ ∀ r, r < 4 → ∀ j, j < cmN S r → (cmO S r j → N' (3070 + 80 * r + j) = N (3070 + 80 * r + j)) ∧ (¬ cmO S r j → z_entry (N' (3070 + 80 * r + j)) (32 * r + (cmE S r j).1) (cmE S r j).2.1 (nI (cmE S r j).2.2))
def cmA (S : Nat → Nat) (b : Nat) : Nat := if S (2814 + b) = 0 then 0 else 1
theorem z_Is_S3 {n m : Nat} {S S' : Nat → Nat} (h : z_Is n S) (hc : ∀ k, 2304 ≤ k → k < 2430 → S' k = S k) (h94 : S' 3394 = S 3394) (b1 : ∀ r, r < 4 → S' (3390 + r) ≤ 34) (b2 : S' 3394 ≤ m ∧ S' 3395 ≤ m + 1 ∧ S' 3396 ≤ 4 * m) (b3 : ∀ s, s < 12 → S' (2406 + s) ≤ m + 1) : z_Is m S' := by
  have h2 := z_Is_S (S' := fun k => if k < 2430 then S' k else S k) h (fun k k1 k2 => by
    show (if k < 2430 then S' k else S k) = S k
    rw [if_pos k2]
    exact hc k k1 k2) (fun k k1 k2 => if_neg (by omega))
  obtain ⟨i1, i2, i3, i4, i5, i6, i7, i8, _, _⟩ := h
  have e0 : ∀ d, d < 6 → S' (2304 + d) = S (2304 + d) := fun d hd => hc _ (by omega) (by omega)
  have e1 : ∀ d, d < 6 → S' (2310 + d) = S (2310 + d) := fun d hd => hc _ (by omega) (by omega)
  have e2 : ∀ d, d < 6 → S' (2388 + d) = S (2388 + d) := fun d hd => hc _ (by omega) (by omega)
  have e3 : ∀ s, s < 12 → S' (2394 + s) = S (2394 + s) := fun d hd => hc _ (by omega) (by omega)
  have e4 : ∀ s, s < 12 → S' (2418 + s) = S (2418 + s) := fun d hd => hc _ (by omega) (by omega)
  have e5 : ∀ d r, d < 6 → r < 12 → z_ord S' d r = z_ord S d r := fun d r hd hr => hc _ (by omega) (by omega)
  refine ⟨fun d hd => by rw [e0 d hd]; exact i1 d hd, ?_, fun d hd => by rw [e0 d hd, e1 d hd, e2 d hd]; exact i3 d hd, fun s hs => ?_, fun s t hs ht => by rw [e3 s hs, e3 t ht]; exact i5 s t hs ht, fun d hd => ?_, fun d hd r q hr hq => ?_, fun d hd => ?_, b1, b2.1, b2.2.1, b2.2.2, b3⟩
  · obtain ⟨d, hd, q⟩ := i2
    exact ⟨d, hd, by rw [e0 d hd]; exact q⟩
  · rw [e3 s hs]
    intro q
    obtain ⟨q1, q2, q3, r, q4, q5⟩ := i4 s hs q
    have hk := (i6 _ q2).1
    refine ⟨by rw [e3 s hs, h94]; exact q1, by rw [e4 s hs]; exact q2, by rw [e4 s hs, e0 _ q2]; exact q3, r, by rw [e4 s hs, e2 _ q2]; exact q4, by rw [e4 s hs, e5 _ _ q2 (by omega)]; exact q5⟩
  · rw [e2 d hd]
    refine ⟨(i6 d hd).1, fun r hr => ?_⟩
    have hk := (i6 d hd).1
    have hz := (i6 d hd).2 r hr
    rw [e5 d r hd (by omega), e3 _ hz.1, e4 _ hz.1]
    exact hz
  · rw [e2 d hd] at hq
    have hk := (i6 d hd).1
    rw [e5 d r hd (by omega), e5 d q hd (by omega), e3 _ ((i6 d hd).2 r (by omega)).1, e3 _ ((i6 d hd).2 q (by omega)).1]
    exact i7 d hd r q hr hq
  · rw [e1 d hd, e2 d hd]
    refine ⟨(i8 d hd).1, fun q => ?_⟩
    have hk := (i6 d hd).1
    have hx := (i8 d hd).1
    rw [e3 _ (by omega)]
    refine ⟨((i8 d hd).2 q).1, fun r hr => ?_⟩
    rw [e5 d r hd (by omega), e3 _ ((i6 d hd).2 r hr).1]
    exact ((i8 d hd).2 q).2 r hr
theorem cm_I {n n' : Nat} {S : Nat → Nat} (hIs : z_Is n' S) (hIt : z_It n S) (h1 : S 3394 ≤ n + 1) (hI5 : S 3395 ≤ n + 1) (hI6 : S 3396 ≤ 4 * n) (h2 : ∀ s, s < 12 → S (2406 + s) ≤ n + 1) : z_I (n + 1) (cmS S) := by
  refine ⟨z_Is_S3 hIs (fun k k1 k2 => cm_o (by omega)) (cm_o (by omega)) (fun r hr => by rw [cm_l hr]; exact cmN_le) ⟨by rw [cm_o (by omega)]; exact h1, by rw [cm_5]; omega, by rw [cm_6]; have := cmQ_le (S := S) (i := 4); omega⟩ (fun s hs => by rw [cm_o (by omega)]; have := h2 s hs; omega), ?_⟩
  obtain ⟨t1, t2, t3, t4, t5, t6⟩ := hIt
  refine ⟨fun k hk => by rw [cm_o (by omega)]; exact t1 k hk, fun d hd q p hp => by
    rw [cm_o (by omega)] at q ⊢
    exact t2 d hd q p hp, fun s hs q p hp => by
    rw [cm_o (by omega)] at q ⊢
    exact t3 s hs q p hp, fun b hb => by
    rw [cm_o (by omega), t4 b hb]
    exact cntN_cg (fun i hi => (cm_o (by omega)).symm), fun b hb => by
    rw [cm_p hb]
    exact ⟨Nat.zero_le _, fun _ => rfl⟩, fun b hb => by
    rw [cm_o (by omega)]
    have := t6 b hb
    omega⟩
theorem cm_Bf {S : Nat → Nat} : z_Bf (cmS S) (cmS S) := fun b hb => by
  rw [cm_b hb, cm_o (by omega)]
  by_cases q : S (2814 + b) = 0
  · rw [if_pos q, if_neg (fun x => x q)]
  · rw [if_neg q, if_pos q]
theorem cRel {M : zM} {S : Nat → Nat} (hst : ∀ b, b < 128 → M (1 + 3 + 1) b = nI (z_sta S b)) : ∃ M', fX3_releasePending (1 + 3) M = some M' ∧ (∀ b, b < 128 → M' (1 + 3 + 1) b = nI (cmA S b)) ∧ ∀ a, a ≠ 1 + 3 + 1 → M' a = M a := by
  unfold fX3_releasePending
  obtain ⟨M', e1, e2, e3⟩ := z_loopM (f := fun x : Int32 × zM => fX3_releasePending_L1 (1 + 3) x.1 x.2) (fun i M' => (∀ b, b < 128 → M' (1 + 3 + 1) b = nI (if b < i then cmA S b else z_sta S b)) ∧ ∀ a, a ≠ 1 + 3 + 1 → M' a = M a) (fun M' => (∀ b, b < 128 → M' (1 + 3 + 1) b = nI (cmA S b)) ∧ ∀ a, a ≠ 1 + 3 + 1 → M' a = M a) 0 128 (by decide) (s := 0) (M := M) rfl ⟨fun b hb => by rw [if_neg (by omega)]; exact hst b hb, fun _ _ => rfl⟩ (fun i M' hi hI => by
    obtain ⟨b1, b2⟩ := hI
    have c1 := b1 i hi
    rw [if_neg (Nat.lt_irrefl i)] at c1
    have c2 := z_sta2 (S := S) (b := i)
    by_cases q : z_sta S i = 2
    · have hA : cmA S i = 0 := by
        unfold z_sta at q
        unfold cmA
        by_cases y : S (2814 + i) = 0
        · rw [if_pos y]
        · rw [if_pos y] at q
          exact absurd q (by decide)
      rw [q] at c1
      refine ⟨z_st M' (1 + 3 + 1) i (nI 0), by simp (disch := first | omega | assumption) only [l_0, l_1, l_2, l_3, l_4, l_5, l_6, l_7, l_8, l_11, l_12, l_15, l_16, l_31, l_32, l_66, l_80, l_100, l_127, l_128, l_768, l_2304, l_2310, l_2316, l_2388, l_2394, l_2406, l_2418, l_2430, l_2558, l_2686, l_2814, l_2942, l_3070, l_3390, l_3394, l_3395, l_3396, l_3397, n_leT, n_leF, n_ltT, n_ltF, n_eqT, n_eqF, nI_add, pk_mul, n_sub, z_ldn, z_san, z_bs, z_b2s, z_b3s, z_ocN, z_ocS, z_oxL, z_oxR, z_scL, z_scR, ↓reduceIte, Nat.zero_add, Nat.add_zero, Nat.zero_lt_succ, true_and, and_true, eq_self, fX3_releasePending_L1, c1], fun b hb => ?_, fun a ha => by rw [s_n ha]; exact b2 a ha⟩
      rw [s_s]
      by_cases y : b = i
      · rw [y, u_s, if_pos (Nat.lt_succ_self i), hA]
      · rw [u_n y, b1 b hb]
        by_cases y2 : b < i
        · rw [if_pos y2, if_pos (by omega)]
        · rw [if_neg y2, if_neg (by omega)]
    · have hA : cmA S i = z_sta S i := by
        unfold z_sta at q ⊢
        unfold cmA
        by_cases y : S (2814 + i) = 0
        · rw [if_neg (fun x => x y)] at q
          rw [if_pos y, if_neg (fun x => x y)]
          by_cases y2 : S (2686 + i) = 0
          · rw [if_neg (fun x => x y2)]
          · rw [if_pos y2] at q
            exact absurd rfl q
        · rw [if_neg y, if_pos y]
      refine ⟨M', by simp (disch := first | omega | assumption) only [l_0, l_1, l_2, l_3, l_4, l_5, l_6, l_7, l_8, l_11, l_12, l_15, l_16, l_31, l_32, l_66, l_80, l_100, l_127, l_128, l_768, l_2304, l_2310, l_2316, l_2388, l_2394, l_2406, l_2418, l_2430, l_2558, l_2686, l_2814, l_2942, l_3070, l_3390, l_3394, l_3395, l_3396, l_3397, n_leT, n_leF, n_ltT, n_ltF, n_eqT, n_eqF, nI_add, pk_mul, n_sub, z_ldn, z_san, z_bs, z_b2s, z_b3s, z_ocN, z_ocS, z_oxL, z_oxR, z_scL, z_scR, ↓reduceIte, Nat.zero_add, Nat.add_zero, Nat.zero_lt_succ, true_and, and_true, eq_self, fX3_releasePending_L1, c1], fun b hb => ?_, b2⟩
      rw [b1 b hb]
      by_cases y : b = i
      · rw [y, if_neg (Nat.lt_irrefl i), if_pos (Nat.lt_succ_self i), hA]
      · by_cases y2 : b < i
        · rw [if_pos y2, if_pos (by omega)]
        · rw [if_neg y2, if_neg (by omega)]) (fun M' hI => ⟨M', by simp (disch := first | omega | assumption) only [l_0, l_1, l_2, l_3, l_4, l_5, l_6, l_7, l_8, l_11, l_12, l_15, l_16, l_31, l_32, l_66, l_80, l_100, l_127, l_128, l_768, l_2304, l_2310, l_2316, l_2388, l_2394, l_2406, l_2418, l_2430, l_2558, l_2686, l_2814, l_2942, l_3070, l_3390, l_3394, l_3395, l_3396, l_3397, n_leT, n_leF, n_ltT, n_ltF, n_eqT, n_eqF, nI_add, pk_mul, n_sub, z_ldn, z_san, z_bs, z_b2s, z_b3s, z_ocN, z_ocS, z_oxL, z_oxR, z_scL, z_scR, ↓reduceIte, Nat.zero_add, Nat.add_zero, Nat.zero_lt_succ, true_and, and_true, eq_self, fX3_releasePending_L1], fun b hb => by rw [hI.1 b hb, if_pos hb], hI.2⟩)
  exact ⟨M', by rw [e1]; rfl, e2, e3⟩
/-- the class's log of region r after a commit -/
def cLf (S : Nat → Nat) (M1 M' : zM) (r : Nat) : Prop := M' (1 + 63 + 5 * r) 0 = nI (32 * r) ∧ M' (1 + 63 + 5 * r) 4 = nI (cmN S r) ∧ ∀ j, j < cmN S r → (cmO S r j → ∀ q, 1 ≤ q → q ≤ 3 → M' (1 + 63 + 5 * r + q) j = M1 (1 + 63 + 5 * r + q) j) ∧ (¬ cmO S r j → M' (1 + 63 + 5 * r + 1) j = nI (32 * r + (cmE S r j).1) ∧ M' (1 + 63 + 5 * r + 2) j = nI (cmE S r j).2.1 ∧ M' (1 + 63 + 5 * r + 3) j = nI (cmE S r j).2.2)
theorem cLogs {M1 : zM} {S S0 : Nat → Nat} (hl : ∀ r, r < 4 → M1 (1 + 63 + 5 * r) 0 = nI (32 * r) ∧ M1 (1 + 63 + 5 * r) 4 = nI (S (3390 + r)) ∧ S (3390 + r) ≤ 34) (ha : ∀ b, b < 128 → M1 (1 + 3 + 1) b = nI (cmA S b)) (hb : ∀ b, b < 128 → M1 (84 + 3 + 1) b = nI (z_sta S0 b)) (hB : z_Bf S S0) (hc : M1 1 6 = nI (S 3396)) : ∃ M', z_loop (fun x : Int32 × zM => fX6_closeTransaction_L1 0 x.1 x.2) z_FU (nI 0, M1) = some M' ∧ (∀ a, a ≠ 1 → (a < 64 ∨ 84 ≤ a) → M' a = M1 a) ∧ M' 1 6 = nI (S 3396 + cmQ S 4) ∧ (∀ j, j ≠ 6 → M' 1 j = M1 1 j) ∧ ∀ r, r < 4 → cLf S M1 M' r := by
  have hA1 : ∀ b, cmA S b ≤ 2 := fun b => by
    unfold cmA
    split <;> omega
  have hA : ∀ b, cmA S b = 1 ↔ S (2814 + b) ≠ 0 := fun b => by
    unfold cmA
    by_cases q : S (2814 + b) = 0
    · rw [if_pos q]
      exact ⟨fun x => absurd x (by decide), fun x => absurd q x⟩
    · rw [if_neg q]
      exact ⟨fun _ => q, fun _ => rfl⟩
  have hZ : ∀ b, b < 128 → (z_sta S0 b = 1 ↔ S (2942 + b) = 1) := fun b hb => by
    rw [hB b hb]
    unfold z_sta
    by_cases q : S0 (2814 + b) ≠ 0
    · rw [if_pos q, if_pos q]
    · rw [if_neg q, if_neg q]
      by_cases q2 : S0 (2686 + b) ≠ 0
      · rw [if_pos q2]
        exact ⟨fun x => absurd x (by decide), fun x => absurd x (by decide)⟩
      · rw [if_neg q2]
  refine z_loopM (f := fun x : Int32 × zM => fX6_closeTransaction_L1 0 x.1 x.2) (fun i M' => (∀ a, a ≠ 1 → (a < 64 ∨ 84 ≤ a) → M' a = M1 a) ∧ M' 1 6 = nI (S 3396 + cmQ S i) ∧ (∀ j, j ≠ 6 → M' 1 j = M1 1 j) ∧ ∀ r, r < 4 → (r < i → cLf S M1 M' r) ∧ (i ≤ r → ∀ q, q < 5 → M' (1 + 63 + 5 * r + q) = M1 (1 + 63 + 5 * r + q))) (fun M' => (∀ a, a ≠ 1 → (a < 64 ∨ 84 ≤ a) → M' a = M1 a) ∧ M' 1 6 = nI (S 3396 + cmQ S 4) ∧ (∀ j, j ≠ 6 → M' 1 j = M1 1 j) ∧ ∀ r, r < 4 → cLf S M1 M' r) 0 4 (by decide) (s := nI 0) (M := M1) rfl ⟨fun _ _ _ => rfl, hc, fun _ _ => rfl, fun r hr => ⟨fun x => absurd x (Nat.not_lt_zero r), fun _ _ _ => rfl⟩⟩ (fun i M' hi hI9 => by
      obtain ⟨b1, b2, b3, b4⟩ := hI9
      have b5 := (b4 i hi).2 (Nat.le_refl i)
      obtain ⟨h1, h2, h3⟩ := hl i hi
      have b50 : M' (1 + 63 + 5 * i) = M1 (1 + 63 + 5 * i) := b5 0 (by decide)
      obtain ⟨M2, f1, f2, f3, f4, f5⟩ := cRec (X := 1 + 63 + 5 * i) (a := 1 + 3) (b := 84 + 3) (r := i) (k := S (3390 + i)) (M := M') (sa := cmA S) (sb := z_sta S0) (g1 := gR S 1 i) (g0 := gR S 0 i) (g2 := gR S 2 i) hi (by rw [b50]; exact h1) (by rw [b50]; exact h2) h3 (fun c hc => ⟨by rw [b1 _ (by decide) (by decide)]; exact ha c hc, hA1 c⟩) (fun c hc => ⟨by rw [b1 _ (by decide) (by decide)]; exact hb c hc, z_sta2⟩) (by omega) (by omega) (fun p hp => by
        rw [gR_in hp]
        show (if S (2814 + (32 * i + p)) ≠ 0 ∧ S (2942 + (32 * i + p)) ≠ 1 then 1 else 0) = _
        have e1 := hA (32 * i + p)
        have e2 := hZ (32 * i + p) (by omega)
        by_cases y : S (2814 + (32 * i + p)) ≠ 0 ∧ S (2942 + (32 * i + p)) ≠ 1
        · rw [if_pos y, if_pos ⟨e1.mpr y.1, fun z => y.2 (e2.mp z)⟩]
        · rw [if_neg y, if_neg (fun z => y ⟨e1.mp z.1, fun w => z.2 (e2.mpr w)⟩)]) (fun p hp => by
        rw [gR_in hp]
        show (if S (2814 + (32 * i + p)) = 0 ∧ S (2942 + (32 * i + p)) = 1 then 1 else 0) = _
        have e1 := hA (32 * i + p)
        have e2 := hZ (32 * i + p) (by omega)
        by_cases y : S (2814 + (32 * i + p)) = 0 ∧ S (2942 + (32 * i + p)) = 1
        · rw [if_pos y, if_pos ⟨e2.mpr y.2, fun z => e1.mp z y.1⟩]
        · rw [if_neg y, if_neg (fun z => y ⟨Classical.byContradiction (fun w => z.2 (e1.mpr w)), e2.mp z.1⟩)]) (fun p hp => by
        rw [gR_in hp]
        show (if S (2814 + (32 * i + p)) = 0 then 0 else 1) = _
        have e1 := hA (32 * i + p)
        by_cases y : S (2814 + (32 * i + p)) = 0
        · rw [if_pos y, if_neg (fun z => e1.mp z y)]
        · rw [if_neg y, if_pos (e1.mpr y)]) (fun _ => gR_1) (fun _ => gR_1) (fun _ => gR_1) (gR_z (Nat.le_refl _)) (gR_z (Nat.le_refl _)) (gR_z (Nat.le_refl _))
      have e13 := z_lq13 (V := 1) hi
      have cellI : ∀ j, j < cmN S i → (cmO S i j → ∀ q, 1 ≤ q → q ≤ 3 → M2 (1 + 63 + 5 * i + q) j = M1 (1 + 63 + 5 * i + q) j) ∧ (¬ cmO S i j → M2 (1 + 63 + 5 * i + 1) j = nI (32 * i + (cmE S i j).1) ∧ M2 (1 + 63 + 5 * i + 2) j = nI (cmE S i j).2.1 ∧ M2 (1 + 63 + 5 * i + 3) j = nI (cmE S i j).2.2) := fun j hj => ⟨fun x q q1 q3 => by rw [(f4 j hj).1 x q q1 q3, b5 q (by omega)], (f4 j hj).2⟩
      have cl : ∀ (M3 : zM), (∀ a, a ≠ 1 → M3 a = M2 a) → ∀ r, r < 4 → (r < i + 1 → cLf S M1 M3 r) ∧ (i + 1 ≤ r → ∀ q, q < 5 → M3 (1 + 63 + 5 * r + q) = M1 (1 + 63 + 5 * r + q)) := fun M3 h3 r hr => ⟨fun x => by
        have h30 : M3 (1 + 63 + 5 * r) = M2 (1 + 63 + 5 * r) := h3 _ (by omega)
        have h3q : ∀ q, M3 (1 + 63 + 5 * r + q) = M2 (1 + 63 + 5 * r + q) := fun q => h3 _ (by omega)
        unfold cLf
        rw [h30, h3q 1, h3q 2, h3q 3]
        by_cases y : r = i
        · subst y
          refine ⟨f2, f3, fun j hj => ⟨fun z q q1 q3 => ?_, (cellI j hj).2⟩⟩
          rw [h3q]
          exact (cellI j hj).1 z q q1 q3
        · obtain ⟨k1, k2, k3⟩ := (b4 r hr).1 (by omega)
          have g0 : M2 (1 + 63 + 5 * r) = M' (1 + 63 + 5 * r) := f5 _ (by omega)
          have gq : ∀ q, q < 5 → M2 (1 + 63 + 5 * r + q) = M' (1 + 63 + 5 * r + q) := fun q hq => f5 _ (by omega)
          rw [g0, gq 1 (by omega), gq 2 (by omega), gq 3 (by omega)]
          refine ⟨k1, k2, fun j hj => ⟨fun z q q1 q3 => ?_, (k3 j hj).2⟩⟩
          rw [h3q, gq q (by omega)]
          exact (k3 j hj).1 z q q1 q3, fun x q hq => by
        rw [h3 _ (by omega), f5 _ (by omega)]
        exact (b4 r hr).2 (by omega) q hq⟩
      have h21 : M2 1 = M' 1 := f5 _ (by omega)
      by_cases y : cmC S i
      · have c6 : M2 1 6 = nI (S 3396 + cmQ S i) := by rw [h21]; exact b2
        rw [if_pos y] at f1
        refine ⟨z_st M2 1 6 (nI (S 3396 + cmQ S i + 1)), ?_, fun a a1 a2 => by rw [s_n a1, f5 a (by omega)]; exact b1 a a1 a2, ?_, fun j hj => by rw [s_s, u_n hj, h21]; exact b3 j hj, cl _ (fun a ha => s_n ha)⟩
        · simp (disch := first | omega | assumption) only [l_0, l_1, l_2, l_3, l_4, l_5, l_6, l_7, l_8, l_11, l_12, l_15, l_16, l_31, l_32, l_66, l_80, l_100, l_127, l_128, l_768, l_2304, l_2310, l_2316, l_2388, l_2394, l_2406, l_2418, l_2430, l_2558, l_2686, l_2814, l_2942, l_3070, l_3390, l_3394, l_3395, l_3396, l_3397, n_leT, n_leF, n_ltT, n_ltF, n_eqT, n_eqF, nI_add, pk_mul, n_sub, z_ldn, z_san, z_bs, z_b2s, z_b3s, z_ocN, z_ocS, z_oxL, z_oxR, z_scL, z_scR, ↓reduceIte, Nat.zero_add, Nat.add_zero, Nat.zero_lt_succ, true_and, and_true, eq_self, fX6_closeTransaction_L1, e13, f1, c6]
        · rw [s_s, u_s]
          show nI (S 3396 + cmQ S i + 1) = nI (S 3396 + (cmQ S i + (if cmC S i then 1 else 0)))
          rw [if_pos y, Nat.add_assoc]
      · rw [if_neg y] at f1
        refine ⟨M2, ?_, fun a a1 a2 => by rw [f5 a (by omega)]; exact b1 a a1 a2, ?_, fun j hj => by rw [h21]; exact b3 j hj, cl _ (fun a ha => rfl)⟩
        · simp (disch := first | omega | assumption) only [l_0, l_1, l_2, l_3, l_4, l_5, l_6, l_7, l_8, l_11, l_12, l_15, l_16, l_31, l_32, l_66, l_80, l_100, l_127, l_128, l_768, l_2304, l_2310, l_2316, l_2388, l_2394, l_2406, l_2418, l_2430, l_2558, l_2686, l_2814, l_2942, l_3070, l_3390, l_3394, l_3395, l_3396, l_3397, n_leT, n_leF, n_ltT, n_ltF, n_eqT, n_eqF, nI_add, pk_mul, n_sub, z_ldn, z_san, z_bs, z_b2s, z_b3s, z_ocN, z_ocS, z_oxL, z_oxR, z_scL, z_scR, ↓reduceIte, Nat.zero_add, Nat.add_zero, Nat.zero_lt_succ, true_and, and_true, eq_self, fX6_closeTransaction_L1, e13, f1]
        · rw [h21, b2]
          show nI (S 3396 + cmQ S i) = nI (S 3396 + (cmQ S i + (if cmC S i then 1 else 0)))
          rw [if_neg y, Nat.add_zero]) (fun M' hI9 => ⟨M', by simp (disch := first | omega | assumption) only [l_0, l_1, l_2, l_3, l_4, l_5, l_6, l_7, l_8, l_11, l_12, l_15, l_16, l_31, l_32, l_66, l_80, l_100, l_127, l_128, l_768, l_2304, l_2310, l_2316, l_2388, l_2394, l_2406, l_2418, l_2430, l_2558, l_2686, l_2814, l_2942, l_3070, l_3390, l_3394, l_3395, l_3396, l_3397, n_leT, n_leF, n_ltT, n_ltF, n_eqT, n_eqF, nI_add, pk_mul, n_sub, z_ldn, z_san, z_bs, z_b2s, z_b3s, z_ocN, z_ocS, z_oxL, z_oxR, z_scL, z_scR, ↓reduceIte, Nat.zero_add, Nat.add_zero, Nat.zero_lt_succ, true_and, and_true, eq_self, fX6_closeTransaction_L1], hI9.1, hI9.2.1, hI9.2.2.1, fun r hr => (hI9.2.2.2 r hr).1 hr⟩)
theorem cm_R {M M1 M4 M6 : zM} {N N' : Nat → Int32} {S : Nat → Nat} {n : Nat} (hR : z_R1 1 M N S) (hIs : z_Is n S) (hF : Fcm S N N') (f1 : ∀ b, b < 128 → M1 (1 + 3 + 1) b = nI (cmA S b)) (f2 : ∀ a, a ≠ 1 + 3 + 1 → M1 a = M a) (l1 : ∀ a, a ≠ 1 → (a < 64 ∨ 84 ≤ a) → M4 a = M1 a) (l2 : M4 1 6 = nI (S 3396 + cmQ S 4)) (l3 : ∀ j, j ≠ 6 → M4 1 j = M1 1 j) (l4 : ∀ r, r < 4 → cLf S M1 M4 r) (h6 : M6 = z_st M4 1 4 (nI (S 3395 + 1))) : z_R1 1 M6 N' (cmS S) := by
  obtain ⟨r1, r2, r3, r4, r5, r6⟩ := hR
  have f6 : ∀ a, a ≠ 1 → M6 a = M4 a := fun a ha => by rw [h6, s_n ha]
  have fM : ∀ a, a ≠ 1 → a ≠ 1 + 3 + 1 → (a < 64 ∨ 84 ≤ a) → M6 a = M a := fun a a1 a2 a3 => by rw [f6 a a1, l1 a a1 a3, f2 a a2]
  refine ⟨fun t ht p hp => ?_, R_ds_S (R_ds_cg r2 (fun k k1 k2 => fM k (by omega) (by omega) (by omega))) (fun d hd => (hIs.2.2.2.2.2.2.2.1 d hd).1) (fun k k1 k2 => cm_o (by omega)), R_sn_S (R_sn_cg r3 (fun k k1 k2 => fM k (by omega) (by omega) (by omega))) hIs.2.2.2.1 (fun d hd => (hIs.2.2.2.2.2.1 d hd).1) (fun k k1 k2 => cm_o (by omega)), fun b hb => ⟨?_, ?_, ?_, ?_⟩, fun r hr => ?_, ?_, ?_, ?_⟩
  · rw [fM _ (by omega) (by omega) (by omega), cm_o (by omega)]
    exact r1 t ht p hp
  · rw [f6 _ (by decide), l1 _ (by decide) (by decide), f1 b hb]
    unfold z_sta cmA
    rw [cm_o (by omega), cm_p hb]
    by_cases q : S (2814 + b) = 0
    · rw [if_pos q, if_neg (fun x => x q), if_neg (fun x => x rfl)]
    · rw [if_neg q, if_pos q]
  · rw [fM _ (by decide) (by decide) (by decide), hF.1 _ (by omega) (by omega)]
    exact (r4 b hb).2.1
  · rw [fM _ (by decide) (by decide) (by decide), cm_o (by omega)]
    exact (r4 b hb).2.2.1
  · rw [fM _ (by decide) (by decide) (by decide), cm_o (by omega)]
    exact (r4 b hb).2.2.2
  · obtain ⟨k1, k2, k3⟩ := l4 r hr
    obtain ⟨q1, q2, q3⟩ := r5 r hr
    have g0 : M6 (1 + 63 + 5 * r) = M4 (1 + 63 + 5 * r) := f6 _ (by omega)
    refine ⟨by rw [g0]; exact k1, by rw [g0, cm_l hr]; exact k2, fun j hj => ?_⟩
    rw [cm_l hr] at hj
    obtain ⟨u1, u2⟩ := k3 j hj
    obtain ⟨v1, v2⟩ := hF.2 r hr j hj
    unfold R_lg1
    rw [f6 (1 + 63 + 5 * r + 1) (by omega), f6 (1 + 63 + 5 * r + 2) (by omega), f6 (1 + 63 + 5 * r + 3) (by omega)]
    by_cases y : cmO S r j
    · rw [u1 y 1 (by omega) (by omega), u1 y 2 (by omega) (by omega), u1 y 3 (by omega) (by omega), v1 y, f2 (1 + 63 + 5 * r + 1) (by omega), f2 (1 + 63 + 5 * r + 2) (by omega), f2 (1 + 63 + 5 * r + 3) (by omega)]
      exact q3 j y.2
    · obtain ⟨w1, w2, w3⟩ := u2 y
      obtain ⟨e1, e2, e3⟩ := lgE_val hj y
      rw [w3]
      exact ⟨_, _, e1, Nat.le_add_right _ _, by show 32 * r + (cmE S r j).1 + (cmE S r j).2.1 ≤ 32 * r + 32; have e2 : (cmE S r j).1 + (cmE S r j).2.1 ≤ 32 := e2; omega, w1, w2, v2 y⟩
  · rw [h6, s_s, u_s, cm_5]
  · rw [h6, s_s, u_n (by decide), l3 5 (by decide), f2 1 (by decide), cm_o (by omega)]
    exact r6.2.1
  · rw [h6, s_s, u_n (by decide), cm_6]
    exact l2
theorem cClose {n n' : Nat} {M : zM} {N N0 N1 : Nat → Int32} {S S0 : Nat → Nat} (hR : z_R1 1 M N S) (hR0 : z_R1 84 M N0 S0) (hI : z_I n' S) (hI' : z_I (n + 1) (cmS S)) (hB : z_Bf S S0) (hF : Fcm S N N1) : ∃ M', fX6_closeTransaction 0 M = some (nI (S 3395), M') ∧ (∀ N', Fcm S N N' → z_R1 1 M' N' (cmS S) ∧ z_R1 84 M' N' (cmS S)) ∧ ∀ a, 167 ≤ a → M' a = M a := by
  obtain ⟨M1, e1, f1, f2⟩ := cRel (I_st hR.2.2.2.1)
  have c4 : M 1 4 = nI (S 3395) := hR.2.2.2.2.2.1
  obtain ⟨M4, g1, l1, l2, l3, l4⟩ := cLogs (M1 := M1) (S := S) (S0 := S0) (fun r hr => by
    rw [f2 _ (by omega)]
    exact ⟨(hR.2.2.2.2.1 r hr).1, (hR.2.2.2.2.1 r hr).2.1, I_log hI r hr⟩) f1 (fun b hb => by
    rw [f2 _ (by decide)]
    exact (hR0.2.2.2.1 b hb).1) hB (by rw [f2 _ (by decide)]; exact hR.2.2.2.2.2.2.2)
  obtain ⟨M6, hM6⟩ : ∃ M6, M6 = z_st M4 1 4 (nI (S 3395 + 1)) := ⟨_, rfl⟩
  have hall : ∀ N', Fcm S N N' → z_R1 1 M6 N' (cmS S) := fun N' h => cm_R hR hI.1 h f1 f2 l1 l2 l3 l4 hM6
  have f84 : ∀ a, 84 ≤ a → M6 a = M a := fun a ha => by rw [hM6, s_n (by omega), l1 a (by omega) (by omega), f2 a (by omega)]
  obtain ⟨M7, h1, h2, h3⟩ := cCopy (V := 84) (W := 1) (by decide) (hall N1 hF) hI' (fun r hr => by
    rw [f84 _ (by omega)]
    exact (hR0.2.2.2.2.1 r hr).1)
  refine ⟨M7, ?_, fun N' h => ⟨z_R1_cg (hall N' h) (fun k k1 k2 _ => h3 k (by omega)), h2 N' (hall N' h)⟩, fun a ha => by rw [h3 a (by omega), f84 a (by omega)]⟩
  unfold fX6_closeTransaction
  rw [show fX3_releasePending (0 + 1 + 3) M = some M1 from e1, z_bs, show z_loop _ z_FU ((0 : Int32), M1) = _ from g1, z_bs, c4, show nI (S 3395) + 1 = nI (S 3395 + 1) from nI_add _ _, show z_st M4 (0 + 1) 4 (nI (S 3395 + 1)) = M6 from hM6.symm, z_bs, show fX5_copyFrom (0 + 84) (0 + 1) M6 = some M7 from h1, z_bs]
theorem Bf_1 {S S0 : Nat → Nat} (h : z_Bf S S0) : ∀ b, b < 128 → S (2942 + b) ≤ 1 := fun b hb => by
  rw [h b hb]
  split <;> omega
/-! ===== snapshot ===== -/
theorem cUs {M : zM} {S : Nat → Nat} (hR : R_sn 1 M S) : (∃ s, s < 12 ∧ S (2394 + s) = 0 ∧ (∀ j, j < s → S (2394 + j) ≠ 0) ∧ fX5_unusedSnapshot 1 M = some (some (1 + 27 + 3 * s))) ∨ ((∀ s, s < 12 → S (2394 + s) ≠ 0) ∧ fX5_unusedSnapshot 1 M = some none) := by
  unfold fX5_unusedSnapshot
  rcases z_loopW (f := fun s : Int32 => fX5_unusedSnapshot_L1 1 M s) (fun i => S (2394 + i) = 0) (fun i => (Sum.inr (some (1 + 27 + 3 * i)) : Unit ⊕ Option Nat)) (Sum.inl ()) 0 12 (by decide) (s := 0) rfl (fun i _ => Classical.em _) (fun i hi q => by
    have e := z_lq12 (V := 1) hi
    have c1 := (hR i hi).1
    rw [if_neg q] at c1
    simp (disch := first | omega | assumption) only [l_0, l_1, l_2, l_3, l_4, l_5, l_6, l_7, l_8, l_11, l_12, l_15, l_16, l_31, l_32, l_66, l_80, l_100, l_127, l_128, l_768, l_2304, l_2310, l_2316, l_2388, l_2394, l_2406, l_2418, l_2430, l_2558, l_2686, l_2814, l_2942, l_3070, l_3390, l_3394, l_3395, l_3396, l_3397, n_leT, n_leF, n_ltT, n_ltF, n_eqT, n_eqF, nI_add, pk_mul, n_sub, z_ldn, z_san, z_bs, z_b2s, z_b3s, z_ocN, z_ocS, z_oxL, z_oxR, z_scL, z_scR, ↓reduceIte, Nat.zero_add, Nat.add_zero, Nat.zero_lt_succ, true_and, and_true, eq_self, fX5_unusedSnapshot_L1, e, c1]) (fun i hi q => by
    have e := z_lq12 (V := 1) hi
    have c1 := (hR i hi).1
    rw [if_pos q] at c1
    simp (disch := first | omega | assumption) only [l_0, l_1, l_2, l_3, l_4, l_5, l_6, l_7, l_8, l_11, l_12, l_15, l_16, l_31, l_32, l_66, l_80, l_100, l_127, l_128, l_768, l_2304, l_2310, l_2316, l_2388, l_2394, l_2406, l_2418, l_2430, l_2558, l_2686, l_2814, l_2942, l_3070, l_3390, l_3394, l_3395, l_3396, l_3397, n_leT, n_leF, n_ltT, n_ltF, n_eqT, n_eqF, nI_add, pk_mul, n_sub, z_ldn, z_san, z_bs, z_b2s, z_b3s, z_ocN, z_ocS, z_oxL, z_oxR, z_scL, z_scR, ↓reduceIte, Nat.zero_add, Nat.add_zero, Nat.zero_lt_succ, true_and, and_true, eq_self, fX5_unusedSnapshot_L1, e, c1]) (by simp (disch := first | omega | assumption) only [l_0, l_1, l_2, l_3, l_4, l_5, l_6, l_7, l_8, l_11, l_12, l_15, l_16, l_31, l_32, l_66, l_80, l_100, l_127, l_128, l_768, l_2304, l_2310, l_2316, l_2388, l_2394, l_2406, l_2418, l_2430, l_2558, l_2686, l_2814, l_2942, l_3070, l_3390, l_3394, l_3395, l_3396, l_3397, n_leT, n_leF, n_ltT, n_ltF, n_eqT, n_eqF, nI_add, pk_mul, n_sub, z_ldn, z_san, z_bs, z_b2s, z_b3s, z_ocN, z_ocS, z_oxL, z_oxR, z_scL, z_scR, ↓reduceIte, Nat.zero_add, Nat.add_zero, Nat.zero_lt_succ, true_and, and_true, eq_self, fX5_unusedSnapshot_L1]) with ⟨i, h1, h2, h3, h4⟩ | ⟨h1, h2⟩
  · exact Or.inl ⟨i, h1, h2, h3, by rw [h4]; rfl⟩
  · exact Or.inr ⟨h1, by rw [h2]; rfl⟩
/-- the lowest slot that is free among the last i, or 12 -/
def lfS (S : Nat → Nat) : Nat → Nat
  | 0 => 12
  | i + 1 => if S (2394 + (11 - i)) = 0 then 11 - i else lfS S i
def lfv (x : Nat) : Int32 := if x = 12 then -nI 1 else nI x
theorem lfS_s {S : Nat → Nat} {s : Nat} (hs : s < 12) (h0 : S (2394 + s) = 0) (h1 : ∀ j, j < s → S (2394 + j) ≠ 0) : ∀ k, k ≤ s → lfS S (12 - s + k) = s
  | 0, _ => by
    rw [Nat.add_zero, show 12 - s = (11 - s) + 1 by omega]
    unfold lfS
    rw [show 11 - (11 - s) = s by omega, if_pos h0]
  | k + 1, hk => by
    have ih := lfS_s hs h0 h1 k (by omega)
    rw [show 12 - s + (k + 1) = (12 - s + k) + 1 by omega]
    unfold lfS
    rw [if_neg (h1 _ (by omega)), ih]
theorem lfS_n {S : Nat → Nat} (h1 : ∀ j, j < 12 → S (2394 + j) ≠ 0) : ∀ k, k ≤ 12 → lfS S k = 12
  | 0, _ => rfl
  | k + 1, hk => by
    have ih := lfS_n h1 k (by omega)
    unfold lfS
    rw [if_neg (h1 _ (by omega)), ih]
theorem own11 {n : Nat} {S : Nat → Nat} (hI : z_I n S) {d s : Nat} (hd : d < 6) (hs : s < 12) (h0 : S (2394 + s) = 0) : S (2388 + d) ≤ 11 := by
  have e := sumN_ch (g := z_own S d) (g' := fun i => if i = s then 1 else z_own S d i) (k := s) (n := 12) hs (fun i hi hne => if_neg hne)
  rw [z_own_cnt hI hd] at e
  have e1 : z_own S d s = 0 := if_neg (fun x => x.1 h0)
  have e2 : (if s = s then 1 else z_own S d s) = 1 := if_pos rfl
  have e3 : sumN (fun i => if i = s then 1 else z_own S d i) 12 ≤ 1 * 12 := sumN_le (fun i hi => by
    by_cases q : i = s
    · rw [if_pos q]
      exact Nat.le_refl _
    · rw [if_neg q]
      unfold z_own
      split <;> omega)
  omega
def snS (S : Nat → Nat) (d s c : Nat) : Nat → Nat := rngN (updN (updN (updN (updN (updN (updN S 3394 (S 3394 + 1)) (2394 + s) (S 3394 + 1)) (2406 + s) (S 3395)) (2418 + s) d) (2316 + 12 * d + c) s) (2388 + d) (c + 1)) (768 + 128 * s) 128 (fun p => S (128 * d + p))
section
variable {S : Nat → Nat} {d s c : Nat}
theorem sn_T (hd : d < 6) (hs : s < 12) (hc : c ≤ 11) {k : Nat} (hk : k < 2304) : snS S d s c k = if 768 + 128 * s ≤ k ∧ k < 768 + 128 * s + 128 then S (128 * d + (k - (768 + 128 * s))) else S k := by
  unfold snS
  by_cases q : 768 + 128 * s ≤ k ∧ k < 768 + 128 * s + 128
  · rw [rng_in q.1 q.2, if_pos q]
  · rw [rng_out (by omega), if_neg q, upN_n (by omega), upN_n (by omega), upN_n (by omega), upN_n (by omega), upN_n (by omega), upN_n (by omega)]
theorem sn_E (hd : d < 6) (hs : s < 12) (hc : c ≤ 11) {k : Nat} (h1 : (2304 ≤ k ∧ k < 2316) ∨ (2430 ≤ k ∧ k ≠ 3394)) : snS S d s c k = S k := by
  unfold snS
  rw [rng_out (by omega), upN_n (by omega), upN_n (by omega), upN_n (by omega), upN_n (by omega), upN_n (by omega), upN_n (by omega)]
theorem sn_9 (hd : d < 6) (hs : s < 12) (hc : c ≤ 11) : snS S d s c 3394 = S 3394 + 1 := by
  unfold snS
  rw [rng_out (by omega), upN_n (by omega), upN_n (by omega), upN_n (by omega), upN_n (by omega), upN_n (by omega), upN_s]
theorem sn_O (hd : d < 6) (hs : s < 12) (hc : c ≤ 11) {e r : Nat} (he : e < 6) (hr : r < 12) : z_ord (snS S d s c) e r = if e = d ∧ r = c then s else z_ord S e r := by
  unfold snS z_ord
  rw [rng_out (by omega), upN_n (by omega)]
  by_cases q : e = d ∧ r = c
  · rw [if_pos q, q.1, q.2, upN_s]
  · rw [if_neg q, upN_n (by omega), upN_n (by omega), upN_n (by omega), upN_n (by omega), upN_n (by omega)]
theorem sn_C (hd : d < 6) (hs : s < 12) (hc : c ≤ 11) {e : Nat} (he : e < 6) : snS S d s c (2388 + e) = if e = d then c + 1 else S (2388 + e) := by
  unfold snS
  rw [rng_out (by omega)]
  by_cases q : e = d
  · rw [if_pos q, q, upN_s]
  · rw [if_neg q, upN_n (by omega), upN_n (by omega), upN_n (by omega), upN_n (by omega), upN_n (by omega), upN_n (by omega)]
theorem sn_N (hd : d < 6) (hs : s < 12) (hc : c ≤ 11) {t : Nat} (ht : t < 12) : snS S d s c (2394 + t) = if t = s then S 3394 + 1 else S (2394 + t) := by
  unfold snS
  rw [rng_out (by omega), upN_n (by omega), upN_n (by omega), upN_n (by omega), upN_n (by omega)]
  by_cases q : t = s
  · rw [if_pos q, q, upN_s]
  · rw [if_neg q, upN_n (by omega), upN_n (by omega)]
theorem sn_X (hd : d < 6) (hs : s < 12) (hc : c ≤ 11) {t : Nat} (ht : t < 12) : snS S d s c (2406 + t) = if t = s then S 3395 else S (2406 + t) := by
  unfold snS
  rw [rng_out (by omega), upN_n (by omega), upN_n (by omega), upN_n (by omega)]
  by_cases q : t = s
  · rw [if_pos q, q, upN_s]
  · rw [if_neg q, upN_n (by omega), upN_n (by omega), upN_n (by omega)]
theorem sn_W (hd : d < 6) (hs : s < 12) (hc : c ≤ 11) {t : Nat} (ht : t < 12) : snS S d s c (2418 + t) = if t = s then d else S (2418 + t) := by
  unfold snS
  rw [rng_out (by omega), upN_n (by omega), upN_n (by omega)]
  by_cases q : t = s
  · rw [if_pos q, q, upN_s]
  · rw [if_neg q, upN_n (by omega), upN_n (by omega), upN_n (by omega), upN_n (by omega)]
end
theorem sn_Is {n : Nat} {S : Nat → Nat} (hI : z_I n S) {d s c : Nat} (hd : d < 6) (hdx : S (2304 + d) = 1) (hs : s < 12) (h0 : S (2394 + s) = 0) (hcc : c = S (2388 + d)) : z_Is (n + 1) (snS S d s c) := by
  have hc : c ≤ 11 := by rw [hcc]; exact own11 hI hd hs h0
  obtain ⟨i1, i2, i3, i4, i5, i6, i7, i8, i9, j1, j2, j3, j5⟩ := hI.1
  have eE := fun {k : Nat} (h : (2304 ≤ k ∧ k < 2316) ∨ (2430 ≤ k ∧ k ≠ 3394)) => sn_E (S := S) hd hs hc h
  have eO := fun {e r : Nat} (he : e < 6) (hr : r < 12) => sn_O (S := S) hd hs hc he hr
  have eC := fun {e : Nat} (he : e < 6) => sn_C (S := S) hd hs hc he
  have eN := fun {t : Nat} (ht : t < 12) => sn_N (S := S) hd hs hc ht
  have eX := fun {t : Nat} (ht : t < 12) => sn_X (S := S) hd hs hc ht
  have eW := fun {t : Nat} (ht : t < 12) => sn_W (S := S) hd hs hc ht
  have e9 := sn_9 (S := S) hd hs hc
  have hnb : ∀ t, t < 12 → S (2394 + t) ≤ S 3394 := fun t ht => by
    by_cases q : S (2394 + t) = 0
    · omega
    · exact (i4 t ht q).1
  have hlv : ∀ e r, e < 6 → r < S (2388 + e) → z_ord S e r < 12 ∧ S (2394 + z_ord S e r) ≠ 0 ∧ S (2418 + z_ord S e r) = e ∧ z_ord S e r ≠ s := fun e r he hr => by
    obtain ⟨k1, k2, k3⟩ := (i6 e he).2 r hr
    exact ⟨k1, k2, k3, fun x => k2 (by rw [x]; exact h0)⟩
  refine ⟨fun e he => by rw [eE (by omega)]; exact i1 e he, ?_, fun e he => ?_, fun t ht q => ?_, fun t u ht hu q q2 => ?_, fun e he => ?_, fun e he r q hr hq => ?_, fun e he => ?_, fun r hr => by rw [eE (by omega)]; exact i9 r hr, by rw [e9]; omega, by rw [eE (by omega)]; omega, by rw [eE (by omega)]; omega, fun t ht => by
    rw [eX ht]
    have := j5 t ht
    split <;> omega⟩
  · obtain ⟨e, he, q⟩ := i2
    exact ⟨e, he, by rw [eE (by omega)]; exact q⟩
  · rw [eE (by omega), eE (by omega), eC he]
    intro q
    have hne : e ≠ d := fun x => by rw [x] at q; omega
    rw [if_neg hne]
    exact i3 e he q
  · unfold z_liv
    rw [eN ht] at q
    rw [eN ht, eW ht, e9]
    by_cases y : t = s
    · rw [if_pos y, if_pos y]
      refine ⟨Nat.le_refl _, hd, by rw [eE (by omega)]; exact hdx, c, by rw [eC hd, if_pos rfl]; omega, ?_⟩
      rw [eO hd (by omega), if_pos ⟨rfl, rfl⟩, y]
    · rw [if_neg y] at q
      rw [if_neg y, if_neg y]
      obtain ⟨q1, q2, q3, r, q4, q5⟩ := i4 t ht q
      have r12 := (i6 _ q2).1
      refine ⟨by omega, q2, by rw [eE (by omega)]; exact q3, r, ?_, ?_⟩
      · rw [eC q2]
        by_cases z : S (2418 + t) = d
        · rw [if_pos z, hcc]
          rw [z] at q4
          omega
        · rw [if_neg z]
          exact q4
      · rw [eO q2 (by omega), if_neg (fun z => by
          have z2 := z.2
          rw [z.1] at q4
          omega)]
        exact q5
  · rw [eN ht] at q q2
    rw [eN hu] at q2
    have hu2 := hnb u hu
    have ht2 := hnb t ht
    by_cases y : t = s
    · by_cases y2 : u = s
      · rw [y, y2]
      · rw [if_pos y, if_neg y2] at q2
        omega
    · by_cases y2 : u = s
      · rw [if_neg y, if_pos y2] at q2
        omega
      · rw [if_neg y] at q q2
        rw [if_neg y2] at q2
        exact i5 t u ht hu q q2
  · rw [eC he]
    have r12 := (i6 e he).1
    refine ⟨by split <;> omega, fun r hr => ?_⟩
    by_cases y : e = d ∧ r = c
    · rw [eO he (by omega), if_pos y, eN hs, if_pos rfl, eW hs, if_pos rfl, y.1]
      exact ⟨hs, by omega, rfl⟩
    · have hr2 : r < S (2388 + e) := by
        by_cases z : e = d
        · rw [if_pos z] at hr
          rw [z, ← hcc]
          have : r ≠ c := fun w => y ⟨z, w⟩
          omega
        · rw [if_neg z] at hr
          exact hr
      obtain ⟨k1, k2, k3, k4⟩ := hlv e r he hr2
      rw [eO he (by omega), if_neg y, eN k1, if_neg k4, eW k1, if_neg k4]
      exact ⟨k1, k2, k3⟩
  · rw [eC he] at hq
    have r12 := (i6 e he).1
    have hr2 : r < S (2388 + e) := by
      by_cases z : e = d
      · rw [if_pos z] at hq
        rw [z, ← hcc]
        omega
      · rw [if_neg z] at hq
        omega
    obtain ⟨k1, k2, k3, k4⟩ := hlv e r he hr2
    have y1 : ¬ (e = d ∧ r = c) := fun w => by
      rw [w.1, ← hcc] at hr2
      have := w.2
      omega
    rw [eO he (by omega), if_neg y1, eN k1, if_neg k4]
    by_cases y : e = d ∧ q = c
    · rw [eO he (by omega), if_pos y, eN hs, if_pos rfl]
      have := hnb _ k1
      omega
    · have hq2 : q < S (2388 + e) := by
        by_cases z : e = d
        · rw [if_pos z] at hq
          rw [z, ← hcc]
          have : q ≠ c := fun w => y ⟨z, w⟩
          omega
        · rw [if_neg z] at hq
          exact hq
      obtain ⟨l1, l2, l3, l4⟩ := hlv e q he hq2
      rw [eO he (by omega), if_neg y, eN l1, if_neg l4]
      exact i7 e he r q hr hq2
  · rw [eE (by omega), eC he]
    obtain ⟨m1, m2⟩ := i8 e he
    refine ⟨m1, fun q => ?_⟩
    obtain ⟨m3, m4⟩ := m2 q
    have hos : S (2310 + e) - 1 ≠ s := fun x => m3 (by rw [x]; exact h0)
    rw [eN (by omega), if_neg hos]
    refine ⟨m3, fun r hr => ?_⟩
    have r12 := (i6 e he).1
    by_cases y : e = d ∧ r = c
    · rw [eO he (by omega), if_pos y, eN hs, if_pos rfl]
      have := hnb (S (2310 + e) - 1) (by omega)
      omega
    · have hr2 : r < S (2388 + e) := by
        by_cases z : e = d
        · rw [if_pos z] at hr
          rw [z, ← hcc]
          have : r ≠ c := fun w => y ⟨z, w⟩
          omega
        · rw [if_neg z] at hr
          exact hr
      obtain ⟨k1, k2, k3, k4⟩ := hlv e r he hr2
      rw [eO he (by omega), if_neg y, eN k1, if_neg k4]
      exact m4 r hr2
theorem Fcm_cg {S : Nat → Nat} {N N2 N' : Nat → Int32} (h : Fcm S N2 N') (h1 : ∀ k, 2430 ≤ k → k < 2558 → N2 k = N k) (h2 : ∀ k, 3070 ≤ k → k < 3390 → N2 k = N k) : Fcm S N N' :=
  ⟨fun k k1 k2 => by rw [← h1 k k1 k2]; exact h.1 k k1 k2, fun r hr j hj => by
    have := cmN_le (S := S) (r := r)
    obtain ⟨a1, a2⟩ := h.2 r hr j hj
    exact ⟨fun x => by rw [← h2 _ (by omega) (by omega)]; exact a1 x, a2⟩⟩
theorem cTk {n : Nat} {M : zM} {N : Nat → Int32} {S : Nat → Nat} {d s c : Nat} (hR : z_R1 1 M N S) (hI : z_I n S) (hd : d < 6) (hs : s < 12) (h0 : S (2394 + s) = 0) (hcc : c = S (2388 + d)) : ∃ M8, fX5_take 1 (1 + 27 + 3 * s) (1 + 9 + 3 * d) (nI d) M = some M8 ∧ y_Q 1 M8 N (snS S d s c) (z_sta S) ∧ ∀ a, 84 ≤ a → M8 a = M a := by
  have hc : c ≤ 11 := by rw [hcc]; exact own11 hI hd hs h0
  have hQ := z_Q_of hR hI
  have c5 : M 1 5 = nI (S 3394) := hR.2.2.2.2.2.2.1
  have c4 : M 1 4 = nI (S 3395) := hR.2.2.2.2.2.1
  have hso := cSo hR.2.2.1 hI hd
  rw [← hcc] at hso
  obtain ⟨M2, hM2⟩ : ∃ M2, M2 = z_st M (1 + 27 + 3 * s) 4 (nI c) := ⟨_, rfl⟩
  obtain ⟨M3, hM3⟩ : ∃ M3, M3 = z_st M2 (1 + 27 + 3 * s) 3 (nI d) := ⟨_, rfl⟩
  have k3 : M3 1 5 = nI (S 3394) := by rw [hM3, s_n (by omega), hM2, s_n (by omega)]; exact c5
  obtain ⟨M4, hM4⟩ : ∃ M4, M4 = z_st M3 (1 + 27 + 3 * s) 2 (nI (S 3394)) := ⟨_, rfl⟩
  have k4 : M4 1 4 = nI (S 3395) := by rw [hM4, s_n (by omega), hM3, s_n (by omega), hM2, s_n (by omega)]; exact c4
  obtain ⟨M5, hM5⟩ : ∃ M5, M5 = z_st M4 (1 + 27 + 3 * s) 5 (nI (S 3395)) := ⟨_, rfl⟩
  obtain ⟨M6, hM6⟩ : ∃ M6, M6 = z_st M5 (1 + 27 + 3 * s) 1 (nI 1) := ⟨_, rfl⟩
  have f6 : ∀ a, a ≠ 1 + 27 + 3 * s → M6 a = M a := fun a ha => by rw [hM6, s_n ha, hM5, s_n ha, hM4, s_n ha, hM3, s_n ha, hM2, s_n ha]
  have r6 : M6 (1 + 27 + 3 * s) = upd (upd (upd (upd (upd (M (1 + 27 + 3 * s)) 4 (nI c)) 3 (nI d)) 2 (nI (S 3394))) 5 (nI (S 3395))) 1 (nI 1) := by rw [hM6, s_s, hM5, s_s, hM4, s_s, hM3, s_s, hM2, s_s]
  obtain ⟨M7, e1, e2, e3⟩ := cFill (t := 6 + s) (u := d) (z_T_cg hQ.1 (f6 _ (by omega)) (fun t ht => f6 _ (by omega))) (by omega) (by omega) (by omega)
  rw [show 1 + 9 + 3 * (6 + s) + 1 = 1 + 27 + 3 * s + 1 by omega] at e1
  have k7 : M7 1 5 = nI (S 3394) := by rw [e3 _ (by omega) (by omega), f6 _ (by omega)]; exact c5
  obtain ⟨M8, hM8⟩ : ∃ M8, M8 = z_st M7 1 5 (nI (S 3394 + 1)) := ⟨_, rfl⟩
  have fM : ∀ a, a ≠ 1 → a ≠ 1 + 3 + 4 → a ≠ 1 + 27 + 3 * s + 1 + 1 → a ≠ 1 + 27 + 3 * s → M8 a = M a := fun a q1 q2 q3 q4 => by rw [hM8, s_n q1, e3 a q2 (by omega), f6 a q4]
  have r8 : M8 (1 + 27 + 3 * s) = M6 (1 + 27 + 3 * s) := by rw [hM8, s_n (by omega), e3 _ (by omega) (by omega)]
  have eE := fun {k : Nat} (h : (2304 ≤ k ∧ k < 2316) ∨ (2430 ≤ k ∧ k ≠ 3394)) => sn_E (S := S) hd hs hc h
  have eO := fun {e r : Nat} (he : e < 6) (hr : r < 12) => sn_O (S := S) hd hs hc he hr
  have eC := fun {e : Nat} (he : e < 6) => sn_C (S := S) hd hs hc he
  have eN := fun {t : Nat} (ht : t < 12) => sn_N (S := S) hd hs hc ht
  have eX := fun {t : Nat} (ht : t < 12) => sn_X (S := S) hd hs hc ht
  have eW := fun {t : Nat} (ht : t < 12) => sn_W (S := S) hd hs hc ht
  have eT := fun {k : Nat} (hk : k < 2304) => sn_T (S := S) hd hs hc hk
  have e9 := sn_9 (S := S) hd hs hc
  obtain ⟨rk, hsl, hrk, _⟩ := z_rk2 hR.2.2.1 hI.1
  have hsl8 : y_sl 1 M8 (updN (z_ex S) s 1) (updN (fun t => S (2418 + t)) s d) (updN rk s c) := fun t ht => by
    by_cases q : t = s
    · subst q
      rw [upN_s, upN_s, upN_s, r8, r6, u_s, u_n (by decide), u_n (by decide), u_n (by decide), u_s, u_n (by decide), u_n (by decide), u_n (by decide), u_n (by decide), u_s]
      exact ⟨rfl, Nat.le_refl _, fun _ => ⟨rfl, hd, rfl, by omega⟩⟩
    · rw [upN_n q, upN_n q, upN_n q, fM _ (by omega) (by omega) (by omega) (by omega)]
      exact hsl t ht
  have hsn : R_sn 1 M8 (snS S d s c) := R_sn_of hsl8 (fun t ht => by
      rw [eN ht]
      by_cases q : t = s
      · rw [if_pos q, q, upN_s]
        exact ⟨fun x => by omega, fun x => absurd x (by decide)⟩
      · rw [if_neg q, upN_n q]
        by_cases y : S (2394 + t) = 0
        · rw [ex_0 y, y]
        · rw [ex_1 y]
          exact ⟨fun x => absurd x y, fun x => absurd x (by decide)⟩) (fun t ht q => by
      rw [eN ht, eX ht, eW ht]
      by_cases y : t = s
      · subst y
        rw [if_pos rfl, if_pos rfl, if_pos rfl, upN_s, upN_s, r8, r6, u_n (by decide), u_n (by decide), u_s, u_n (by decide), u_s, eC hd, if_pos rfl, eO hd (by omega), if_pos ⟨rfl, rfl⟩]
        exact ⟨rfl, rfl, rfl, by omega, rfl⟩
      · rw [upN_n y] at q
        have q1 : S (2394 + t) ≠ 0 := fun x => q (ex_0 x)
        obtain ⟨l1, l2, l3, _⟩ := (hR.2.2.1 t ht).2 q1
        obtain ⟨k1, k2⟩ := hrk t ht q1
        have l4 := (I_liv hI t ht q1).2.1
        have l5 := (I_ord hI _ l4).1
        rw [if_neg y, if_neg y, if_neg y, upN_n y, upN_n y, fM _ (by omega) (by omega) (by omega) (by omega)]
        refine ⟨l1, l3, rfl, ?_⟩
        show rk t < snS S d s c (2388 + S (2418 + t)) ∧ z_ord (snS S d s c) (S (2418 + t)) (rk t) = t
        rw [eC l4, eO l4 (by omega), if_neg (show ¬ (S (2418 + t) = d ∧ rk t = c) from fun x => by
          have x2 := x.2
          rw [x.1] at k1
          omega)]
        refine ⟨?_, k2⟩
        by_cases z : S (2418 + t) = d
        · rw [if_pos z]
          rw [z] at k1
          omega
        · rw [if_neg z]
          exact k1)
  refine ⟨M8, ?_, y_Q_gen hQ (z_T_cg (z_T_T e2 (fun k hk => ?_)) (by rw [hM8, s_n (by omega)]) (fun t ht => by rw [hM8, s_n (by omega)])) (fun e he => ?_) hsn ?_ (fun k k1 k2 => eE (by omega)) (fun a k1 k2 => fM a (by omega) (by omega) (by omega) (by omega)) (fun a k1 k2 => fM a (by omega) (by omega) (by omega) (by omega)), fun a ha => fM a (by omega) (by omega) (by omega) (by omega)⟩
  · unfold fX5_take
    simp (disch := first | omega | assumption) only [l_0, l_1, l_2, l_3, l_4, l_5, l_6, l_7, l_8, l_11, l_12, l_15, l_16, l_31, l_32, l_66, l_80, l_100, l_127, l_128, l_768, l_2304, l_2310, l_2316, l_2388, l_2394, l_2406, l_2418, l_2430, l_2558, l_2686, l_2814, l_2942, l_3070, l_3390, l_3394, l_3395, l_3396, l_3397, n_leT, n_leF, n_ltT, n_ltF, n_eqT, n_eqF, nI_add, pk_mul, n_sub, z_ldn, z_san, z_bs, z_b2s, z_b3s, z_ocN, z_ocS, z_oxL, z_oxR, z_scL, z_scR, ↓reduceIte, Nat.zero_add, Nat.add_zero, Nat.zero_lt_succ, true_and, and_true, eq_self, hso, ← hM2, ← hM3, k3, ← hM4, k4, ← hM5, z_pz1, ← hM6, e1, k7, ← hM8]
  · rw [eT hk]
    unfold z_fillT
    rw [show 128 * (6 + s) = 768 + 128 * s by omega]
  · have ho : z_onum (snS S d s c) e = z_onum S e := by
      have q1 := (I_ori hI e he).1
      unfold z_onum
      rw [eE (by omega)]
      by_cases q : S (2310 + e) = 0
      · rw [if_pos q, if_pos q]
      · rw [if_neg q, if_neg q, eN (by omega), if_neg]
        intro x
        have := ((I_ori hI e he).2 q).1
        rw [x] at this
        exact this h0
    rw [fM _ (by omega) (by omega) (by omega) (by omega), ho, eE (by omega)]
    exact hR.2.1 e he
  · have e : M8 1 = upd (M 1) 5 (nI (S 3394 + 1)) := by rw [hM8, s_s, e3 _ (by omega) (by omega), f6 _ (by omega)]
    refine ⟨?_, ?_, ?_⟩
    · rw [e, u_n (by decide), eE (by omega)]
      exact c4
    · rw [e, u_s, e9]
    · rw [e, u_n (by decide), eE (by omega)]
      exact hR.2.2.2.2.2.2.2
/-! ===== how it begins; all calls ===== -/
def S_0 : Nat → Nat := fun k => if k = 2304 then 1 else if k = 3395 then 1 else 0
theorem S0_z {k : Nat} (h1 : k ≠ 2304) (h2 : k ≠ 3395) : S_0 k = 0 := by
  unfold S_0
  rw [if_neg h1, if_neg h2]
theorem S0_a : S_0 2304 = 1 := if_pos rfl
theorem S0_b : S_0 3395 = 1 := by
  unfold S_0
  rw [if_neg (by decide), if_pos rfl]
theorem Is_0 : z_Is 0 S_0 := by
  refine ⟨fun d hd => ?_, ⟨0, by decide, S0_a⟩, fun d hd _ => ⟨S0_z (by omega) (by omega), S0_z (by omega) (by omega)⟩, fun s hs q => absurd (S0_z (by omega) (by omega)) q, fun s t hs ht q => absurd (S0_z (by omega) (by omega)) q, fun d hd => ⟨by rw [S0_z (by omega) (by omega)]; decide, fun r hr => ?_⟩, fun d hd r q hr hq => ?_, fun d hd => ⟨by rw [S0_z (by omega) (by omega)]; decide, fun q => absurd (S0_z (by omega) (by omega)) q⟩, fun r hr => by rw [S0_z (by omega) (by omega)]; decide, by rw [S0_z (by decide) (by decide)]; decide, by rw [S0_b]; decide, by rw [S0_z (by decide) (by decide)]; decide, fun s hs => by rw [S0_z (by omega) (by omega)]; decide⟩
  · by_cases q : d = 0
    · rw [q, S0_a]
      decide
    · rw [S0_z (by omega) (by omega)]
      decide
  · rw [S0_z (by omega) (by omega)] at hr
    omega
  · rw [S0_z (by omega) (by omega)] at hq
    omega
theorem I_0 : z_I 0 S_0 := by
  refine ⟨Is_0, fun k hk => by rw [S0_z (by omega) (by omega)]; decide, fun d hd _ p hp => S0_z (by omega) (by omega), fun s hs _ p hp => S0_z (by omega) (by omega), fun b hb => ?_, fun b hb => ⟨by rw [S0_z (by omega) (by omega)]; decide, fun q => absurd (S0_z (by omega) (by omega)) q⟩, fun b hb => by rw [S0_z (by omega) (by omega)]; decide⟩
  rw [S0_z (by omega) (by omega)]
  refine (sumN_0 (fun i hi => ?_)).symm
  show (if S_0 i = b + 1 then 1 else 0) = 0
  rw [if_neg (by rw [S0_z (by omega) (by omega)]; omega)]
theorem Bf_0 : z_Bf S_0 S_0 := fun b hb => by
  rw [S0_z (by omega) (by omega), if_neg (by rw [S0_z (by omega) (by omega)]; exact fun x => x rfl)]
theorem M0_at {k c : Nat} (h : z_ik k = c) : z_M0 k = z_iv c := z_M0c h
theorem R1_0 {V : Nat} (hV : z_ik V = 5) (ht : ∀ t, t < 18 → z_ik (V + 9 + 3 * t + 1 + 1) = 1) (hd0 : z_ik (V + 9) = 3) (hd : ∀ d, d < 6 → d ≠ 0 → z_ik (V + 9 + 3 * d) = 2) (hs : ∀ s, s < 12 → z_ik (V + 27 + 3 * s) = 4) (hp : ∀ q, q < 5 → q ≠ 0 → z_ik (V + 3 + q) = 0) (hl : ∀ r, r < 4 → z_ik (V + 63 + 5 * r) = 7 + r) : z_R1 V z_M0 (fun _ => 0) S_0 := by
  refine ⟨fun t ht9 p hp9 => ?_, fun d hd9 => ?_, fun s hs9 => ?_, fun b hb => ⟨?_, ?_, ?_, ?_⟩, fun r hr => ?_, ?_⟩
  · rw [M0_at (ht t ht9), S0_z (by omega) (by omega)]
    show (-1 : Int32) = nI 0 - nI 1
    decide
  · have ho : z_onum S_0 d = 0 := if_pos (S0_z (by omega) (by omega))
    rw [ho]
    by_cases q : d = 0
    · subst q
      rw [show V + 9 + 3 * 0 = V + 9 from rfl, M0_at hd0, show S_0 (2304 + 0) = 1 from S0_a]
      exact ⟨rfl, by show (-1 : Int32) = nI 0 - nI 1; decide⟩
    · rw [M0_at (hd d hd9 q), S0_z (by omega) (by omega)]
      exact ⟨rfl, by show (-1 : Int32) = nI 0 - nI 1; decide⟩
  · have h0 : S_0 (2394 + s) = 0 := S0_z (by omega) (by omega)
    rw [M0_at (hs s hs9), if_pos h0]
    exact ⟨rfl, fun q => absurd h0 q⟩
  · have : z_sta S_0 b = 0 := by
      unfold z_sta
      rw [S0_z (by omega) (by omega), if_neg (fun x => x rfl), S0_z (by omega) (by omega), if_neg (fun x => x rfl)]
    rw [M0_at (hp 1 (by decide) (by decide)), this]
    rfl
  · rw [M0_at (hp 2 (by decide) (by decide))]
    rfl
  · rw [M0_at (hp 3 (by decide) (by decide)), S0_z (by omega) (by omega)]
    rfl
  · rw [M0_at (hp 4 (by decide) (by decide)), S0_z (by omega) (by omega)]
    rfl
  · have h0 : S_0 (3390 + r) = 0 := S0_z (by omega) (by omega)
    rw [M0_at (hl r hr), h0]
    have : r = 0 ∨ r = 1 ∨ r = 2 ∨ r = 3 := by omega
    rcases this with y | y | y | y <;> subst y
    · exact ⟨rfl, rfl, fun j hj => absurd hj (Nat.not_lt_zero j)⟩
    · exact ⟨rfl, rfl, fun j hj => absurd hj (Nat.not_lt_zero j)⟩
    · exact ⟨rfl, rfl, fun j hj => absurd hj (Nat.not_lt_zero j)⟩
    · exact ⟨rfl, rfl, fun j hj => absurd hj (Nat.not_lt_zero j)⟩
  · unfold R_sc
    rw [M0_at hV, S0_b, S0_z (by decide) (by decide), S0_z (by decide) (by decide)]
    exact ⟨rfl, rfl, rfl⟩
