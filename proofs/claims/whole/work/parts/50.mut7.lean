/-! ===== rollback ===== -/
theorem y_sl_cg {V : Nat} {M M' : zM} {ex ow rk : Nat → Nat} (h : y_sl V M ex ow rk) (hc : ∀ t, t < 12 → M' (V + 27 + 3 * t) = M (V + 27 + 3 * t)) : y_sl V M' ex ow rk := fun t ht => by
  rw [hc t ht]
  exact h t ht
/-- the snapshots of d behind place p, up to place p + j -/
abbrev z_bh (S rk : Nat → Nat) (d p j t : Nat) : Prop := S (2394 + t) ≠ 0 ∧ S (2418 + t) = d ∧ p < rk t ∧ rk t ≤ p + j
def z_ex (S : Nat → Nat) (t : Nat) : Nat := if S (2394 + t) = 0 then 0 else 1
theorem ex_0 {S : Nat → Nat} {t : Nat} (h : S (2394 + t) = 0) : z_ex S t = 0 := if_pos h
theorem ex_1 {S : Nat → Nat} {t : Nat} (h : S (2394 + t) ≠ 0) : z_ex S t = 1 := if_neg h
theorem cIsB {M : zM} {S rk ex' rk' : Nat → Nat} {d p : Nat} {s i : Nat} (hs : s < 12) (hi : i < 12) (h1 : S (2394 + s) ≠ 0) (hsd : S (2418 + s) = d) (hsp : rk s = p) (hk : ∀ t, t < 12 → rk t ≤ p + 12) (h : y_sl 1 M ex' (fun t => S (2418 + t)) rk') (e1 : ex' s ≠ 0) (e2 : ex' i = z_ex S i) (e3 : rk' s = p) (e4 : z_bh S rk d p 12 i → p < rk' i) (e5 : ¬ z_bh S rk d p 12 i → rk' i = rk i) : fX5_isBehind 1 (1 + 27 + 3 * i) (1 + 27 + 3 * s) M = some (nI (if z_bh S rk d p 12 i then 1 else 0)) := by
  have c := cIs h hs hi e1
  rw [c]
  by_cases q : z_bh S rk d p 12 i
  · rw [if_pos q, if_pos ⟨by rw [e2, ex_1 q.1]; decide, by show S (2418 + i) = S (2418 + s); rw [q.2.1, hsd], by rw [e3]; exact e4 q⟩]
  · rw [if_neg q, if_neg]
    intro x
    obtain ⟨x1, x2, x3⟩ := x
    rw [e3, e5 q] at x3
    refine q ⟨fun x4 => x1 (by rw [e2, ex_0 x4]), by show S (2418 + i) = d; rw [← hsd]; exact x2, x3, hk i hi⟩
/-- the class: all that lies behind is dropped -/
theorem cDb {M : zM} {S rk T0 : Nat → Nat} {d p s : Nat} (hT : z_T 1 M T0) (hsl : y_sl 1 M (z_ex S) (fun t => S (2418 + t)) rk) (hs : s < 12) (h1 : S (2394 + s) ≠ 0) (hsd : S (2418 + s) = d) (hsp : rk s = p) (hk : ∀ t, t < 12 → rk t ≤ p + 12) : ∃ M', fX5_dropBehind 1 (1 + 27 + 3 * s) M = some (nI (sumN (fun t => if z_bh S rk d p 12 t then 1 else 0) 12), M') ∧ (∃ ex' rk', y_sl 1 M' ex' (fun t => S (2418 + t)) rk' ∧ ∀ t, t < 12 → ex' t = (if z_bh S rk d p 12 t then 0 else z_ex S t) ∧ (¬ z_bh S rk d p 12 t → rk' t = rk t)) ∧ (∃ T, z_T 1 M' T ∧ (∀ k, k < 768 → T k = T0 k) ∧ ∀ t x, t < 12 → x < 128 → T (768 + 128 * t + x) = if z_bh S rk d p 12 t then 0 else T0 (768 + 128 * t + x)) ∧ (∀ t j, t < 12 → j ≠ 1 → j ≠ 4 → M' (1 + 27 + 3 * t) j = M (1 + 27 + 3 * t) j) ∧ ∀ a, a ≠ 1 + 3 + 4 → (∀ u, u < 18 → a ≠ 1 + 9 + 3 * u + 1 + 1) → (∀ t, t < 12 → a ≠ 1 + 27 + 3 * t) → M' a = M a := by
  have hns : ¬ z_bh S rk d p 12 s := fun c => by
    have := c.2.2.1
    omega
  unfold fX5_dropBehind
  obtain ⟨r, e0, e1, e2, e3, e4, e5⟩ := z_loopA (f := fun x : Int32 × Int32 × zM => fX5_dropBehind_L1 1 (1 + 27 + 3 * s) x.1 x.2.1 x.2.2) (fun i x M' => x = nI (sumN (fun t => if z_bh S rk d p 12 t then 1 else 0) i) ∧ (∃ ex' rk', y_sl 1 M' ex' (fun t => S (2418 + t)) rk' ∧ ∀ t, t < 12 → ex' t = (if t < i ∧ z_bh S rk d p 12 t then 0 else z_ex S t) ∧ (¬ z_bh S rk d p 12 t → rk' t = rk t) ∧ (z_bh S rk d p 12 t → p < rk' t)) ∧ (∃ T, z_T 1 M' T ∧ (∀ k, k < 768 → T k = T0 k) ∧ ∀ t x, t < 12 → x < 128 → T (768 + 128 * t + x) = if t < i ∧ z_bh S rk d p 12 t then 0 else T0 (768 + 128 * t + x)) ∧ (∀ t j, t < 12 → j ≠ 1 → j ≠ 4 → M' (1 + 27 + 3 * t) j = M (1 + 27 + 3 * t) j) ∧ ∀ a, a ≠ 1 + 3 + 4 → (∀ u, u < 18 → a ≠ 1 + 9 + 3 * u + 1 + 1) → (∀ t, t < 12 → a ≠ 1 + 27 + 3 * t) → M' a = M a) (fun r => r.1 = nI (sumN (fun t => if z_bh S rk d p 12 t then 1 else 0) 12) ∧ (∃ ex' rk', y_sl 1 r.2 ex' (fun t => S (2418 + t)) rk' ∧ ∀ t, t < 12 → ex' t = (if z_bh S rk d p 12 t then 0 else z_ex S t) ∧ (¬ z_bh S rk d p 12 t → rk' t = rk t)) ∧ (∃ T, z_T 1 r.2 T ∧ (∀ k, k < 768 → T k = T0 k) ∧ ∀ t x, t < 12 → x < 128 → T (768 + 128 * t + x) = if z_bh S rk d p 12 t then 0 else T0 (768 + 128 * t + x)) ∧ (∀ t j, t < 12 → j ≠ 1 → j ≠ 4 → r.2 (1 + 27 + 3 * t) j = M (1 + 27 + 3 * t) j) ∧ ∀ a, a ≠ 1 + 3 + 4 → (∀ u, u < 18 → a ≠ 1 + 9 + 3 * u + 1 + 1) → (∀ t, t < 12 → a ≠ 1 + 27 + 3 * t) → r.2 a = M a) 0 12 (by decide) (x := 0) (s := 0) (M := M) rfl ⟨rfl, ⟨_, rk, hsl, fun t ht => ⟨by rw [if_neg (fun c => absurd c.1 (Nat.not_lt_zero t))], fun _ => rfl, fun c => c.2.2.1⟩⟩, ⟨T0, hT, fun _ _ => rfl, fun t x ht hx => by rw [if_neg (fun c => absurd c.1 (Nat.not_lt_zero t))]⟩, fun _ _ _ _ _ => rfl, fun _ _ _ _ => rfl⟩ (fun i x M' hi hI9 => by
    obtain ⟨b1, ⟨ex', rk', b2, b3⟩, ⟨T, b4, b5, b6⟩, b7, b8⟩ := hI9
    subst b1
    have ei := b3 i hi
    have es := b3 s hs
    rw [if_neg (fun c => absurd c.1 (Nat.lt_irrefl i))] at ei
    have es1 : ex' s ≠ 0 := by
      rw [es.1, if_neg (fun c => hns c.2), ex_1 h1]
      decide
    have c1 := cIsB hs hi h1 hsd hsp hk b2 es1 ei.1 (by rw [es.2.1 hns, hsp]) ei.2.2 ei.2.1
    have eq12 := z_lq12 (V := 1) hi
    by_cases q : z_bh S rk d p 12 i
    · rw [if_pos q] at c1
      have exi : ex' i ≠ 0 := by
        rw [ei.1, ex_1 q.1]
        decide
      obtain ⟨M3, f1, f2, f3, f4, f5⟩ := cDrop b4 b2 hi exi
      refine ⟨nI (sumN (fun t => if z_bh S rk d p 12 t then 1 else 0) i + 1), M3, ?_, ?_, ⟨_, _, f2, fun t ht => ?_⟩, ⟨_, f3, fun k hk => ?_, fun t x ht hx => ?_⟩, fun t j ht hj1 hj4 => by rw [f4 t j ht hj1 hj4, b7 t j ht hj1 hj4], fun a a1 a2 a3 => by rw [f5 a a1 (a2 _ (by omega)) a3, b8 a a1 a2 a3]⟩
      · simp (disch := first | omega | assumption) only [l_0, l_1, l_2, l_3, l_4, l_5, l_6, l_7, l_8, l_11, l_12, l_15, l_16, l_31, l_32, l_66, l_80, l_100, l_127, l_128, l_768, l_2304, l_2310, l_2316, l_2388, l_2394, l_2406, l_2418, l_2430, l_2558, l_2686, l_2814, l_2942, l_3070, l_3390, l_3394, l_3395, l_3396, l_3397, n_leT, n_leF, n_ltT, n_ltF, n_eqT, n_eqF, nI_add, pk_mul, n_sub, z_ldn, z_san, z_bs, z_b2s, z_b3s, z_ocN, z_ocS, z_oxL, z_oxR, z_scL, z_scR, ↓reduceIte, st_170, st_171, st_172, st_173, Nat.zero_add, Nat.add_zero, Nat.zero_lt_succ, true_and, and_true, eq_self, fX5_dropBehind_L1, eq12, c1, f1]
      · show nI (sumN _ i + 1) = nI (sumN _ i + if z_bh S rk d p 12 i then 1 else 0)
        rw [if_pos q]
      · obtain ⟨t1, t2, t3⟩ := b3 t ht
        refine ⟨?_, fun c => ?_, fun c => ?_⟩
        · unfold updN
          by_cases c : t = i
          · rw [if_pos c, c, if_pos ⟨Nat.lt_succ_self i, q⟩]
          · rw [if_neg c, t1]
            by_cases c2 : t < i ∧ z_bh S rk d p 12 t
            · rw [if_pos c2, if_pos ⟨by omega, c2.2⟩]
            · rw [if_neg c2, if_neg (fun x => c2 ⟨by omega, x.2⟩)]
        · show (if ex' t ≠ 0 ∧ S (2418 + t) = S (2418 + i) ∧ rk' i < rk' t then rk' t - 1 else rk' t) = rk t
          rw [if_neg, t2 c]
          intro x
          obtain ⟨x1, x2, x3⟩ := x
          rw [t2 c] at x3
          have hpi := ei.2.2 q
          refine c ⟨fun y => x1 ?_, by rw [x2]; exact q.2.1, by omega, hk t ht⟩
          rw [t1, if_neg (fun z => c z.2), ex_0 y]
        · show p < (if ex' t ≠ 0 ∧ S (2418 + t) = S (2418 + i) ∧ rk' i < rk' t then rk' t - 1 else rk' t)
          have hpi := ei.2.2 q
          have hpt := t3 c
          by_cases x : ex' t ≠ 0 ∧ S (2418 + t) = S (2418 + i) ∧ rk' i < rk' t
          · rw [if_pos x]
            omega
          · rw [if_neg x]
            exact hpt
      · unfold z_clrT
        rw [if_neg (by omega)]
        exact b5 k hk
      · unfold z_clrT
        by_cases c : t = i
        · rw [c, if_pos (by omega), if_pos ⟨Nat.lt_succ_self i, q⟩]
        · rw [if_neg (by omega), b6 t x ht hx]
          by_cases c2 : t < i ∧ z_bh S rk d p 12 t
          · rw [if_pos c2, if_pos ⟨by omega, c2.2⟩]
          · rw [if_neg c2, if_neg (fun x => c2 ⟨by omega, x.2⟩)]
    · rw [if_neg q] at c1
      have hit : ∀ t, (t < i + 1 ∧ z_bh S rk d p 12 t) ↔ (t < i ∧ z_bh S rk d p 12 t) := fun t => ⟨fun c => ⟨by
        have : t ≠ i := fun e => q (e ▸ c.2)
        have := c.1
        omega, c.2⟩, fun c => ⟨by have := c.1; omega, c.2⟩⟩
      refine ⟨nI (sumN (fun t => if z_bh S rk d p 12 t then 1 else 0) i), M', ?_, ?_, ⟨ex', rk', b2, fun t ht => ?_⟩, ⟨T, b4, b5, fun t x ht hx => ?_⟩, b7, b8⟩
      · simp (disch := first | omega | assumption) only [l_0, l_1, l_2, l_3, l_4, l_5, l_6, l_7, l_8, l_11, l_12, l_15, l_16, l_31, l_32, l_66, l_80, l_100, l_127, l_128, l_768, l_2304, l_2310, l_2316, l_2388, l_2394, l_2406, l_2418, l_2430, l_2558, l_2686, l_2814, l_2942, l_3070, l_3390, l_3394, l_3395, l_3396, l_3397, n_leT, n_leF, n_ltT, n_ltF, n_eqT, n_eqF, nI_add, pk_mul, n_sub, z_ldn, z_san, z_bs, z_b2s, z_b3s, z_ocN, z_ocS, z_oxL, z_oxR, z_scL, z_scR, ↓reduceIte, st_170, st_171, st_172, st_173, Nat.zero_add, Nat.add_zero, Nat.zero_lt_succ, true_and, and_true, eq_self, fX5_dropBehind_L1, eq12, c1]
      · show nI (sumN _ i) = nI (sumN _ i + if z_bh S rk d p 12 i then 1 else 0)
        rw [if_neg q]
        rfl
      · obtain ⟨t1, t2, t3⟩ := b3 t ht
        refine ⟨?_, t2, t3⟩
        rw [t1]
        by_cases c2 : t < i ∧ z_bh S rk d p 12 t
        · rw [if_pos c2, if_pos ((hit t).mpr c2)]
        · rw [if_neg c2, if_neg (fun c => c2 ((hit t).mp c))]
      · rw [b6 t x ht hx]
        by_cases c2 : t < i ∧ z_bh S rk d p 12 t
        · rw [if_pos c2, if_pos ((hit t).mpr c2)]
        · rw [if_neg c2, if_neg (fun c => c2 ((hit t).mp c))]) (fun x M' hI9 => by
    obtain ⟨b1, ⟨ex', rk', b2, b3⟩, ⟨T, b4, b5, b6⟩, b7, b8⟩ := hI9
    refine ⟨(x, M'), by simp (disch := first | omega | assumption) only [l_0, l_1, l_2, l_3, l_4, l_5, l_6, l_7, l_8, l_11, l_12, l_15, l_16, l_31, l_32, l_66, l_80, l_100, l_127, l_128, l_768, l_2304, l_2310, l_2316, l_2388, l_2394, l_2406, l_2418, l_2430, l_2558, l_2686, l_2814, l_2942, l_3070, l_3390, l_3394, l_3395, l_3396, l_3397, n_leT, n_leF, n_ltT, n_ltF, n_eqT, n_eqF, nI_add, pk_mul, n_sub, z_ldn, z_san, z_bs, z_b2s, z_b3s, z_ocN, z_ocS, z_oxL, z_oxR, z_scL, z_scR, ↓reduceIte, st_170, st_171, st_172, st_173, Nat.zero_add, Nat.add_zero, Nat.zero_lt_succ, true_and, and_true, eq_self, fX5_dropBehind_L1], b1, ⟨ex', rk', b2, fun t ht => ?_⟩, ⟨T, b4, b5, fun t x ht hx => ?_⟩, b7, b8⟩
    · obtain ⟨t1, t2, t3⟩ := b3 t ht
      refine ⟨?_, t2⟩
      rw [t1]
      by_cases c2 : z_bh S rk d p 12 t
      · rw [if_pos c2, if_pos ⟨ht, c2⟩]
      · rw [if_neg c2, if_neg (fun c => c2 c.2)]
    · rw [b6 t x ht hx]
      by_cases c2 : z_bh S rk d p 12 t
      · rw [if_pos c2, if_pos ⟨ht, c2⟩]
      · rw [if_neg c2, if_neg (fun c => c2 c.2)])
  obtain ⟨r1, r2⟩ := r
  have e1 : r1 = _ := e1
  subst e1
  exact ⟨r2, by rw [e0]; rfl, e2, e3, e4, e5⟩
/-- what the drops leave, j of them done -/
def z_dj (n : Nat) (S rk : Nat → Nat) (d p c j : Nat) (T : Nat → Nat) : Prop := z_Is n T ∧ T (2388 + d) = c - j ∧ (∀ r, r ≤ p → z_ord T d r = z_ord S d r) ∧ (∀ r, p < r → r < c - j → z_ord T d r = z_ord S d (r + j)) ∧ (∀ t, t < 12 → T (2394 + t) = if z_bh S rk d p j t then 0 else S (2394 + t)) ∧ (∀ d2 r, d2 < 6 → d2 ≠ d → r < 12 → z_ord T d2 r = z_ord S d2 r) ∧ (∀ d2, d2 < 6 → d2 ≠ d → T (2388 + d2) = S (2388 + d2)) ∧ (∀ k, 2304 ≤ k → k < 2316 → T k = S k) ∧ (∀ k, 2406 ≤ k → T k = S k) ∧ (∀ k, k < 768 → T k = S k) ∧ ∀ t x, t < 12 → x < 128 → T (768 + 128 * t + x) = if z_bh S rk d p j t then 0 else S (768 + 128 * t + x)
def djS (S : Nat → Nat) (d p : Nat) : Nat → Nat → Nat
  | 0 => S
  | j + 1 => dropS (djS S d p j) d (p + 1) (z_ord S d (p + 1 + j))
theorem mDb {n : Nat} {Mm : zM} {S rk : Nat → Nat} {d p c : Nat} (hI : z_I n S) (hN : z_N (Mm 170) S) (hd : d < 6) (hcc : c = S (2388 + d)) (hp : p < c) (hrk : ∀ t, t < 12 → S (2394 + t) ≠ 0 → rk t < S (2388 + S (2418 + t)) ∧ z_ord S (S (2418 + t)) (rk t) = t) (hno : ∀ j, 1 ≤ j → j ≤ c - 1 - p → orN S (z_ord S d (p + j)) 6 = 0) : ∃ M', z_loop (fun x : Int32 × zM => fX7_rollback_L2 169 (nI d) (nI p) (nI c) x.1 x.2) z_FU (nI 0, Mm) = some M' ∧ z_N (M' 170) (djS S d p (c - 1 - p)) ∧ z_dj n S rk d p c (c - 1 - p) (djS S d p (c - 1 - p)) ∧ (∀ k, 2406 ≤ k → M' 170 k = Mm 170 k) ∧ ∀ a, a ≠ 170 → M' a = Mm a := by
  have hc12 : c ≤ 12 := by rw [hcc]; exact (I_ord hI d hd).1
  have hord := (I_ord hI d hd).2
  -- the place of a snapshot of d is its rank
  have hpl : ∀ r, r < c → rk (z_ord S d r) = r := fun r hr => by
    obtain ⟨k1, k2, k3⟩ := hord r (by omega)
    obtain ⟨k4, k5⟩ := hrk _ k1 k2
    rw [k3] at k4 k5
    exact I_inj2 hI hd k4 (by omega) k5
  obtain ⟨M', e1, ⟨e2, e3⟩, e4, e5⟩ := z_loopM (f := fun x : Int32 × zM => fX7_rollback_L2 169 (nI d) (nI p) (nI c) x.1 x.2) (fun j M' => (z_N (M' 170) (djS S d p j) ∧ z_dj n S rk d p c j (djS S d p j)) ∧ (∀ k, 2406 ≤ k → M' 170 k = Mm 170 k) ∧ ∀ a, a ≠ 170 → M' a = Mm a) (fun M' => (z_N (M' 170) (djS S d p (c - 1 - p)) ∧ z_dj n S rk d p c (c - 1 - p) (djS S d p (c - 1 - p))) ∧ (∀ k, 2406 ≤ k → M' 170 k = Mm 170 k) ∧ ∀ a, a ≠ 170 → M' a = Mm a) 0 (c - 1 - p) (by omega) (s := nI 0) (M := Mm) rfl ⟨⟨hN, hI.1, hcc.symm, fun _ _ => rfl, fun _ _ _ => rfl, fun t ht => by rw [if_neg (fun x => absurd x.2.2.1 (by have := x.2.2.2; omega))]; rfl, fun _ _ _ _ _ => rfl, fun _ _ _ => rfl, fun _ _ _ => rfl, fun _ _ => rfl, fun _ _ => rfl, fun t x ht hx => by rw [if_neg (fun x => absurd x.2.2.1 (by have := x.2.2.2; omega))]; rfl⟩, fun _ _ => rfl, fun _ _ => rfl⟩ (fun j M' hj hI9 => by
    obtain ⟨⟨b1, t1, t2, t3, t4, t5, t6, t7, t8, t9, t10, t11⟩, b2, b3⟩ := hI9
    obtain ⟨T, hTT⟩ : ∃ T, T = djS S d p j := ⟨_, rfl⟩
    rw [← hTT] at b1 t1 t2 t5
    simp only [← hTT] at t3 t4 t5 t6 t7 t8 t9 t10 t11
    obtain ⟨u, huu⟩ : ∃ u, u = z_ord S d (p + 1 + j) := ⟨_, rfl⟩
    obtain ⟨k1, k2, k3⟩ := hord (p + 1 + j) (by omega)
    have kr := hpl (p + 1 + j) (by omega)
    rw [← huu] at k1 k2 k3 kr
    have hu1 : z_ord T d (p + 1) = u := by rw [t4 (p + 1) (by omega) (by omega), huu]
    have hub : ¬ z_bh S rk d p j u := fun x => by
      have := x.2.2.2
      omega
    have hTu : T (2394 + u) ≠ 0 := by rw [t5 u k1, if_neg hub]; exact k2
    have hTo : T (2418 + u) = d := by rw [t9 _ (by omega)]; exact k3
    have hno1 := orN_0.mp (hno (1 + j) (by omega) (by omega))
    rw [show p + (1 + j) = p + 1 + j by omega, ← huu] at hno1
    obtain ⟨M2, v1, v2, v3, v4⟩ := mDr b1 k1 hTo hd (by rw [t2]; omega) (by rw [t2]; omega) hu1 (fun r hr => by
      rw [t3 r (by omega), huu]
      exact ⟨fun x => by
        have := I_inj2 hI hd (r := r) (q := p + 1 + j) (by omega) (by omega) x
        omega, (hord r (by omega)).1⟩)
    have hIs2 := z_Is_drop t1 k1 hTu hTo (by rw [t2]; omega) hu1 (fun d2 hd2 => by rw [t8 _ (by omega) (by omega)]; exact hno1 d2 hd2)
    have hcT : T (2388 + d) ≤ 12 := by rw [t2]; omega
    have hbj : ∀ t, t < 12 → t ≠ u → (z_bh S rk d p (j + 1) t ↔ z_bh S rk d p j t) := fun t ht htu => ⟨fun x => ⟨x.1, x.2.1, x.2.2.1, by
      have x4 := x.2.2.2
      have : rk t ≠ p + 1 + j := fun y => htu (by
        have z := (hrk t ht x.1).2
        rw [x.2.1, y] at z
        rw [huu, z])
      omega⟩, fun x => ⟨x.1, x.2.1, x.2.2.1, by have := x.2.2.2; omega⟩⟩
    have hbu : z_bh S rk d p (j + 1) u := ⟨k2, k3, by omega, by omega⟩
    rw [show djS S d p (j + 1) = dropS T d (p + 1) u by rw [hTT, huu]; rfl]
    refine ⟨M2, ?_, ⟨v2, hIs2, ?_, fun r hr => ?_, fun r hr hr2 => ?_, fun t ht => ?_, fun d2 r hd2 hne hr => ?_, fun d2 hd2 hne => ?_, fun k k1 k2 => ?_, fun k hk => ?_, fun k hk => ?_, fun t x ht hx => ?_⟩, fun k hk => by rw [v3 k hk, b2 k hk], fun a ha => by rw [v4 a ha, b3 a ha]⟩
    · have c1 : M' (169 + 1) (2316 + 12 * d + p + 1) = nI u := by
        rw [N1 b1 _ (by omega)]
        exact congrArg nI hu1
      simp (disch := first | omega | assumption) only [l_0, l_1, l_2, l_3, l_4, l_5, l_6, l_7, l_8, l_11, l_12, l_15, l_16, l_31, l_32, l_66, l_80, l_100, l_127, l_128, l_768, l_2304, l_2310, l_2316, l_2388, l_2394, l_2406, l_2418, l_2430, l_2558, l_2686, l_2814, l_2942, l_3070, l_3390, l_3394, l_3395, l_3396, l_3397, n_leT, n_leF, n_ltT, n_ltF, n_eqT, n_eqF, nI_add, pk_mul, n_sub, z_ldn, z_san, z_bs, z_b2s, z_b3s, z_ocN, z_ocS, z_oxL, z_oxR, z_scL, z_scR, ↓reduceIte, st_170, st_171, st_172, st_173, Nat.zero_add, Nat.add_zero, Nat.zero_lt_succ, true_and, and_true, eq_self, fX7_rollback_L2, c1, v1]
    · rw [dr_C hd k1 hcT hd, if_pos rfl, t2]
      omega
    · rw [dr_O hd k1 hcT hd (by omega), if_neg (by omega)]
      exact t3 r hr
    · rw [dr_O hd k1 hcT hd (by omega), if_pos ⟨rfl, by omega, by rw [t2]; omega⟩, t4 (r + 1) (by omega) (by omega), show r + 1 + j = r + (j + 1) by omega]
    · rw [dr_N hd k1 hcT ht]
      by_cases x : t = u
      · rw [if_pos x, x, if_pos hbu]
      · rw [if_neg x, t5 t ht]
        by_cases y : z_bh S rk d p j t
        · rw [if_pos y, if_pos ((hbj t ht x).mpr y)]
        · rw [if_neg y, if_neg (fun z => y ((hbj t ht x).mp z))]
    · rw [dr_O hd k1 hcT hd2 hr, if_neg (fun x => hne x.1)]
      exact t6 d2 r hd2 hne hr
    · rw [dr_C hd k1 hcT hd2, if_neg hne]
      exact t7 d2 hd2 hne
    · rw [dr_E (by omega) k1 k2]
      exact t8 k k1 k2
    · rw [dr_R hd k1 hcT hk]
      exact t9 k hk
    · rw [dr_T k1 (by omega), if_neg (by omega)]
      exact t10 k hk
    · rw [dr_T k1 (by omega)]
      by_cases y : t = u
      · rw [y, if_pos (by omega), if_pos hbu]
      · rw [if_neg (by omega), t11 t x ht hx]
        by_cases z : z_bh S rk d p j t
        · rw [if_pos z, if_pos ((hbj t ht y).mpr z)]
        · rw [if_neg z, if_neg (fun w => z ((hbj t ht y).mp w))]) (fun M' hI9 => ⟨M', by simp (disch := first | omega | assumption) only [l_0, l_1, l_2, l_3, l_4, l_5, l_6, l_7, l_8, l_11, l_12, l_15, l_16, l_31, l_32, l_66, l_80, l_100, l_127, l_128, l_768, l_2304, l_2310, l_2316, l_2388, l_2394, l_2406, l_2418, l_2430, l_2558, l_2686, l_2814, l_2942, l_3070, l_3390, l_3394, l_3395, l_3396, l_3397, n_leT, n_leF, n_ltT, n_ltF, n_eqT, n_eqF, nI_add, pk_mul, n_sub, z_ldn, z_san, z_bs, z_b2s, z_b3s, z_ocN, z_ocS, z_oxL, z_oxR, z_scL, z_scR, ↓reduceIte, st_170, st_171, st_172, st_173, Nat.zero_add, Nat.add_zero, Nat.zero_lt_succ, true_and, and_true, eq_self, fX7_rollback_L2], hI9⟩)
  exact ⟨M', e1, e2, e3, e4, e5⟩
/-- is one of the first i behind place p an origin: 3, else 0 -/
def oB (S : Nat → Nat) (d p : Nat) : Nat → Nat
  | 0 => 0
  | i + 1 => if orN S (z_ord S d (p + (1 + i))) 6 = 0 then oB S d p i else 3
theorem oB_3 {S : Nat → Nat} {d p : Nat} : ∀ {i : Nat}, oB S d p i = 0 ∨ oB S d p i = 3
  | 0 => Or.inl rfl
  | i + 1 => by
    unfold oB
    split
    · exact oB_3
    · exact Or.inr rfl
theorem oB_0 {S : Nat → Nat} {d p : Nat} : ∀ {i : Nat}, oB S d p i = 0 ↔ ∀ j, 1 ≤ j → j ≤ i → orN S (z_ord S d (p + j)) 6 = 0
  | 0 => ⟨fun _ j h1 h2 => by omega, fun _ => rfl⟩
  | i + 1 => by
    have ih := oB_0 (S := S) (d := d) (p := p) (i := i)
    unfold oB
    constructor
    · intro h j h1 h2
      by_cases q : orN S (z_ord S d (p + (1 + i))) 6 = 0
      · rw [if_pos q] at h
        by_cases c : j = i + 1
        · rw [c, show i + 1 = 1 + i by omega]
          exact q
        · exact ih.mp h j h1 (by omega)
      · rw [if_neg q] at h
        omega
    · intro h
      have q : orN S (z_ord S d (p + (1 + i))) 6 = 0 := h (1 + i) (by omega) (by omega)
      rw [if_pos q]
      exact ih.mpr (fun j h1 h2 => h j h1 (by omega))
theorem mOb {n : Nat} {M Mm : zM} {S : Nat → Nat} {d p c : Nat} (hI : z_I n S) (hN : z_N (Mm 170) S) (hM : Mm = z_st M 169 4 (nI 0)) (hd : d < 6) (hcc : c = S (2388 + d)) (hp : p < c) : z_loop (fun x : Int32 × zM => fX7_rollback_L1 169 (nI d) (nI p) (nI c) x.1 x.2) z_FU (nI 1, Mm) = some (z_st M 169 4 (nI (oB S d p (c - 1 - p)))) := by
  have hc12 : c ≤ 12 := by rw [hcc]; exact (I_ord hI d hd).1
  have hord := (I_ord hI d hd).2
  obtain ⟨M', e1, e2⟩ := z_loopM (f := fun x : Int32 × zM => fX7_rollback_L1 169 (nI d) (nI p) (nI c) x.1 x.2) (fun j M' => M' = z_st M 169 4 (nI (oB S d p j))) (fun M' => M' = z_st M 169 4 (nI (oB S d p (c - 1 - p)))) 1 (c - 1 - p) (by omega) (s := nI 1) (M := Mm) rfl hM (fun j M' hj hI9 => by
    have h70 : M' 170 = Mm 170 := by rw [hI9, hM]; rfl
    have hN2 := N1 (M := M') (by rw [h70]; exact hN)
    have hu := (hord (p + (1 + j)) (by omega)).1
    have c1 : M' (169 + 1) (2316 + 12 * d + p + (1 + j)) = nI (z_ord S d (p + (1 + j))) := by
      rw [hN2 _ (by omega)]
      unfold z_ord
      congr 2
      omega
    have c2 := mOr hN2 hI.1 hu
    refine ⟨z_st M 169 4 (nI (oB S d p (j + 1))), ?_, rfl⟩
    have c3 := oB_3 (S := S) (d := d) (p := p) (i := j)
    by_cases q : orN S (z_ord S d (p + (1 + j))) 6 = 0
    · have c4 : oB S d p (j + 1) = oB S d p j := if_pos q
      rw [q] at c2
      have c5 : M' 169 4 = nI (oB S d p j) := by rw [hI9, s_s, u_s]
      have c6 : z_st M' 169 4 (nI (oB S d p j)) = z_st M 169 4 (nI (oB S d p j)) := by rw [hI9, z_stst]
      rw [c4]
      simp (disch := first | omega | assumption) only [l_0, l_1, l_2, l_3, l_4, l_5, l_6, l_7, l_8, l_11, l_12, l_15, l_16, l_31, l_32, l_66, l_80, l_100, l_127, l_128, l_768, l_2304, l_2310, l_2316, l_2388, l_2394, l_2406, l_2418, l_2430, l_2558, l_2686, l_2814, l_2942, l_3070, l_3390, l_3394, l_3395, l_3396, l_3397, n_leT, n_leF, n_ltT, n_ltF, n_eqT, n_eqF, nI_add, pk_mul, n_sub, z_ldn, z_san, z_bs, z_b2s, z_b3s, z_ocN, z_ocS, z_oxL, z_oxR, z_scL, z_scR, ↓reduceIte, st_170, st_171, st_172, st_173, Nat.zero_add, Nat.add_zero, Nat.zero_lt_succ, true_and, and_true, eq_self, fX7_rollback_L1, c1, c2, c5, c6]
    · have c4 : oB S d p (j + 1) = 3 := if_neg q
      have c5 := orN_1 (S := S) (s := z_ord S d (p + (1 + j))) (i := 6)
      have c6 : orN S (z_ord S d (p + (1 + j))) 6 = 1 := by omega
      rw [c6] at c2
      have c7 : z_st M' 169 4 (nI 3) = z_st M 169 4 (nI 3) := by rw [hI9, z_stst]
      rw [c4]
      simp (disch := first | omega | assumption) only [l_0, l_1, l_2, l_3, l_4, l_5, l_6, l_7, l_8, l_11, l_12, l_15, l_16, l_31, l_32, l_66, l_80, l_100, l_127, l_128, l_768, l_2304, l_2310, l_2316, l_2388, l_2394, l_2406, l_2418, l_2430, l_2558, l_2686, l_2814, l_2942, l_3070, l_3390, l_3394, l_3395, l_3396, l_3397, n_leT, n_leF, n_ltT, n_ltF, n_eqT, n_eqF, nI_add, pk_mul, n_sub, z_ldn, z_san, z_bs, z_b2s, z_b3s, z_ocN, z_ocS, z_oxL, z_oxR, z_scL, z_scR, ↓reduceIte, st_170, st_171, st_172, st_173, Nat.zero_add, Nat.add_zero, Nat.zero_lt_succ, true_and, and_true, eq_self, fX7_rollback_L1, c1, c2, c7]) (fun M' hI9 => ⟨M', by simp (disch := first | omega | assumption) only [l_0, l_1, l_2, l_3, l_4, l_5, l_6, l_7, l_8, l_11, l_12, l_15, l_16, l_31, l_32, l_66, l_80, l_100, l_127, l_128, l_768, l_2304, l_2310, l_2316, l_2388, l_2394, l_2406, l_2418, l_2430, l_2558, l_2686, l_2814, l_2942, l_3070, l_3390, l_3394, l_3395, l_3396, l_3397, n_leT, n_leF, n_ltT, n_ltF, n_eqT, n_eqF, nI_add, pk_mul, n_sub, z_ldn, z_san, z_bs, z_b2s, z_b3s, z_ocN, z_ocS, z_oxL, z_oxR, z_scL, z_scR, ↓reduceIte, st_170, st_171, st_172, st_173, Nat.zero_add, Nat.add_zero, Nat.zero_lt_succ, true_and, and_true, eq_self, fX7_rollback_L1], hI9⟩)
  rw [e1, e2]
