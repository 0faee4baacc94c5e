/-! ===== promote ===== -/
theorem sumN_add {f g : Nat → Nat} : ∀ {n : Nat}, sumN (fun i => f i + g i) n = sumN f n + sumN g n
  | 0 => rfl
  | n + 1 => by
    have ih := sumN_add (f := f) (g := g) (n := n)
    show sumN (fun i => f i + g i) n + (f n + g n) = sumN f n + f n + (sumN g n + g n)
    omega
theorem own2 {n : Nat} {S : Nat → Nat} (hI : z_I n S) {d o : Nat} (hd : d < 6) (ho : o < 6) (hne : d ≠ o) : S (2388 + d) + S (2388 + o) ≤ 12 := by
  rw [← z_own_cnt hI hd, ← z_own_cnt hI ho, ← sumN_add]
  have := sumN_le (g := fun i => z_own S d i + z_own S o i) (c := 1) (n := 12) (fun i _ => by
    show z_own S d i + z_own S o i ≤ 1
    unfold z_own
    by_cases q : S (2394 + i) ≠ 0 ∧ S (2418 + i) = d
    · rw [if_pos q, if_neg (fun x => hne (by rw [← q.2, x.2]))]
      omega
    · rw [if_neg q]
      split <;> omega)
  omega
def prA (S : Nat → Nat) (d p c : Nat) : Nat → Nat := rngN S (2316 + 12 * d + (p + 1)) c (fun j => S (2316 + 12 * d + j))
def prB (S : Nat → Nat) (d o p c : Nat) : Nat → Nat := rngN (prA S d p c) (2316 + 12 * d) (p + 1) (fun j => S (2316 + 12 * o + j))
abbrev prW' (S rk : Nat → Nat) (o i t : Nat) : Prop := S (2394 + t) ≠ 0 ∧ S (2418 + t) = o ∧ rk t < i
def prC (S rk : Nat → Nat) (d o p c i : Nat) : Nat → Nat := fun k => if 2418 ≤ k ∧ k < 2430 ∧ prW' S rk o i (k - 2418) then d else prB S d o p c k
def prD (S rk : Nat → Nat) (d o p c c2 : Nat) : Nat → Nat := updN (updN (prC S rk d o p c (p + 1)) (2388 + d) (c + (p + 1))) (2388 + o) (c2 - (p + 1))
def prE (S rk : Nat → Nat) (d o p c c2 : Nat) : Nat → Nat := rngN (prD S rk d o p c c2) (2316 + 12 * o) (c2 - (p + 1)) (fun j => S (2316 + 12 * o + j + (p + 1)))
def prS (S rk : Nat → Nat) (d o p s c c2 : Nat) : Nat → Nat := updN (updN (prE S rk d o p c c2) (2310 + d) (S (2310 + o))) (2310 + o) (s + 1)
section
variable {S rk : Nat → Nat} {d o p s c c2 : Nat}
theorem pr_T (hd : d < 6) (ho : o < 6) (hc : c + (p + 1) ≤ 12) (hc2 : c2 ≤ 12) {k : Nat} (hk : k < 2310 ∨ (2394 ≤ k ∧ k < 2418) ∨ 2430 ≤ k) : prS S rk d o p s c c2 k = S k := by
  unfold prS prE prD prC prB prA
  rw [upN_n (by omega), upN_n (by omega), rng_out (by omega), upN_n (by omega), upN_n (by omega), if_neg (by omega), rng_out (by omega), rng_out (by omega)]
theorem pr_O (hd : d < 6) (ho : o < 6) (hc : c + (p + 1) ≤ 12) (hc2 : c2 ≤ 12) {e : Nat} (he : e < 6) : prS S rk d o p s c c2 (2310 + e) = if e = o then s + 1 else if e = d then S (2310 + o) else S (2310 + e) := by
  unfold prS
  by_cases q : e = o
  · rw [if_pos q, q, upN_s]
  · rw [if_neg q, upN_n (by omega)]
    by_cases q2 : e = d
    · rw [if_pos q2, q2, upN_s]
    · rw [if_neg q2, upN_n (by omega)]
      unfold prE prD prC prB prA
      rw [rng_out (by omega), upN_n (by omega), upN_n (by omega), if_neg (by omega), rng_out (by omega), rng_out (by omega)]
theorem pr_R (hd : d < 6) (ho : o < 6) (hne : d ≠ o) (hc : c + (p + 1) ≤ 12) (hc2 : c2 ≤ 12) {e r : Nat} (he : e < 6) (hr : r < 12) : z_ord (prS S rk d o p s c c2) e r = if e = d ∧ r < p + 1 then z_ord S o r else if e = d ∧ r < p + 1 + c then z_ord S d (r - (p + 1)) else if e = o ∧ r < c2 - (p + 1) then z_ord S o (r + (p + 1)) else z_ord S e r := by
  unfold z_ord prS prE prD prC
  rw [upN_n (by omega), upN_n (by omega)]
  by_cases q1 : e = d ∧ r < p + 1
  · obtain ⟨rfl, q1⟩ := q1
    rw [if_pos ⟨rfl, q1⟩, rng_out (by omega), upN_n (by omega), upN_n (by omega), if_neg (by omega)]
    unfold prB
    rw [rng_in (by omega) (by omega)]
    congr 1
    omega
  · rw [if_neg q1]
    by_cases q2 : e = d ∧ r < p + 1 + c
    · obtain ⟨rfl, q2⟩ := q2
      rw [if_pos ⟨rfl, q2⟩, rng_out (by omega), upN_n (by omega), upN_n (by omega), if_neg (by omega)]
      unfold prB prA
      rw [rng_out (by omega), rng_in (by omega) (by omega)]
      congr 1
      omega
    · rw [if_neg q2]
      by_cases q3 : e = o ∧ r < c2 - (p + 1)
      · obtain ⟨rfl, q3⟩ := q3
        rw [if_pos ⟨rfl, q3⟩, rng_in (by omega) (by omega)]
        congr 1
        omega
      · rw [if_neg q3, rng_out (by omega), upN_n (by omega), upN_n (by omega), if_neg (by omega)]
        unfold prB prA
        rw [rng_out (by omega), rng_out (by omega)]
theorem pr_C (hd : d < 6) (ho : o < 6) (hne : d ≠ o) (hc : c + (p + 1) ≤ 12) (hc2 : c2 ≤ 12) {e : Nat} (he : e < 6) : prS S rk d o p s c c2 (2388 + e) = if e = d then c + (p + 1) else if e = o then c2 - (p + 1) else S (2388 + e) := by
  unfold prS prE prD
  rw [upN_n (by omega), upN_n (by omega), rng_out (by omega)]
  by_cases q : e = d
  · rw [if_pos q, upN_n (by omega), q, upN_s]
  · rw [if_neg q]
    by_cases q2 : e = o
    · rw [if_pos q2, q2, upN_s]
    · rw [if_neg q2, upN_n (by omega), upN_n (by omega)]
      unfold prC prB prA
      rw [if_neg (by omega), rng_out (by omega), rng_out (by omega)]
theorem pr_W (hd : d < 6) (ho : o < 6) (hc : c + (p + 1) ≤ 12) (hc2 : c2 ≤ 12) {t : Nat} (ht : t < 12) : prS S rk d o p s c c2 (2418 + t) = if prW' S rk o (p + 1) t then d else S (2418 + t) := by
  unfold prS prE prD prC
  rw [upN_n (by omega), upN_n (by omega), rng_out (by omega), upN_n (by omega), upN_n (by omega)]
  by_cases q : prW' S rk o (p + 1) t
  · rw [if_pos q, if_pos ⟨by omega, by omega, by rw [Nat.add_sub_cancel_left]; exact q⟩]
  · rw [if_neg q, if_neg (fun x => q (by have := x.2.2; rw [Nat.add_sub_cancel_left] at this; exact this))]
    unfold prB prA
    rw [rng_out (by omega), rng_out (by omega)]
end
theorem pr_Is {n : Nat} {S rk : Nat → Nat} (hI : z_I n S) {d o p s c c2 : Nat} (hd : d < 6) (ho : o < 6) (hne : d ≠ o) (hdx : S (2304 + d) = 1) (hs : s < 12) (h0 : S (2394 + s) ≠ 0) (hso : S (2418 + s) = o) (hcc : c = S (2388 + d)) (hcc2 : c2 = S (2388 + o)) (hp : p < c2) (hop : z_ord S o p = s) (hor : S (2310 + d) = s + 1) (hrk : ∀ t, t < 12 → S (2394 + t) ≠ 0 → rk t < S (2388 + S (2418 + t)) ∧ z_ord S (S (2418 + t)) (rk t) = t) : z_Is n (prS S rk d o p s c c2) := by
  have hc12 := own2 hI hd ho hne
  rw [← hcc, ← hcc2] at hc12
  have h1 : c + (p + 1) ≤ 12 := by omega
  have h2 : c2 ≤ 12 := by omega
  have hplo := rk_pl hI ho hrk
  rw [← hcc2] at hplo
  have eT := fun {k : Nat} (hk : k < 2310 ∨ (2394 ≤ k ∧ k < 2418) ∨ 2430 ≤ k) => pr_T (S := S) (rk := rk) (s := s) hd ho h1 h2 hk
  have eO := fun {e : Nat} (he : e < 6) => pr_O (S := S) (rk := rk) (s := s) hd ho h1 h2 he
  have eR := fun {e r : Nat} (he : e < 6) (hr : r < 12) => pr_R (S := S) (rk := rk) (s := s) hd ho hne h1 h2 he hr
  have eC := fun {e : Nat} (he : e < 6) => pr_C (S := S) (rk := rk) (s := s) hd ho hne h1 h2 he
  have eW := fun {t : Nat} (ht : t < 12) => pr_W (S := S) (rk := rk) (s := s) hd ho h1 h2 ht
  have hox : S (2304 + o) = 1 := by rw [← hso]; exact (I_liv hI s hs h0).2.2.1
  obtain ⟨i1, i2, i3, i4, i5, i6, i7, i8, i9, j1, j2, j3, j5⟩ := hI.1
  obtain ⟨o12, oo⟩ := i6 o ho
  obtain ⟨d12, od⟩ := i6 d hd
  rw [← hcc2] at o12 oo
  rw [← hcc] at d12 od
  have ao := i7 o ho
  have ad := i7 d hd
  rw [← hcc2] at ao
  rw [← hcc] at ad
  obtain ⟨_, g8⟩ := i8 d hd
  have g8 := (g8 (by omega)).2
  rw [hor, Nat.add_sub_cancel, ← hcc] at g8
  have hnp : ∀ r, r ≤ p → S (2394 + z_ord S o r) ≤ S (2394 + s) := fun r hr => by
    by_cases q : r = p
    · rw [q, hop]
      exact Nat.le_refl _
    · have := ao r p (by omega) hp
      rw [hop] at this
      omega
  refine ⟨fun e he => by rw [eT (by omega)]; exact i1 e he, ?_, fun e he => ?_, fun t ht q => ?_, fun t u ht hu => by rw [eT (by omega), eT (by omega)]; exact i5 t u ht hu, fun e he => ?_, fun e he r q hr hq => ?_, fun e he => ?_, fun r hr => by rw [eT (by omega)]; exact i9 r hr, by rw [eT (by omega)]; exact j1, by rw [eT (by omega)]; exact j2, by rw [eT (by omega)]; exact j3, fun s hs => by rw [eT (by omega)]; exact j5 s hs⟩
  · obtain ⟨e, he, q⟩ := i2
    exact ⟨e, he, by rw [eT (by omega)]; exact q⟩
  · rw [eT (by omega)]
    intro q
    have n1 : e ≠ d := fun x => by rw [x] at q; omega
    have n2 : e ≠ o := fun x => by rw [x] at q; omega
    rw [eO he, if_neg n2, if_neg n1, eC he, if_neg n1, if_neg n2]
    exact i3 e he q
  · rw [eT (by omega)] at q
    obtain ⟨q1, q2, q3, _⟩ := i4 t ht q
    obtain ⟨q4, q5⟩ := hrk t ht q
    unfold z_liv
    rw [eT (by omega), eT (by omega), eW ht]
    have r12 := (i6 _ q2).1
    by_cases w : prW' S rk o (p + 1) t
    · rw [if_pos w]
      obtain ⟨_, w2, w3⟩ := w
      rw [w2] at q4 q5
      refine ⟨q1, hd, by rw [eT (by omega)]; exact hdx, rk t, by rw [eC hd, if_pos rfl]; omega, ?_⟩
      rw [eR hd (by omega), if_pos ⟨rfl, w3⟩]
      exact q5
    · rw [if_neg w]
      refine ⟨q1, q2, by rw [eT (by omega)]; exact q3, ?_⟩
      by_cases v : S (2418 + t) = o
      · have w3 : p + 1 ≤ rk t := Nat.le_of_not_lt (fun x => w ⟨q, v, x⟩)
        rw [v] at q4 q5 ⊢
        rw [← hcc2] at q4
        refine ⟨rk t - (p + 1), by rw [eC ho, if_neg (fun x => hne x.symm), if_pos rfl]; omega, ?_⟩
        rw [eR ho (by omega), if_neg (fun x => hne x.1.symm), if_neg (fun x => hne x.1.symm), if_pos ⟨rfl, by omega⟩, show rk t - (p + 1) + (p + 1) = rk t by omega]
        exact q5
      · by_cases v2 : S (2418 + t) = d
        · rw [v2] at q4 q5 ⊢
          rw [← hcc] at q4
          refine ⟨rk t + (p + 1), by rw [eC hd, if_pos rfl]; omega, ?_⟩
          rw [eR hd (by omega), if_neg (fun x => by have := x.2; omega), if_pos ⟨rfl, by omega⟩, show rk t + (p + 1) - (p + 1) = rk t by omega]
          exact q5
        · refine ⟨rk t, by rw [eC q2, if_neg v2, if_neg v]; exact q4, ?_⟩
          rw [eR q2 (by omega), if_neg (fun x => v2 x.1), if_neg (fun x => v2 x.1), if_neg (fun x => v x.1)]
          exact q5
  · rw [eC he]
    have r12 := (i6 e he).1
    by_cases v : e = d
    · subst v
      rw [if_pos rfl]
      refine ⟨h1, fun r hr => ?_⟩
      rw [eR he (by omega)]
      by_cases w : r < p + 1
      · obtain ⟨k1, k2, k3⟩ := oo r (by omega)
        rw [if_pos ⟨rfl, w⟩, eT (by omega), eW k1, if_pos ⟨k2, k3, by rw [hplo r (by omega)]; exact w⟩]
        exact ⟨k1, k2, rfl⟩
      · obtain ⟨k1, k2, k3⟩ := od (r - (p + 1)) (by omega)
        rw [if_neg (fun x => w x.2), if_pos ⟨rfl, by omega⟩, eT (by omega), eW k1, if_neg (fun x => hne (by rw [← k3, x.2.1]))]
        exact ⟨k1, k2, k3⟩
    · rw [if_neg v]
      by_cases v2 : e = o
      · subst v2
        rw [if_pos rfl]
        refine ⟨by omega, fun r hr => ?_⟩
        obtain ⟨k1, k2, k3⟩ := oo (r + (p + 1)) (by omega)
        rw [eR he (by omega), if_neg (fun x => v x.1), if_neg (fun x => v x.1), if_pos ⟨rfl, hr⟩, eT (by omega), eW k1, if_neg (fun x => by
          have := x.2.2
          rw [hplo _ (by omega)] at this
          omega)]
        exact ⟨k1, k2, k3⟩
      · rw [if_neg v2]
        refine ⟨r12, fun r hr => ?_⟩
        obtain ⟨k1, k2, k3⟩ := (i6 e he).2 r hr
        rw [eR he (by omega), if_neg (fun x => v x.1), if_neg (fun x => v x.1), if_neg (fun x => v2 x.1), eT (by omega), eW k1, if_neg (fun x => v2 (by rw [← k3, x.2.1]))]
        exact ⟨k1, k2, k3⟩
  · rw [eC he] at hq
    have r12 := (i6 e he).1
    by_cases v : e = d
    · subst v
      rw [if_pos rfl] at hq
      have eD1 : ∀ r, r < p + 1 → z_ord (prS S rk e o p s c c2) e r = z_ord S o r := fun r hr => by rw [eR he (by omega), if_pos ⟨rfl, hr⟩]
      have eD2 : ∀ r, p + 1 ≤ r → r < c + (p + 1) → z_ord (prS S rk e o p s c c2) e r = z_ord S e (r - (p + 1)) := fun r hr hr2 => by rw [eR he (by omega), if_neg (fun x => by have := x.2; omega), if_pos ⟨rfl, by omega⟩]
      by_cases w : q < p + 1
      · rw [eD1 r (by omega), eD1 q w, eT (by have := (oo r (by omega)).1; omega), eT (by have := (oo q (by omega)).1; omega)]
        exact ao r q hr (by omega)
      · rw [eD2 q (by omega) hq]
        have k1 := (od (q - (p + 1)) (by omega)).1
        by_cases w2 : r < p + 1
        · have k2 := (oo r (by omega)).1
          rw [eD1 r w2, eT (by omega), eT (by omega)]
          have := hnp r (by omega)
          have := g8 (q - (p + 1)) (by omega)
          omega
        · have k2 := (od (r - (p + 1)) (by omega)).1
          rw [eD2 r (by omega) (by omega), eT (by omega), eT (by omega)]
          exact ad _ _ (by omega) (by omega)
    · rw [if_neg v] at hq
      by_cases v2 : e = o
      · subst v2
        rw [if_pos rfl] at hq
        have k1 := (oo (q + (p + 1)) (by omega)).1
        have k2 := (oo (r + (p + 1)) (by omega)).1
        rw [eR he (by omega), eR he (by omega), if_neg (fun x => v x.1), if_neg (fun x => v x.1), if_pos ⟨rfl, by omega⟩, if_neg (fun x => v x.1), if_neg (fun x => v x.1), if_pos ⟨rfl, by omega⟩, eT (by omega), eT (by omega)]
        exact ao _ _ (by omega) (by omega)
      · rw [if_neg v2] at hq
        have k1 := ((i6 e he).2 q hq).1
        have k2 := ((i6 e he).2 r (by omega)).1
        rw [eR he (by omega), eR he (by omega), if_neg (fun x => v x.1), if_neg (fun x => v x.1), if_neg (fun x => v2 x.1), if_neg (fun x => v x.1), if_neg (fun x => v x.1), if_neg (fun x => v2 x.1), eT (by omega), eT (by omega)]
        exact i7 e he r q hr hq
  · rw [eO he, eC he]
    by_cases v : e = o
    · subst v
      rw [if_pos rfl, if_neg (fun x => hne x.symm), if_pos rfl]
      refine ⟨by omega, fun _ => ?_⟩
      rw [Nat.add_sub_cancel, eT (by omega)]
      refine ⟨h0, fun r hr => ?_⟩
      have k2 := (oo (r + (p + 1)) (by omega)).1
      rw [eR he (by omega), if_neg (fun x => hne x.1.symm), if_neg (fun x => hne x.1.symm), if_pos ⟨rfl, hr⟩, eT (by omega)]
      have := ao p (r + (p + 1)) (by omega) (by omega)
      rw [hop] at this
      exact this
    · rw [if_neg v]
      by_cases v2 : e = d
      · subst v2
        rw [if_pos rfl, if_pos rfl]
        obtain ⟨m1, m2⟩ := i8 o ho
        refine ⟨m1, fun q => ?_⟩
        obtain ⟨m3, m4⟩ := m2 q
        rw [← hcc2] at m4
        rw [eT (by omega)]
        refine ⟨m3, fun r hr => ?_⟩
        rw [eR he (by omega)]
        by_cases w : r < p + 1
        · have k1 := (oo r (by omega)).1
          rw [if_pos ⟨rfl, w⟩, eT (by omega)]
          exact m4 r (by omega)
        · have k1 := (od (r - (p + 1)) (by omega)).1
          rw [if_neg (fun x => w x.2), if_pos ⟨rfl, by omega⟩, eT (by omega)]
          have z1 := m4 p hp
          rw [hop] at z1
          have := g8 (r - (p + 1)) (by omega)
          omega
      · rw [if_neg v2, if_neg v2, if_neg v]
        obtain ⟨m1, m2⟩ := i8 e he
        refine ⟨m1, fun q => ?_⟩
        obtain ⟨m3, m4⟩ := m2 q
        rw [eT (by omega)]
        refine ⟨m3, fun r hr => ?_⟩
        have r12 := (i6 e he).1
        have k1 := ((i6 e he).2 r hr).1
        rw [eR he (by omega), if_neg (fun x => v2 x.1), if_neg (fun x => v2 x.1), if_neg (fun x => v x.1), eT (by omega)]
        exact m4 r hr
