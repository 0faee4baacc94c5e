/-! ===== numbers, for simp; loops' laws; sums ===== -/
theorem l_0 : (0 : Int32) = nI 0 := rfl
theorem l_1 : (1 : Int32) = nI 1 := rfl
theorem l_2 : (2 : Int32) = nI 2 := rfl
theorem l_3 : (3 : Int32) = nI 3 := rfl
theorem l_4 : (4 : Int32) = nI 4 := rfl
theorem l_5 : (5 : Int32) = nI 5 := rfl
theorem l_6 : (6 : Int32) = nI 6 := rfl
theorem l_7 : (7 : Int32) = nI 7 := rfl
theorem l_8 : (8 : Int32) = nI 8 := rfl
theorem l_11 : (11 : Int32) = nI 11 := rfl
theorem l_12 : (12 : Int32) = nI 12 := rfl
theorem l_15 : (15 : Int32) = nI 15 := rfl
theorem l_16 : (16 : Int32) = nI 16 := rfl
theorem l_31 : (31 : Int32) = nI 31 := rfl
theorem l_32 : (32 : Int32) = nI 32 := rfl
theorem l_66 : (66 : Int32) = nI 66 := rfl
theorem l_80 : (80 : Int32) = nI 80 := rfl
theorem l_100 : (100 : Int32) = nI 100 := rfl
theorem l_127 : (127 : Int32) = nI 127 := rfl
theorem l_128 : (128 : Int32) = nI 128 := rfl
theorem l_768 : (768 : Int32) = nI 768 := rfl
theorem l_2304 : (2304 : Int32) = nI 2304 := rfl
theorem l_2310 : (2310 : Int32) = nI 2310 := rfl
theorem l_2316 : (2316 : Int32) = nI 2316 := rfl
theorem l_2388 : (2388 : Int32) = nI 2388 := rfl
theorem l_2394 : (2394 : Int32) = nI 2394 := rfl
theorem l_2406 : (2406 : Int32) = nI 2406 := rfl
theorem l_2418 : (2418 : Int32) = nI 2418 := rfl
theorem l_2430 : (2430 : Int32) = nI 2430 := rfl
theorem l_2558 : (2558 : Int32) = nI 2558 := rfl
theorem l_2686 : (2686 : Int32) = nI 2686 := rfl
theorem l_2814 : (2814 : Int32) = nI 2814 := rfl
theorem l_2942 : (2942 : Int32) = nI 2942 := rfl
theorem l_3070 : (3070 : Int32) = nI 3070 := rfl
theorem l_3390 : (3390 : Int32) = nI 3390 := rfl
theorem l_3394 : (3394 : Int32) = nI 3394 := rfl
theorem l_3395 : (3395 : Int32) = nI 3395 := rfl
theorem l_3396 : (3396 : Int32) = nI 3396 := rfl
theorem l_3397 : (3397 : Int32) = nI 3397 := rfl
theorem n_le {a b : Nat} (ha : a < 2 ^ 31) (hb : b < 2 ^ 31) : (nI a ≤ nI b) = (a ≤ b) := propext (nI_leI ha hb)
theorem n_lt {a b : Nat} (ha : a < 2 ^ 31) (hb : b < 2 ^ 31) : (nI a < nI b) = (a < b) := propext (nI_ltI ha hb)
theorem n_eq {a b : Nat} (ha : a < 2 ^ 31) (hb : b < 2 ^ 31) : (nI a = nI b) = (a = b) := propext (nI_eq ha hb)
theorem n_leT {a b : Nat} (ha : a < 2 ^ 31) (hb : b < 2 ^ 31) (h : a ≤ b) : (nI a ≤ nI b) = True := eq_true ((nI_leI ha hb).mpr h)
theorem n_leF {a b : Nat} (ha : a < 2 ^ 31) (hb : b < 2 ^ 31) (h : b < a) : (nI a ≤ nI b) = False := eq_false (fun q => absurd ((nI_leI ha hb).mp q) (Nat.not_le.mpr h))
theorem n_ltT {a b : Nat} (ha : a < 2 ^ 31) (hb : b < 2 ^ 31) (h : a < b) : (nI a < nI b) = True := eq_true ((nI_ltI ha hb).mpr h)
theorem n_ltF {a b : Nat} (ha : a < 2 ^ 31) (hb : b < 2 ^ 31) (h : b ≤ a) : (nI a < nI b) = False := eq_false (fun q => absurd ((nI_ltI ha hb).mp q) (Nat.not_lt.mpr h))
theorem n_eqT {a b : Nat} (h : a = b) : (nI a = nI b) = True := eq_true (by rw [h])
theorem n_eqF {a b : Nat} (ha : a < 2 ^ 31) (hb : b < 2 ^ 31) (h : a ≠ b) : (nI a = nI b) = False := eq_false (n_ne ha hb h)
theorem n_sub {a b : Nat} (h : b ≤ a) : nI a - nI b = nI (a - b) := pk_sub h
theorem n_m0a : (nI 0 - nI 1 < nI 0) = True := eq_true (by decide)
theorem n_m0b : (nI 0 - nI 1 = -nI 1) = True := eq_true (by decide)
theorem n_m1b {x : Nat} (h : 1 ≤ x) (hx : x < 2 ^ 31) : (nI x - nI 1 = -nI 1) = False := eq_false (fun q => by
  have h2 := (n_m1 hx).mp q
  omega)
theorem n_m1c {x : Nat} (hx : x < 2 ^ 31) : (nI x = -nI 1) = False := eq_false (fun q => by
  have h2 : (nI x).toInt = (-nI 1).toInt := by rw [q]
  rw [nI_toInt hx] at h2
  have h3 : (-nI 1).toInt = -1 := rfl
  omega)
theorem n_m1d {x : Nat} (hx : x < 2 ^ 31) : (-nI 1 = nI x) = False := eq_false (fun q => by
  have h2 := n_m1c hx
  rw [q] at h2
  exact h2.mp rfl)
theorem st_170 {M : zM} {j : Nat} {v : Int32} : z_st M 169 j v (169 + 1) = M (169 + 1) := rfl
theorem st_171 {M : zM} {j : Nat} {v : Int32} : z_st M 169 j v (169 + 2) = M (169 + 2) := rfl
theorem st_172 {M : zM} {j : Nat} {v : Int32} : z_st M 169 j v (169 + 3) = M (169 + 3) := rfl
theorem st_173 {M : zM} {j : Nat} {v : Int32} : z_st M 169 j v (169 + 4) = M (169 + 4) := rfl
-- sums
theorem sumN_cg {g g' : Nat → Nat} : ∀ {n : Nat}, (∀ i, i < n → g i = g' i) → sumN g n = sumN g' n
  | 0, _ => rfl
  | n + 1, h => by
    show sumN g n + g n = sumN g' n + g' n
    rw [sumN_cg (fun i hi => h i (by omega)), h n (by omega)]
theorem sumN_le {g : Nat → Nat} {c : Nat} : ∀ {n : Nat}, (∀ i, i < n → g i ≤ c) → sumN g n ≤ c * n
  | 0, _ => Nat.zero_le _
  | n + 1, h => by
    have h1 := sumN_le (fun i hi => h i (by omega) : ∀ i, i < n → g i ≤ c)
    have h2 := h n (by omega)
    show sumN g n + g n ≤ c * (n + 1)
    rw [Nat.mul_succ]
    omega
theorem sumN_0 {g : Nat → Nat} : ∀ {n : Nat}, (∀ i, i < n → g i = 0) → sumN g n = 0
  | 0, _ => rfl
  | n + 1, h => by
    show sumN g n + g n = 0
    rw [sumN_0 (fun i hi => h i (by omega)), h n (by omega)]
theorem sumN_pos {g : Nat → Nat} : ∀ {n : Nat}, sumN g n ≠ 0 → ∃ i, i < n ∧ g i ≠ 0
  | 0, h => absurd rfl h
  | n + 1, h => by
    by_cases h1 : g n = 0
    · have h2 : sumN g n ≠ 0 := fun q => h (by show sumN g n + g n = 0; rw [q, h1])
      obtain ⟨i, hi, q⟩ := sumN_pos h2
      exact ⟨i, by omega, q⟩
    · exact ⟨n, by omega, h1⟩
theorem sumN_ge {g : Nat → Nat} {i : Nat} : ∀ {n : Nat}, i < n → g i ≤ sumN g n
  | 0, h => absurd h (Nat.not_lt_zero _)
  | n + 1, h => by
    show g i ≤ sumN g n + g n
    rcases Nat.lt_or_ge i n with q | q
    · have := sumN_ge (g := g) q
      omega
    · have : i = n := by omega
      subst this
      omega
/-- a change at one place -/
theorem sumN_ch {g g' : Nat → Nat} {k : Nat} : ∀ {n : Nat}, k < n → (∀ i, i < n → i ≠ k → g' i = g i) → sumN g' n + g k = sumN g n + g' k
  | 0, h, _ => absurd h (Nat.not_lt_zero _)
  | n + 1, h, hc => by
    show sumN g' n + g' n + g k = sumN g n + g n + g' k
    rcases Nat.lt_or_ge k n with q | q
    · have h1 := sumN_ch q (fun i hi => hc i (by omega))
      have h2 := hc n (by omega) (by omega)
      omega
    · have : k = n := by omega
      subst this
      rw [sumN_cg (fun i hi => hc i (by omega) (by omega) : ∀ i, i < k → g' i = g i)]
      omega
theorem cntN_cg {T T' : Nat → Nat} {x n : Nat} (h : ∀ i, i < n → T i = T' i) : cntN T x n = cntN T' x n := sumN_cg (fun i hi => by rw [h i hi])
theorem cntN_le {T : Nat → Nat} {x n : Nat} : cntN T x n ≤ n := by
  have := sumN_le (g := fun i => if T i = x then 1 else 0) (c := 1) (n := n) (fun i _ => by show (if _ then _ else _) ≤ 1; split <;> omega)
  unfold cntN
  omega
theorem cntN_pos {T : Nat → Nat} {x n : Nat} : cntN T x n ≠ 0 ↔ ∃ i, i < n ∧ T i = x := by
  constructor
  · intro h
    obtain ⟨i, hi, q⟩ := sumN_pos h
    exact ⟨i, hi, by
      by_cases q2 : T i = x
      · exact q2
      · exact absurd (if_neg q2) q⟩
  · rintro ⟨i, hi, q⟩ h
    have h1 := sumN_ge (g := fun i => if T i = x then 1 else 0) hi
    rw [if_pos q] at h1
    unfold cntN at h
    omega
theorem cntN_up {T : Nat → Nat} {k x y n : Nat} (hk : k < n) : cntN (updN T k x) y n + (if T k = y then 1 else 0) = cntN T y n + (if x = y then 1 else 0) := by
  have h := sumN_ch (g := fun i => if T i = y then 1 else 0) (g' := fun i => if updN T k x i = y then 1 else 0) hk (fun i hi q => by
    show (if updN T k x i = y then 1 else 0) = (if T i = y then 1 else 0)
    rw [show updN T k x i = T i from if_neg q])
  rw [show updN T k x k = x from if_pos rfl] at h
  exact h
-- loops
/-- a loop that sums -/
theorem z_loopS {f : Int32 × Int32 → Option ((Int32 × Int32) ⊕ Int32)} (g : Nat → Nat) (lo e : Nat) (he : e < 4000) {s : Int32 × Int32} (hs : s = (nI 0, nI lo)) (h : ∀ i x, i < e → f (nI x, nI (lo + i)) = some (.inl (nI (x + g i), nI (lo + i + 1)))) (hx : ∀ x, f (nI x, nI (lo + e)) = some (.inr (nI x))) : z_loop f z_FU s = some (nI (sumN g e)) := by
  subst hs
  exact z_loopC (f := f) (fun i => (nI (sumN g i), nI (lo + i))) e (nI (sumN g e)) he (fun i hi => h i _ hi) (hx _)
/-- a loop that looks for the first -/
theorem z_loopW {ρ : Type} {f : Int32 → Option (Int32 ⊕ ρ)} (P : Nat → Prop) (val : Nat → ρ) (non : ρ) (lo e : Nat) (he : e < 4000) {s : Int32} (hs : s = nI lo) (hd : ∀ i, i < e → P i ∨ ¬ P i) (h1 : ∀ i, i < e → ¬ P i → f (nI (lo + i)) = some (.inl (nI (lo + i + 1)))) (h2 : ∀ i, i < e → P i → f (nI (lo + i)) = some (.inr (val i))) (hx : f (nI (lo + e)) = some (.inr non)) : (∃ i, i < e ∧ P i ∧ (∀ j, j < i → ¬ P j) ∧ z_loop f z_FU s = some (val i)) ∨ ((∀ i, i < e → ¬ P i) ∧ z_loop f z_FU s = some non) := by
  subst hs
  obtain ⟨r, q1, q2⟩ := z_loopF (f := f) (fun i x => x = nI (lo + i) ∧ ∀ j, j < i → ¬ P j) (fun r => (∃ i, i < e ∧ P i ∧ (∀ j, j < i → ¬ P j) ∧ r = val i) ∨ ((∀ i, i < e → ¬ P i) ∧ r = non)) e (s := nI lo) he (fun i x hi hI => by
    obtain ⟨rfl, hI⟩ := hI
    rcases Nat.lt_or_ge i e with q | q
    · rcases hd i q with hp | hp
      · exact Or.inr ⟨_, h2 i q hp, Or.inl ⟨i, q, hp, hI, rfl⟩⟩
      · exact Or.inl ⟨q, _, h1 i q hp, rfl, fun j hj => by
          rcases Nat.lt_or_ge j i with q3 | q3
          · exact hI j q3
          · have : j = i := by omega
            rw [this]
            exact hp⟩
    · have : i = e := by omega
      subst this
      exact Or.inr ⟨_, hx, Or.inr ⟨hI, rfl⟩⟩) ⟨rfl, fun j hj => absurd hj (Nat.not_lt_zero _)⟩
  rcases q2 with ⟨i, a1, a2, a3, a4⟩ | ⟨a1, a2⟩
  · exact Or.inl ⟨i, a1, a2, a3, by rw [q1, a4]⟩
  · exact Or.inr ⟨a1, by rw [q1, a2]⟩
/-- a loop over the memory -/
theorem z_loopM {ρ : Type} {f : Int32 × zM → Option ((Int32 × zM) ⊕ ρ)} (I : Nat → zM → Prop) (Q : ρ → Prop) (lo e : Nat) (he : e < 4000) {s : Int32} {M : zM} (hs : s = nI lo) (h0 : I 0 M) (h : ∀ i M, i < e → I i M → ∃ M', f (nI (lo + i), M) = some (.inl (nI (lo + i + 1), M')) ∧ I (i + 1) M') (hx : ∀ M, I e M → ∃ r, f (nI (lo + e), M) = some (.inr r) ∧ Q r) : ∃ r, z_loop f z_FU (s, M) = some r ∧ Q r := by
  subst hs
  exact z_loopF (f := f) (fun i x => x.1 = nI (lo + i) ∧ I i x.2) Q e he (fun i x hi hI => by
    obtain ⟨x1, x2⟩ := x
    obtain ⟨hq, hI⟩ := hI
    have hq : x1 = nI (lo + i) := hq
    subst hq
    rcases Nat.lt_or_ge i e with q | q
    · obtain ⟨M', a1, a2⟩ := h i x2 q hI
      exact Or.inl ⟨q, _, a1, rfl, a2⟩
    · have : i = e := by omega
      subst this
      exact Or.inr (hx x2 hI)) ⟨rfl, h0⟩
/-- a loop over the memory that counts too -/
theorem z_loopA {ρ : Type} {f : Int32 × Int32 × zM → Option ((Int32 × Int32 × zM) ⊕ ρ)} (I : Nat → Int32 → zM → Prop) (Q : ρ → Prop) (lo e : Nat) (he : e < 4000) {x s : Int32} {M : zM} (hs : s = nI lo) (h0 : I 0 x M) (h : ∀ i x M, i < e → I i x M → ∃ x' M', f (x, nI (lo + i), M) = some (.inl (x', nI (lo + i + 1), M')) ∧ I (i + 1) x' M') (hx : ∀ x M, I e x M → ∃ r, f (x, nI (lo + e), M) = some (.inr r) ∧ Q r) : ∃ r, z_loop f z_FU (x, s, M) = some r ∧ Q r := by
  subst hs
  exact z_loopF (f := f) (fun i q => q.2.1 = nI (lo + i) ∧ I i q.1 q.2.2) Q e he (fun i q hi hI => by
    obtain ⟨y, x1, x2⟩ := q
    obtain ⟨hq, hI⟩ := hI
    have hq : x1 = nI (lo + i) := hq
    subst hq
    rcases Nat.lt_or_ge i e with q | q
    · obtain ⟨x', M', a1, a2⟩ := h i y x2 q hI
      exact Or.inl ⟨q, _, a1, rfl, a2⟩
    · have : i = e := by omega
      subst this
      exact Or.inr (hx y x2 hI)) ⟨rfl, h0⟩
/-- a loop that writes a row, each place once -/
theorem z_loopR {f : Int32 × zM → Option ((Int32 × zM) ⊕ zM)} (k base lo e : Nat) (g : Nat → Int32) (he : e < 4000) {s : Int32} {M : zM} (hs : s = nI lo) (h : ∀ i M', i < e → (∀ a, a ≠ k → M' a = M a) → (∀ j, M' k j = if base ≤ j ∧ j < base + i then g (j - base) else M k j) → f (nI (lo + i), M') = some (.inl (nI (lo + i + 1), z_st M' k (base + i) (g i)))) (hx : ∀ M', f (nI (lo + e), M') = some (.inr M')) : ∃ M', z_loop f z_FU (s, M) = some M' ∧ (∀ a, a ≠ k → M' a = M a) ∧ ∀ j, M' k j = if base ≤ j ∧ j < base + e then g (j - base) else M k j :=
  z_loopM (f := f) (fun i M' => (∀ a, a ≠ k → M' a = M a) ∧ ∀ j, M' k j = if base ≤ j ∧ j < base + i then g (j - base) else M k j) (fun M' => (∀ a, a ≠ k → M' a = M a) ∧ ∀ j, M' k j = if base ≤ j ∧ j < base + e then g (j - base) else M k j) lo e he hs ⟨fun a _ => rfl, fun j => by rw [if_neg (by omega)]⟩ (fun i M' hi hI => ⟨_, h i M' hi hI.1 hI.2, fun a ha => by rw [s_n ha]; exact hI.1 a ha, fun j => by
    rw [s_s]
    by_cases hj : j = base + i
    · rw [hj, u_s, if_pos (by omega), Nat.add_sub_cancel_left]
    · rw [u_n hj, hI.2 j]
      by_cases hj2 : base ≤ j ∧ j < base + i
      · rw [if_pos hj2, if_pos (by omega)]
      · rw [if_neg hj2, if_neg (by omega)]⟩) (fun M' hI => ⟨M', hx M', hI⟩)
