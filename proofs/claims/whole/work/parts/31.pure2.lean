/-! ===== the relation: S, what the model's row 'now' holds as natural numbers; V, a volume of the class ===== -/
/-- how many of the first n places of T are x -/
def cntN (T : Nat → Nat) (x : Nat) : Nat → Nat
  | 0 => 0
  | n + 1 => cntN T x n + if T n = x then 1 else 0
def z_N (N : Nat → Int32) (S : Nat → Nat) : Prop := (∀ k, k < 2430 → N k = nI (S k)) ∧ (∀ k, 2558 ≤ k → k < 3070 → N k = nI (S k)) ∧ ∀ k, 3390 ≤ k → k < 3397 → N k = nI (S k)
def z_sta (S : Nat → Nat) (b : Nat) : Nat := if S (2814 + b) ≠ 0 then 1 else if S (2686 + b) ≠ 0 then 2 else 0
def z_onum (S : Nat → Nat) (d : Nat) : Nat := if S (2310 + d) = 0 then 0 else S (2394 + (S (2310 + d) - 1))
def R_tab (V : Nat) (M : zM) (S : Nat → Nat) : Prop := ∀ t, t < 18 → ∀ p, p < 128 → M (V + 11 + 3 * t) p = nI (S (128 * t + p)) - nI 1
def R_ds (V : Nat) (M : zM) (S : Nat → Nat) : Prop := ∀ d, d < 6 → M (V + 9 + 3 * d) 1 = nI (S (2304 + d)) ∧ M (V + 9 + 3 * d) 2 = nI (z_onum S d) - nI 1
def R_sn (V : Nat) (M : zM) (S : Nat → Nat) : Prop := ∀ s, s < 12 → M (V + 27 + 3 * s) 1 = nI (if S (2394 + s) = 0 then 0 else 1) ∧ (S (2394 + s) ≠ 0 → M (V + 27 + 3 * s) 2 = nI (S (2394 + s) - 1) ∧ M (V + 27 + 3 * s) 3 = nI (S (2418 + s)) ∧ M (V + 27 + 3 * s) 5 = nI (S (2406 + s)) ∧ ∃ r, M (V + 27 + 3 * s) 4 = nI r ∧ r < S (2388 + S (2418 + s)) ∧ S (2316 + 12 * S (2418 + s) + r) = s)
def R_sp (V : Nat) (M : zM) (N : Nat → Int32) (S : Nat → Nat) : Prop := ∀ b, b < 128 → M (V + 4) b = nI (z_sta S b) ∧ M (V + 5) b = N (2430 + b) ∧ M (V + 6) b = nI (S (2558 + b)) ∧ M (V + 7) b = nI (S (2814 + b))
/-- an entry of a log: first block f, l blocks, marked as allocated or not; its number in the model's row -/
def z_entry (N : Nat → Int32) (k : Nat) (f l : Nat) (m : Int32) : Prop := (m = 1 ∧ N k = nI (100 * f + l)) ∨ (m = 0 ∧ N k = -nI (100 * f + l))
def R_lg (V : Nat) (M : zM) (N : Nat → Int32) (S : Nat → Nat) : Prop := ∀ r, r < 4 → M (V + 63 + 5 * r) 0 = nI (32 * r) ∧ M (V + 63 + 5 * r) 4 = nI (S (3390 + r)) ∧ ∀ j, j < S (3390 + r) → ∃ f l, 1 ≤ l ∧ 32 * r ≤ f ∧ f + l ≤ 32 * r + 32 ∧ M (V + 63 + 5 * r + 1) j = nI f ∧ M (V + 63 + 5 * r + 2) j = nI l ∧ z_entry N (3070 + 80 * r + j) f l (M (V + 63 + 5 * r + 3) j)
def R_sc (V : Nat) (M : zM) (S : Nat → Nat) : Prop := M V 4 = nI (S 3395) ∧ M V 5 = nI (S 3394) ∧ M V 6 = nI (S 3396)
def z_R1 (V : Nat) (M : zM) (N : Nat → Int32) (S : Nat → Nat) : Prop := R_tab V M S ∧ R_ds V M S ∧ R_sn V M S ∧ R_sp V M N S ∧ R_lg V M N S ∧ R_sc V M S
/-- a dataset's order of snapshots -/
def z_ord (S : Nat → Nat) (d r : Nat) : Nat := S (2316 + 12 * d + r)
def z_I (n : Nat) (S : Nat → Nat) : Prop :=
  (∀ k, k < 2304 → S k ≤ 128) ∧
  (∀ d, d < 6 → S (2304 + d) ≤ 1) ∧
  (∃ d, d < 6 ∧ S (2304 + d) = 1) ∧
  (∀ d, d < 6 → S (2304 + d) = 0 → S (2310 + d) = 0 ∧ S (2388 + d) = 0 ∧ ∀ p, p < 128 → S (128 * d + p) = 0) ∧
  (∀ s, s < 12 → S (2394 + s) = 0 → ∀ p, p < 128 → S (768 + 128 * s + p) = 0) ∧
  (∀ s, s < 12 → S (2394 + s) ≠ 0 → S (2394 + s) ≤ S 3394 ∧ S (2418 + s) < 6 ∧ S (2304 + S (2418 + s)) = 1 ∧ ∃ r, r < S (2388 + S (2418 + s)) ∧ z_ord S (S (2418 + s)) r = s) ∧
  (∀ s t, s < 12 → t < 12 → S (2394 + s) ≠ 0 → S (2394 + s) = S (2394 + t) → s = t) ∧
  (∀ d, d < 6 → S (2388 + d) ≤ 12 ∧ ∀ r, r < S (2388 + d) → z_ord S d r < 12 ∧ S (2394 + z_ord S d r) ≠ 0 ∧ S (2418 + z_ord S d r) = d) ∧
  (∀ d, d < 6 → ∀ r q, r < q → q < S (2388 + d) → S (2394 + z_ord S d r) < S (2394 + z_ord S d q)) ∧
  (∀ d, d < 6 → S (2310 + d) ≤ 12 ∧ (S (2310 + d) ≠ 0 → S (2394 + (S (2310 + d) - 1)) ≠ 0 ∧ ∀ r, r < S (2388 + d) → S (2394 + (S (2310 + d) - 1)) < S (2394 + z_ord S d r))) ∧
  (∀ b, b < 128 → S (2814 + b) = cntN S (b + 1) 2304) ∧
  (∀ b, b < 128 → S (2686 + b) ≤ 1 ∧ (S (2814 + b) ≠ 0 → S (2686 + b) = 0)) ∧
  (∀ r, r < 4 → S (3390 + r) ≤ 34) ∧
  (S 3394 ≤ n ∧ S 3395 ≤ n + 1 ∧ S 3396 ≤ 4 * n ∧ (∀ b, b < 128 → S (2558 + b) ≤ n + 1) ∧ ∀ s, s < 12 → S (2406 + s) ≤ n + 1)
/-- what was allocated at the commit before -/
def z_Bf (S S0 : Nat → Nat) : Prop := ∀ b, b < 128 → S (2942 + b) = if S0 (2814 + b) ≠ 0 then 1 else 0
/-- all: the open volume and 'now', the committed one and 'kept' -/
def z_P (n : Nat) (M : zM) : Prop := ∃ S S0 : Nat → Nat, z_N (M 170) S ∧ z_N (M 171) S0 ∧ z_R1 1 M (M 170) S ∧ z_R1 84 M (M 171) S0 ∧ z_I n S ∧ z_I n S0 ∧ z_Bf S S0 ∧ z_Bf S0 S0
theorem z_R1_cg {V : Nat} {M M' : zM} {N : Nat → Int32} {S : Nat → Nat} (h : z_R1 V M N S) (hc : ∀ k, V ≤ k → k < V + 83 → M' k = M k) : z_R1 V M' N S := by
  obtain ⟨h1, h2, h3, h4, h5, h6⟩ := h
  refine ⟨fun t ht p hp => ?_, fun d hd => ?_, fun s hs => ?_, fun b hb => ?_, fun r hr => ?_, ?_⟩
  · rw [hc _ (by omega) (by omega)]
    exact h1 t ht p hp
  · rw [hc _ (by omega) (by omega)]
    exact h2 d hd
  · rw [hc _ (by omega) (by omega)]
    exact h3 s hs
  · rw [hc _ (by omega) (by omega), hc _ (by omega) (by omega), hc _ (by omega) (by omega), hc _ (by omega) (by omega)]
    exact h4 b hb
  · rw [hc _ (by omega) (by omega), hc (V + 63 + 5 * r + 1) (by omega) (by omega), hc (V + 63 + 5 * r + 2) (by omega) (by omega), hc (V + 63 + 5 * r + 3) (by omega) (by omega)]
    exact h5 r hr
  · unfold R_sc
    rw [hc V (by omega) (by omega)]
    exact h6
theorem z_I_mono {n : Nat} {S : Nat → Nat} (h : z_I n S) : z_I (n + 1) S := by
  obtain ⟨i1, i2, i3, i4, i5, i6, i7, i8, i9, i10, i11, i12, i13, j1, j2, j3, j4, j5⟩ := h
  exact ⟨i1, i2, i3, i4, i5, i6, i7, i8, i9, i10, i11, i12, i13, by omega, by omega, by omega, fun b hb => by have := j4 b hb; omega, fun s hs => by have := j5 s hs; omega⟩
theorem z_P_cg {n : Nat} {M M' : zM} (h : z_P n M) (hc : ∀ k, 1 ≤ k → k < 167 → M' k = M k) (h1 : M' 170 = M 170) (h2 : M' 171 = M 171) : z_P (n + 1) M' := by
  obtain ⟨S, S0, a1, a2, a3, a4, a5, a6, a7, a8⟩ := h
  refine ⟨S, S0, by rw [h1]; exact a1, by rw [h2]; exact a2, by rw [h1]; exact z_R1_cg a3 (fun k q1 q2 => hc k q1 (by omega)), by rw [h2]; exact z_R1_cg a4 (fun k q1 q2 => hc k (by omega) (by omega)), z_I_mono a5, z_I_mono a6, a7, a8⟩
theorem chk {Ho : Option (Int32 × zM)} {Mo : zM → Option (Int32 × zM)} {k b : Int32} {M2 M4 : zM} (h1 : Ho = some (k, M2)) (h2 : Mo M2 = some (b, M4)) (h3 : M4 169 4 = k) (h4 : k = 0 → M4 174 0 = b) :
    (z_b2 Ho fun x1 M2 => z_b2 (Mo M2) fun x3 M4 => (fX7_thrown 169 M4).bind fun x5 => if x5 = x1 then (if x1 = 0 then ((z_ld M4 174 1 0).bind fun x8 => if (lg_cmp (x8).toInt64 (x3).toInt64) = 0 then (some ((1 : Int32), M4)) else (some (0, M4))) else (some (1, M4))) else (some (0, M4))) = some (1, M4) := by
  rw [h1, z_b2s, h2, z_b2s]
  unfold fX7_thrown
  rw [z_bs, if_pos h3]
  by_cases hk : k = 0
  · rw [if_pos hk, show z_ld M4 174 1 0 = some (M4 174 0) from z_ldn (i := 0) (by decide) (by decide), z_bs, h4 hk]
    rw [if_pos (by unfold lg_cmp; simp)]
  · rw [if_neg hk]
