/-! ===== the relation: S, what the model's row 'now' holds as natural numbers; V, a volume of the class ===== -/
/-- a sum of the first n -/
def sumN (g : Nat → Nat) : Nat → Nat
  | 0 => 0
  | n + 1 => sumN g n + g n
/-- how many of the first n places of T are x -/
def cntN (T : Nat → Nat) (x n : Nat) : Nat := sumN (fun i => if T i = x then 1 else 0) n
def updN (T : Nat → Nat) (k x : Nat) : Nat → Nat := fun j => if j = k then x else T j
def z_N (N : Nat → Int32) (S : Nat → Nat) : Prop := (∀ k, k < 2430 → N k = nI (S k)) ∧ (∀ k, 2558 ≤ k → k < 3070 → N k = nI (S k)) ∧ ∀ k, 3390 ≤ k → k < 3397 → N k = nI (S k)
def z_sta (S : Nat → Nat) (b : Nat) : Nat := if S (2814 + b) ≠ 0 then 1 else if S (2686 + b) ≠ 0 then 2 else 0
def z_onum (S : Nat → Nat) (d : Nat) : Nat := if S (2310 + d) = 0 then 0 else S (2394 + (S (2310 + d) - 1))
/-- a dataset's order of snapshots -/
def z_ord (S : Nat → Nat) (d r : Nat) : Nat := S (2316 + 12 * d + r)
/-- tables: 0 to 5 the datasets', 6 to 17 the snapshots' -/
def R_tab (V : Nat) (M : zM) (S : Nat → Nat) : Prop := ∀ t, t < 18 → ∀ p, p < 128 → M (V + 9 + 3 * t + 1 + 1) p = nI (S (128 * t + p)) - nI 1
def R_ds (V : Nat) (M : zM) (S : Nat → Nat) : Prop := ∀ d, d < 6 → M (V + 9 + 3 * d) 1 = nI (S (2304 + d)) ∧ M (V + 9 + 3 * d) 2 = nI (z_onum S d) - nI 1
/-- a snapshot of the class, in a slot that is taken -/
def R_sn1 (V : Nat) (M : zM) (S : Nat → Nat) (s : Nat) : Prop := M (V + 27 + 3 * s) 2 = nI (S (2394 + s) - 1) ∧ M (V + 27 + 3 * s) 3 = nI (S (2418 + s)) ∧ M (V + 27 + 3 * s) 5 = nI (S (2406 + s)) ∧ ∃ r, M (V + 27 + 3 * s) 4 = nI r ∧ r < S (2388 + S (2418 + s)) ∧ z_ord S (S (2418 + s)) r = s
def R_sn (V : Nat) (M : zM) (S : Nat → Nat) : Prop := ∀ s, s < 12 → M (V + 27 + 3 * s) 1 = nI (if S (2394 + s) = 0 then 0 else 1) ∧ (S (2394 + s) ≠ 0 → R_sn1 V M S s)
def R_sp (V : Nat) (M : zM) (N : Nat → Int32) (S : Nat → Nat) : Prop := ∀ b, b < 128 → M (V + 3 + 1) b = nI (z_sta S b) ∧ M (V + 3 + 2) b = N (2430 + b) ∧ M (V + 3 + 3) b = nI (S (2558 + b)) ∧ M (V + 3 + 4) b = nI (S (2814 + b))
/-- an entry of a log: first block f, l blocks, marked as allocated or not; its number in the model's row -/
def z_entry (x : Int32) (f l : Nat) (m : Int32) : Prop := (m = nI 1 ∧ x = nI (100 * f + l)) ∨ (m = nI 0 ∧ x = -nI (100 * f + l))
def R_lg1 (V : Nat) (M : zM) (N : Nat → Int32) (r j : Nat) : Prop := ∃ f l, 1 ≤ l ∧ 32 * r ≤ f ∧ f + l ≤ 32 * r + 32 ∧ M (V + 63 + 5 * r + 1) j = nI f ∧ M (V + 63 + 5 * r + 2) j = nI l ∧ z_entry (N (3070 + 80 * r + j)) f l (M (V + 63 + 5 * r + 3) j)
def R_lg (V : Nat) (M : zM) (N : Nat → Int32) (S : Nat → Nat) : Prop := ∀ r, r < 4 → M (V + 63 + 5 * r) 0 = nI (32 * r) ∧ M (V + 63 + 5 * r) 4 = nI (S (3390 + r)) ∧ ∀ j, j < S (3390 + r) → R_lg1 V M N r j
def R_sc (V : Nat) (M : zM) (S : Nat → Nat) : Prop := M V 4 = nI (S 3395) ∧ M V 5 = nI (S 3394) ∧ M V 6 = nI (S 3396)
def z_R1 (V : Nat) (M : zM) (N : Nat → Int32) (S : Nat → Nat) : Prop := R_tab V M S ∧ R_ds V M S ∧ R_sn V M S ∧ R_sp V M N S ∧ R_lg V M N S ∧ R_sc V M S
/-- a snapshot's slot that is taken: its number, its owner, its place in the owner's order -/
def z_liv (S : Nat → Nat) (s : Nat) : Prop := S (2394 + s) ≤ S 3394 ∧ S (2418 + s) < 6 ∧ S (2304 + S (2418 + s)) = 1 ∧ ∃ r, r < S (2388 + S (2418 + s)) ∧ z_ord S (S (2418 + s)) r = s
/-- what holds of the datasets and snapshots -/
def z_Is (n : Nat) (S : Nat → Nat) : Prop :=
  (∀ d, d < 6 → S (2304 + d) ≤ 1) ∧
  (∃ d, d < 6 ∧ S (2304 + d) = 1) ∧
  (∀ d, d < 6 → S (2304 + d) = 0 → S (2310 + d) = 0 ∧ S (2388 + d) = 0) ∧
  (∀ s, s < 12 → S (2394 + s) ≠ 0 → z_liv S s) ∧
  (∀ s t, s < 12 → t < 12 → S (2394 + s) ≠ 0 → S (2394 + s) = S (2394 + t) → s = t) ∧
  (∀ d, d < 6 → S (2388 + d) ≤ 12 ∧ ∀ r, r < S (2388 + d) → z_ord S d r < 12 ∧ S (2394 + z_ord S d r) ≠ 0 ∧ S (2418 + z_ord S d r) = d) ∧
  (∀ d, d < 6 → ∀ r q, r < q → q < S (2388 + d) → S (2394 + z_ord S d r) < S (2394 + z_ord S d q)) ∧
  (∀ d, d < 6 → S (2310 + d) ≤ 12 ∧ (S (2310 + d) ≠ 0 → S (2394 + (S (2310 + d) - 1)) ≠ 0 ∧ ∀ r, r < S (2388 + d) → S (2394 + (S (2310 + d) - 1)) < S (2394 + z_ord S d r))) ∧
  (∀ r, r < 4 → S (3390 + r) ≤ 34) ∧
  (S 3394 ≤ n ∧ S 3395 ≤ n + 1 ∧ S 3396 ≤ 4 * n ∧ ∀ s, s < 12 → S (2406 + s) ≤ n + 1)
/-- what holds of the tables and the space -/
def z_It (n : Nat) (S : Nat → Nat) : Prop :=
  (∀ k, k < 2304 → S k ≤ 128) ∧
  (∀ d, d < 6 → S (2304 + d) = 0 → ∀ p, p < 128 → S (128 * d + p) = 0) ∧
  (∀ s, s < 12 → S (2394 + s) = 0 → ∀ p, p < 128 → S (768 + 128 * s + p) = 0) ∧
  (∀ b, b < 128 → S (2814 + b) = cntN S (b + 1) 2304) ∧
  (∀ b, b < 128 → S (2686 + b) ≤ 1 ∧ (S (2814 + b) ≠ 0 → S (2686 + b) = 0)) ∧
  (∀ b, b < 128 → S (2558 + b) ≤ n + 1)
def z_I (n : Nat) (S : Nat → Nat) : Prop := z_Is n S ∧ z_It n S
/-- what was allocated at the commit before -/
def z_Bf (S S0 : Nat → Nat) : Prop := ∀ b, b < 128 → S (2942 + b) = if S0 (2814 + b) ≠ 0 then 1 else 0
/-- all: the open volume and 'now', the committed one and 'kept' -/
def z_P (n : Nat) (M : zM) : Prop := ∃ S S0 : Nat → Nat, z_N (M 170) S ∧ z_N (M 171) S0 ∧ z_R1 1 M (M 170) S ∧ z_R1 84 M (M 171) S0 ∧ z_I n S ∧ z_I n S0 ∧ z_Bf S S0 ∧ z_Bf S0 S0
theorem I_ex {n : Nat} {S : Nat → Nat} (h : z_I n S) : ∀ d, d < 6 → S (2304 + d) ≤ 1 := h.1.1
theorem I_one {n : Nat} {S : Nat → Nat} (h : z_I n S) : ∃ d, d < 6 ∧ S (2304 + d) = 1 := h.1.2.1
theorem I_emp {n : Nat} {S : Nat → Nat} (h : z_I n S) : ∀ d, d < 6 → S (2304 + d) = 0 → S (2310 + d) = 0 ∧ S (2388 + d) = 0 := h.1.2.2.1
theorem I_liv {n : Nat} {S : Nat → Nat} (h : z_I n S) : ∀ s, s < 12 → S (2394 + s) ≠ 0 → z_liv S s := h.1.2.2.2.1
theorem I_num {n : Nat} {S : Nat → Nat} (h : z_I n S) : ∀ s t, s < 12 → t < 12 → S (2394 + s) ≠ 0 → S (2394 + s) = S (2394 + t) → s = t := h.1.2.2.2.2.1
theorem I_ord {n : Nat} {S : Nat → Nat} (h : z_I n S) : ∀ d, d < 6 → S (2388 + d) ≤ 12 ∧ ∀ r, r < S (2388 + d) → z_ord S d r < 12 ∧ S (2394 + z_ord S d r) ≠ 0 ∧ S (2418 + z_ord S d r) = d := h.1.2.2.2.2.2.1
theorem I_asc {n : Nat} {S : Nat → Nat} (h : z_I n S) : ∀ d, d < 6 → ∀ r q, r < q → q < S (2388 + d) → S (2394 + z_ord S d r) < S (2394 + z_ord S d q) := h.1.2.2.2.2.2.2.1
theorem I_ori {n : Nat} {S : Nat → Nat} (h : z_I n S) : ∀ d, d < 6 → S (2310 + d) ≤ 12 ∧ (S (2310 + d) ≠ 0 → S (2394 + (S (2310 + d) - 1)) ≠ 0 ∧ ∀ r, r < S (2388 + d) → S (2394 + (S (2310 + d) - 1)) < S (2394 + z_ord S d r)) := h.1.2.2.2.2.2.2.2.1
theorem I_log {n : Nat} {S : Nat → Nat} (h : z_I n S) : ∀ r, r < 4 → S (3390 + r) ≤ 34 := h.1.2.2.2.2.2.2.2.2.1
theorem I_bnd {n : Nat} {S : Nat → Nat} (h : z_I n S) : S 3394 ≤ n ∧ S 3395 ≤ n + 1 ∧ S 3396 ≤ 4 * n ∧ ∀ s, s < 12 → S (2406 + s) ≤ n + 1 := h.1.2.2.2.2.2.2.2.2.2
theorem I_tab {n : Nat} {S : Nat → Nat} (h : z_I n S) : ∀ k, k < 2304 → S k ≤ 128 := h.2.1
theorem I_te {n : Nat} {S : Nat → Nat} (h : z_I n S) : ∀ d, d < 6 → S (2304 + d) = 0 → ∀ p, p < 128 → S (128 * d + p) = 0 := h.2.2.1
theorem I_se {n : Nat} {S : Nat → Nat} (h : z_I n S) : ∀ s, s < 12 → S (2394 + s) = 0 → ∀ p, p < 128 → S (768 + 128 * s + p) = 0 := h.2.2.2.1
theorem I_ref {n : Nat} {S : Nat → Nat} (h : z_I n S) : ∀ b, b < 128 → S (2814 + b) = cntN S (b + 1) 2304 := h.2.2.2.2.1
theorem I_pen {n : Nat} {S : Nat → Nat} (h : z_I n S) : ∀ b, b < 128 → S (2686 + b) ≤ 1 ∧ (S (2814 + b) ≠ 0 → S (2686 + b) = 0) := h.2.2.2.2.2.1
theorem I_bir {n : Nat} {S : Nat → Nat} (h : z_I n S) : ∀ b, b < 128 → S (2558 + b) ≤ n + 1 := h.2.2.2.2.2.2
theorem I_nb {n : Nat} {S : Nat → Nat} (h : z_I n S) : ∀ s, s < 12 → S (2394 + s) ≤ n := fun s hs => by
  rcases Nat.eq_zero_or_pos (S (2394 + s)) with q | q
  · omega
  · have := (I_liv h s hs (by omega)).1
    have := (I_bnd h).1
    omega
theorem z_Is_mono {n : Nat} {S : Nat → Nat} (h : z_Is n S) : z_Is (n + 1) S := by
  obtain ⟨i1, i2, i3, i4, i5, i6, i7, i8, i9, j1, j2, j3, j5⟩ := h
  exact ⟨i1, i2, i3, i4, i5, i6, i7, i8, i9, by omega, by omega, by omega, fun s hs => by have := j5 s hs; omega⟩
theorem z_I_mono {n : Nat} {S : Nat → Nat} (h : z_I n S) : z_I (n + 1) S :=
  ⟨z_Is_mono h.1, h.2.1, h.2.2.1, h.2.2.2.1, h.2.2.2.2.1, h.2.2.2.2.2.1, fun b hb => by have := I_bir h b hb; omega⟩
-- other cells: the relation's parts
theorem R_tab_cg {V : Nat} {M M' : zM} {S : Nat → Nat} (h : R_tab V M S) (hc : ∀ k, V + 11 ≤ k → k < V + 63 → M' k = M k) : R_tab V M' S := fun t ht p hp => by
  rw [hc _ (by omega) (by omega)]
  exact h t ht p hp
theorem R_ds_cg {V : Nat} {M M' : zM} {S : Nat → Nat} (h : R_ds V M S) (hc : ∀ k, V + 9 ≤ k → k < V + 27 → M' k = M k) : R_ds V M' S := fun d hd => by
  rw [hc _ (by omega) (by omega)]
  exact h d hd
theorem R_sn_cg {V : Nat} {M M' : zM} {S : Nat → Nat} (h : R_sn V M S) (hc : ∀ k, V + 27 ≤ k → k < V + 63 → M' k = M k) : R_sn V M' S := fun s hs => by
  unfold R_sn1
  rw [hc _ (by omega) (by omega)]
  exact h s hs
theorem R_sp_cg {V : Nat} {M M' : zM} {N : Nat → Int32} {S : Nat → Nat} (h : R_sp V M N S) (hc : ∀ k, V + 4 ≤ k → k < V + 8 → M' k = M k) : R_sp V M' N S := fun b hb => by
  rw [hc (V + 3 + 1) (by omega) (by omega), hc (V + 3 + 2) (by omega) (by omega), hc (V + 3 + 3) (by omega) (by omega), hc (V + 3 + 4) (by omega) (by omega)]
  exact h b hb
theorem R_lg_cg {V : Nat} {M M' : zM} {N : Nat → Int32} {S : Nat → Nat} (h : R_lg V M N S) (hc : ∀ r q, r < 4 → q < 4 → M' (V + 63 + 5 * r + q) = M (V + 63 + 5 * r + q)) : R_lg V M' N S := fun r hr => by
  unfold R_lg1
  have h0 : M' (V + 63 + 5 * r) = M (V + 63 + 5 * r) := hc r 0 hr (by decide)
  rw [h0, hc r 1 hr (by decide), hc r 2 hr (by decide), hc r 3 hr (by decide)]
  exact h r hr
theorem R_sc_cg {V : Nat} {M M' : zM} {S : Nat → Nat} (h : R_sc V M S) (hc : M' V = M V) : R_sc V M' S := by
  unfold R_sc
  rw [hc]
  exact h
/-- all but the rows of marks, which the class writes anew before it reads them -/
theorem z_R1_cg {V : Nat} {M M' : zM} {N : Nat → Int32} {S : Nat → Nat} (h : z_R1 V M N S) (hc : ∀ k, V ≤ k → k < V + 83 → (∀ r, r < 4 → k ≠ V + 67 + 5 * r) → M' k = M k) : z_R1 V M' N S :=
  ⟨R_tab_cg h.1 (fun k q1 q2 => hc k (by omega) (by omega) (fun r _ => by omega)), R_ds_cg h.2.1 (fun k q1 q2 => hc k (by omega) (by omega) (fun r _ => by omega)), R_sn_cg h.2.2.1 (fun k q1 q2 => hc k (by omega) (by omega) (fun r _ => by omega)), R_sp_cg h.2.2.2.1 (fun k q1 q2 => hc k (by omega) (by omega) (fun r _ => by omega)), R_lg_cg h.2.2.2.2.1 (fun r q q1 q2 => hc _ (by omega) (by omega) (fun r _ => by omega)), R_sc_cg h.2.2.2.2.2 (hc V (by omega) (by omega) (fun r _ => by omega))⟩
theorem z_P_cg {n : Nat} {M M' : zM} (h : z_P n M) (hc : ∀ k, 1 ≤ k → k < 167 → (∀ r, r < 4 → k ≠ 68 + 5 * r) → M' k = M k) (h1 : M' 170 = M 170) (h2 : M' 171 = M 171) : z_P (n + 1) M' := by
  obtain ⟨S, S0, a1, a2, a3, a4, a5, a6, a7, a8⟩ := h
  refine ⟨S, S0, by rw [h1]; exact a1, by rw [h2]; exact a2, by rw [h1]; exact z_R1_cg a3 (fun k q1 q2 q3 => hc k q1 (by omega) q3), by rw [h2]; exact z_R1_cg a4 (fun k q1 q2 _ => hc k (by omega) (by omega) (fun r _ => by omega)), z_I_mono a5, z_I_mono a6, a7, a8⟩
-- other numbers: the relation's parts
theorem z_onum_cg {S S' : Nat → Nat} {d : Nat} (hd : d < 6) (h : S (2310 + d) ≤ 12) (hc : ∀ k, 2304 ≤ k → k < 2430 → S' k = S k) : z_onum S' d = z_onum S d := by
  unfold z_onum
  rw [hc (2310 + d) (by omega) (by omega), hc (2394 + (S (2310 + d) - 1)) (by omega) (by omega)]
theorem R_ds_S {V : Nat} {M : zM} {S S' : Nat → Nat} (h : R_ds V M S) (ho : ∀ d, d < 6 → S (2310 + d) ≤ 12) (hc : ∀ k, 2304 ≤ k → k < 2430 → S' k = S k) : R_ds V M S' := fun d hd => by
  rw [z_onum_cg hd (ho d hd) hc, hc (2304 + d) (by omega) (by omega)]
  exact h d hd
theorem R_sn_S {V : Nat} {M : zM} {S S' : Nat → Nat} (h : R_sn V M S) (hl : ∀ s, s < 12 → S (2394 + s) ≠ 0 → z_liv S s) (hk : ∀ d, d < 6 → S (2388 + d) ≤ 12) (hc : ∀ k, 2304 ≤ k → k < 2430 → S' k = S k) : R_sn V M S' := fun s hs => by
  rw [hc (2394 + s) (by omega) (by omega)]
  refine ⟨(h s hs).1, fun q => ?_⟩
  obtain ⟨q1, q2, q3, r, q4, q5, q6⟩ := (h s hs).2 q
  have ho := (hl s hs q).2.1
  have hk2 := hk _ ho
  refine ⟨?_, ?_, ?_, r, q4, ?_, ?_⟩
  · rw [hc (2394 + s) (by omega) (by omega)]
    exact q1
  · rw [hc (2418 + s) (by omega) (by omega)]
    exact q2
  · rw [hc (2406 + s) (by omega) (by omega)]
    exact q3
  · rw [hc (2418 + s) (by omega) (by omega), hc (2388 + S (2418 + s)) (by omega) (by omega)]
    exact q5
  · unfold z_ord at q6 ⊢
    rw [hc (2418 + s) (by omega) (by omega), hc _ (by omega) (by omega)]
    exact q6
theorem z_Is_S {n : Nat} {S S' : Nat → Nat} (h : z_Is n S) (hc : ∀ k, 2304 ≤ k → k < 2430 → S' k = S k) (hl : ∀ k, 3390 ≤ k → k < 3397 → S' k = S k) : z_Is n S' := by
  obtain ⟨i1, i2, i3, i4, i5, i6, i7, i8, i9, j1, j2, j3, j5⟩ := h
  have e0 : ∀ d, d < 6 → S' (2304 + d) = S (2304 + d) := fun d hd => hc _ (by omega) (by omega)
  have e1 : ∀ d, d < 6 → S' (2310 + d) = S (2310 + d) := fun d hd => hc _ (by omega) (by omega)
  have e2 : ∀ d, d < 6 → S' (2388 + d) = S (2388 + d) := fun d hd => hc _ (by omega) (by omega)
  have e3 : ∀ s, s < 12 → S' (2394 + s) = S (2394 + s) := fun d hd => hc _ (by omega) (by omega)
  have e4 : ∀ s, s < 12 → S' (2418 + s) = S (2418 + s) := fun d hd => hc _ (by omega) (by omega)
  have e5 : ∀ d r, d < 6 → r < 12 → z_ord S' d r = z_ord S d r := fun d r hd hr => hc _ (by omega) (by omega)
  refine ⟨fun d hd => by rw [e0 d hd]; exact i1 d hd, ?_, fun d hd => by rw [e0 d hd, e1 d hd, e2 d hd]; exact i3 d hd, fun s hs => ?_, fun s t hs ht => by rw [e3 s hs, e3 t ht]; exact i5 s t hs ht, fun d hd => ?_, fun d hd r q hr hq => ?_, fun d hd => ?_, fun r hr => by rw [hl _ (by omega) (by omega)]; exact i9 r hr, by rw [hl _ (by omega) (by omega)]; exact j1, by rw [hl _ (by omega) (by omega)]; exact j2, by rw [hl _ (by omega) (by omega)]; exact j3, fun s hs => by rw [hc _ (by omega) (by omega)]; exact j5 s hs⟩
  · obtain ⟨d, hd, q⟩ := i2
    exact ⟨d, hd, by rw [e0 d hd]; exact q⟩
  · rw [e3 s hs]
    intro q
    obtain ⟨q1, q2, q3, r, q4, q5⟩ := i4 s hs q
    have hk := (i6 _ q2).1
    refine ⟨by rw [e3 s hs, hl 3394 (by omega) (by omega)]; exact q1, by rw [e4 s hs]; exact q2, by rw [e4 s hs, e0 _ q2]; exact q3, r, by rw [e4 s hs, e2 _ q2]; exact q4, by rw [e4 s hs, e5 _ _ q2 (by omega)]; exact q5⟩
  · rw [e2 d hd]
    refine ⟨(i6 d hd).1, fun r hr => ?_⟩
    have hk := (i6 d hd).1
    have hz := (i6 d hd).2 r hr
    rw [e5 d r hd (by omega), e3 _ hz.1, e4 _ hz.1]
    exact hz
  · rw [e2 d hd] at hq
    have hk := (i6 d hd).1
    rw [e5 d r hd (by omega), e5 d q hd (by omega), e3 _ ((i6 d hd).2 r (by omega)).1, e3 _ ((i6 d hd).2 q (by omega)).1]
    exact i7 d hd r q hr hq
  · rw [e1 d hd, e2 d hd]
    refine ⟨(i8 d hd).1, fun q => ?_⟩
    have hk := (i6 d hd).1
    have hx := (i8 d hd).1
    rw [e3 _ (by omega)]
    refine ⟨((i8 d hd).2 q).1, fun r hr => ?_⟩
    rw [e5 d r hd (by omega), e3 _ ((i6 d hd).2 r hr).1]
    exact ((i8 d hd).2 q).2 r hr
theorem chk {Ho : Option (Int32 × zM)} {Mo : zM → Option (Int32 × zM)} {k b : Int32} {M2 M4 : zM} (h1 : Ho = some (k, M2)) (h2 : Mo M2 = some (b, M4)) (h3 : M4 169 4 = k) (h4 : k = 0 → M4 174 0 = b) :
    (z_b2 Ho fun x1 M2 => z_b2 (Mo M2) fun x3 M4 => (fX7_thrown 169 M4).bind fun x5 => if x5 = x1 then (if x1 = 0 then ((z_ld M4 174 1 0).bind fun x8 => if (lg_cmp (x8).toInt64 (x3).toInt64) = 0 then (some ((1 : Int32), M4)) else (some (0, M4))) else (some (1, M4))) else (some (0, M4))) = some (1, M4) := by
  rw [h1, z_b2s, h2, z_b2s]
  unfold fX7_thrown
  rw [z_bs, if_pos h3]
  by_cases hk : k = 0
  · rw [if_pos hk, show z_ld M4 174 1 0 = some (M4 174 0) from z_ldn (i := 0) (by decide) (by decide), z_bs, h4 hk]
    rw [if_pos (by unfold lg_cmp; simp)]
  · rw [if_neg hk]
