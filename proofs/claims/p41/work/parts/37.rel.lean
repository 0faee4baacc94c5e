/-! ===== the law's rows and the numbers S ===== -/
/-- place k of a dataset's or snapshot's four -/
def q_pl (k : Nat) : Nat := 16 * (k / 2) + k % 2
/-- place k of the law's row x, among the class's 18 tables -/
def q_ps (k : Nat) : Nat := 128 * (if k < 12 then k / 4 else k / 4 + 3) + q_pl (k % 4)
/-- the law's block i -/
def q_bl (i : Nat) : Nat := i / 16 * 32 + i % 16
def L_x (A : Nat) (M : zM) (S : Nat → Nat) : Prop := ∀ k, k < 28 → M A k = nI (S (q_ps k))
def L_b (B : Nat) (M : zM) (N : Nat → Int32) (S : Nat → Nat) : Prop := ∀ i, i < 64 → y_B1 M B i (N (2430 + q_bl i)) (S (2558 + q_bl i)) (S (2686 + q_bl i)) (S (2942 + q_bl i)) (S (2814 + q_bl i))
def L_m (C : Nat) (M : zM) (S : Nat → Nat) : Prop := (M C 0 = nI (S 3395) ∧ M C 1 = nI (S 3394) ∧ M C 2 = nI (S 3396)) ∧ (∀ d, d < 3 → M C (4 + d) = nI (S (2304 + d)) ∧ M C (8 + d) = nI (z_onum S d)) ∧ ∀ s, s < 4 → M C (12 + s) = nI (S (2394 + s)) ∧ (S (2394 + s) ≠ 0 → M C (16 + s) = nI (S (2418 + s)) ∧ M C (20 + s) = nI (S (2406 + s)))
def q_sm (S : Nat → Nat) : Prop := (∀ k, k < 2304 → (∀ j, j < 28 → q_ps j ≠ k) → S k = 0) ∧ (∀ d, 3 ≤ d → d < 6 → S (2304 + d) = 0) ∧ (∀ s, 4 ≤ s → s < 12 → S (2394 + s) = 0) ∧ ∀ b, b < 128 → 16 ≤ b % 32 → S (2814 + b) = 0 ∧ S (2686 + b) = 0 ∧ S (2942 + b) = 0
theorem L_x_cg {A : Nat} {M M' : zM} {S : Nat → Nat} (h : L_x A M S) (hM : M' A = M A) : L_x A M' S := fun k hk => by rw [hM]; exact h k hk
theorem L_b_cg {B : Nat} {M M' : zM} {N : Nat → Int32} {S : Nat → Nat} (h : L_b B M N S) (hM : M' B = M B) : L_b B M' N S := fun i hi => by
  unfold y_B1
  rw [hM]
  exact h i hi
theorem L_m_cg {C : Nat} {M M' : zM} {S : Nat → Nat} (h : L_m C M S) (hM : M' C = M C) : L_m C M' S := by
  unfold L_m
  rw [hM]
  exact h
theorem bl_128 {i : Nat} (hi : i < 64) : q_bl i < 128 := by
  unfold q_bl
  omega
theorem bl_32 {i : Nat} : q_bl i % 32 = i % 16 := by
  unfold q_bl
  omega
theorem bl_inj {i j : Nat} (h : q_bl i = q_bl j) : i = j := by
  unfold q_bl at h
  omega
theorem pl_128 {k : Nat} (hk : k < 4) : q_pl k < 128 := by
  unfold q_pl
  omega
theorem ps_d {d k : Nat} (hd : d < 3) (hk : k < 4) : q_ps (4 * d + k) = 128 * d + q_pl k := by
  unfold q_ps
  rw [if_pos (by omega), show (4 * d + k) / 4 = d by omega, show (4 * d + k) % 4 = k by omega]
theorem ps_s {s k : Nat} (hk : k < 4) : q_ps (12 + 4 * s + k) = 768 + 128 * s + q_pl k := by
  unfold q_ps
  rw [if_neg (by omega), show (12 + 4 * s + k) / 4 = s + 3 by omega, show (12 + 4 * s + k) % 4 = k by omega]
  omega
theorem ps_2304 {k : Nat} (hk : k < 28) : q_ps k < 2304 := by
  have := pl_128 (k := k % 4) (by omega)
  unfold q_ps
  split <;> omega
theorem ps_inj {j k : Nat} (hj : j < 28) (hk : k < 28) (h : q_ps j = q_ps k) : j = k := by
  unfold q_ps q_pl at h
  split at h <;> split at h <;> omega
/-- a number modulo -/
theorem n_mod {a d : Nat} : a - a / d * d = a % d := by
  have h := Nat.div_add_mod a d
  rw [Nat.mul_comm] at h
  omega
theorem n_div {a d : Nat} (ha : a < 2 ^ 31) (h0 : 0 < d) (hd : d < 2 ^ 31) : nI a / nI d = nI (a / d) := pk_div ha h0 hd
theorem f_blk {i : Nat} {M : zM} (hi : i < 2 ^ 20) : fL_block (nI i) M = some (nI (q_bl i)) := by
  unfold fL_block
  simp (disch := first | omega | assumption) only [l_0, l_1, l_2, l_3, l_4, l_5, l_6, l_7, l_8, l_11, l_12, l_15, l_16, l_31, l_32, l_66, l_80, l_100, l_127, l_128, l_768, l_2304, l_2310, l_2316, l_2388, l_2394, l_2406, l_2418, l_2430, l_2558, l_2686, l_2814, l_2942, l_3070, l_3390, l_3394, l_3395, l_3396, l_3397, n_leT, n_leF, n_ltT, n_ltF, n_eqT, n_eqF, nI_add, pk_mul, n_sub, z_ldn, z_san, z_bs, z_b2s, z_b3s, z_ocN, z_ocS, z_oxL, z_oxR, z_scL, z_scR, ↓reduceIte, Nat.zero_add, Nat.add_zero, Nat.zero_lt_succ, true_and, and_true, eq_self, n_div, n_mod, q_bl]
theorem f_plc {i : Nat} {M : zM} (hi : i < 64) : fL_place (nI (q_bl i)) M = some (nI i) := by
  have h1 : q_bl i / 32 * 16 + q_bl i % 32 = i := by
    unfold q_bl
    omega
  have h2 := bl_128 hi
  unfold fL_place
  simp (disch := first | omega | assumption) only [l_0, l_1, l_2, l_3, l_4, l_5, l_6, l_7, l_8, l_11, l_12, l_15, l_16, l_31, l_32, l_66, l_80, l_100, l_127, l_128, l_768, l_2304, l_2310, l_2316, l_2388, l_2394, l_2406, l_2418, l_2430, l_2558, l_2686, l_2814, l_2942, l_3070, l_3390, l_3394, l_3395, l_3396, l_3397, n_leT, n_leF, n_ltT, n_ltF, n_eqT, n_eqF, nI_add, pk_mul, n_sub, z_ldn, z_san, z_bs, z_b2s, z_b3s, z_ocN, z_ocS, z_oxL, z_oxR, z_scL, z_scR, ↓reduceIte, Nat.zero_add, Nat.add_zero, Nat.zero_lt_succ, true_and, and_true, eq_self, n_div, n_mod, h1]
-- sums over the tables
theorem sumN_sp {g : Nat → Nat} {a : Nat} : ∀ {b : Nat}, sumN g (a + b) = sumN g a + sumN (fun i => g (a + i)) b
  | 0 => rfl
  | b + 1 => by
    show sumN g (a + b) + g (a + b) = sumN g a + (sumN (fun i => g (a + i)) b + g (a + b))
    rw [sumN_sp]
    omega
theorem sumN_mu {g : Nat → Nat} {m : Nat} : ∀ {n : Nat}, sumN g (m * n) = sumN (fun t => sumN (fun p => g (m * t + p)) m) n
  | 0 => rfl
  | n + 1 => by
    rw [Nat.mul_succ, sumN_sp, sumN_mu]
    rfl
theorem sum_128 {h : Nat → Nat} (h0 : ∀ p, p < 128 → (∀ j, j < 4 → q_pl j ≠ p) → h p = 0) : sumN h 128 = sumN (fun j => h (q_pl j)) 4 := by
  have z1 : sumN (fun i => h (2 + i)) 14 = 0 := sumN_0 (fun i hi => h0 _ (by omega) (fun j hj => by unfold q_pl; omega))
  have z2 : sumN (fun i => h (18 + i)) 110 = 0 := sumN_0 (fun i hi => h0 _ (by omega) (fun j hj => by unfold q_pl; omega))
  have e1 : sumN h (2 + 14) = sumN h 2 + sumN (fun i => h (2 + i)) 14 := sumN_sp
  have e2 : sumN h (16 + 2) = sumN h 16 + sumN (fun i => h (16 + i)) 2 := sumN_sp
  have e3 : sumN h (18 + 110) = sumN h 18 + sumN (fun i => h (18 + i)) 110 := sumN_sp
  have e4 : sumN h 2 = 0 + h 0 + h 1 := rfl
  have e5 : sumN (fun i => h (16 + i)) 2 = 0 + h 16 + h 17 := rfl
  have e6 : sumN (fun j => h (q_pl j)) 4 = 0 + h 0 + h 1 + h 16 + h 17 := rfl
  have e1 : sumN h 16 = sumN h 2 + sumN (fun i => h (2 + i)) 14 := e1
  have e2 : sumN h 18 = sumN h 16 + sumN (fun i => h (16 + i)) 2 := e2
  have e3 : sumN h 128 = sumN h 18 + sumN (fun i => h (18 + i)) 110 := e3
  omega
theorem sum_ps {g : Nat → Nat} (h0 : ∀ k, k < 2304 → (∀ j, j < 28 → q_ps j ≠ k) → g k = 0) : sumN g 2304 = sumN (fun k => g (q_ps k)) 28 := by
  have e1 : sumN g (128 * 18) = sumN (fun t => sumN (fun p => g (128 * t + p)) 128) 18 := sumN_mu
  have e2 : sumN (fun k => g (q_ps k)) (4 * 7) = sumN (fun u => sumN (fun j => g (q_ps (4 * u + j))) 4) 7 := sumN_mu
  have e1 : sumN g 2304 = sumN (fun t => sumN (fun p => g (128 * t + p)) 128) 18 := e1
  have e2 : sumN (fun k => g (q_ps k)) 28 = sumN (fun u => sumN (fun j => g (q_ps (4 * u + j))) 4) 7 := e2
  have off : ∀ t p, t < 18 → p < 128 → ((3 ≤ t ∧ t < 6) ∨ 10 ≤ t) → g (128 * t + p) = 0 := fun t p ht hp hc => h0 _ (by omega) (fun j hj => by
    have := pl_128 (k := j % 4) (by omega)
    unfold q_ps
    split <;> omega)
  have tab : ∀ t u, t < 18 → u < 7 → (t = if u < 3 then u else u + 3) → sumN (fun p => g (128 * t + p)) 128 = sumN (fun j => g (q_ps (4 * u + j))) 4 := fun t u ht hu htu => by
    rw [sum_128 (h := fun p => g (128 * t + p)) (fun p hp hq => h0 _ (by omega) (fun j hj e => by
      have h4 := pl_128 (k := j % 4) (by omega)
      have h5 := hq (j % 4) (by omega)
      unfold q_ps at e
      split at e <;> omega))]
    refine sumN_cg (fun j hj => ?_)
    congr 1
    unfold q_ps
    rw [show (4 * u + j) / 4 = u by omega, show (4 * u + j) % 4 = j by omega, htu]
    by_cases c : u < 3
    · rw [if_pos c, if_pos (by omega)]
    · rw [if_neg c, if_neg (by omega)]
  have f1 : sumN (fun t => sumN (fun p => g (128 * t + p)) 128) (3 + 15) = sumN (fun t => sumN (fun p => g (128 * t + p)) 128) 3 + sumN (fun i => sumN (fun p => g (128 * (3 + i) + p)) 128) 15 := sumN_sp
  have f2 : sumN (fun i => sumN (fun p => g (128 * (3 + i) + p)) 128) (3 + 12) = sumN (fun i => sumN (fun p => g (128 * (3 + i) + p)) 128) 3 + sumN (fun i => sumN (fun p => g (128 * (3 + (3 + i)) + p)) 128) 12 := sumN_sp (g := fun i => sumN (fun p => g (128 * (3 + i) + p)) 128)
  have f3 : sumN (fun i => sumN (fun p => g (128 * (3 + (3 + i)) + p)) 128) (4 + 8) = sumN (fun i => sumN (fun p => g (128 * (3 + (3 + i)) + p)) 128) 4 + sumN (fun i => sumN (fun p => g (128 * (3 + (3 + (4 + i))) + p)) 128) 8 := sumN_sp (g := fun i => sumN (fun p => g (128 * (3 + (3 + i)) + p)) 128)
  have z1 : sumN (fun i => sumN (fun p => g (128 * (3 + i) + p)) 128) 3 = 0 := sumN_0 (fun i hi => sumN_0 (fun p hp => off _ p (by omega) hp (by omega)))
  have z2 : sumN (fun i => sumN (fun p => g (128 * (3 + (3 + (4 + i))) + p)) 128) 8 = 0 := sumN_0 (fun i hi => sumN_0 (fun p hp => off _ p (by omega) hp (by omega)))
  have k1 : sumN (fun u => sumN (fun j => g (q_ps (4 * u + j))) 4) (3 + 4) = sumN (fun u => sumN (fun j => g (q_ps (4 * u + j))) 4) 3 + sumN (fun i => sumN (fun j => g (q_ps (4 * (3 + i) + j))) 4) 4 := sumN_sp
  have m1 : sumN (fun t => sumN (fun p => g (128 * t + p)) 128) 3 = sumN (fun u => sumN (fun j => g (q_ps (4 * u + j))) 4) 3 := sumN_cg (fun u hu => tab u u (by omega) (by omega) (by rw [if_pos hu]))
  have m2 : sumN (fun i => sumN (fun p => g (128 * (3 + (3 + i)) + p)) 128) 4 = sumN (fun i => sumN (fun j => g (q_ps (4 * (3 + i) + j))) 4) 4 := sumN_cg (fun u hu => tab (3 + (3 + u)) (3 + u) (by omega) (by omega) (by rw [if_neg (by omega)]; omega))
  have f1 : sumN (fun t => sumN (fun p => g (128 * t + p)) 128) 18 = _ := f1
  have f2 : sumN (fun i => sumN (fun p => g (128 * (3 + i) + p)) 128) 15 = _ := f2
  have f3 : sumN (fun i => sumN (fun p => g (128 * (3 + (3 + i)) + p)) 128) 12 = _ := f3
  have k1 : sumN (fun u => sumN (fun j => g (q_ps (4 * u + j))) 4) 7 = _ := k1
  omega
/-- sums over the blocks -/
theorem sum_rg {g : Nat → Nat} {r : Nat} (hr : r < 4) (h0 : ∀ b, b < 128 → 16 ≤ b % 32 → g b = 0) : sumN (fun p => g (32 * r + p)) 32 = sumN (fun i => g (q_bl (16 * r + i))) 16 := by
  have e1 : sumN (fun p => g (32 * r + p)) (16 + 16) = sumN (fun p => g (32 * r + p)) 16 + sumN (fun i => g (32 * r + (16 + i))) 16 := sumN_sp (g := fun p => g (32 * r + p))
  have z1 : sumN (fun i => g (32 * r + (16 + i))) 16 = 0 := sumN_0 (fun i hi => h0 _ (by omega) (by omega))
  have e1 : sumN (fun p => g (32 * r + p)) 32 = _ := e1
  rw [e1, z1, Nat.add_zero]
  refine sumN_cg (fun i hi => ?_)
  congr 1
  unfold q_bl
  omega
theorem sum_bl {g : Nat → Nat} (h0 : ∀ b, b < 128 → 16 ≤ b % 32 → g b = 0) : sumN g 128 = sumN (fun i => g (q_bl i)) 64 := by
  have e1 : sumN g (32 * 4) = sumN (fun r => sumN (fun p => g (32 * r + p)) 32) 4 := sumN_mu
  have e2 : sumN (fun i => g (q_bl i)) (16 * 4) = sumN (fun r => sumN (fun i => g (q_bl (16 * r + i))) 16) 4 := sumN_mu
  have e1 : sumN g 128 = _ := e1
  have e2 : sumN (fun i => g (q_bl i)) 64 = _ := e2
  rw [e1, e2]
  exact sumN_cg (fun r hr => sum_rg hr h0)
theorem cnt_ps {S : Nat → Nat} (h : ∀ k, k < 2304 → (∀ j, j < 28 → q_ps j ≠ k) → S k = 0) {b : Nat} : cntN S (b + 1) 2304 = cntN (fun k => S (q_ps k)) (b + 1) 28 := by
  refine sum_ps (g := fun i => if S i = b + 1 then 1 else 0) (fun k hk hq => ?_)
  rw [if_neg (by rw [h k hk hq]; omega)]
/-- the law's counts -/
theorem f_cnt {M : zM} {X : Nat} {T : Nat → Nat} (h : ∀ k, k < 28 → M X k = nI (T k)) (hT : ∀ k, k < 28 → T k < 2 ^ 30) {b lo hi : Nat} (hb : b < 2 ^ 30) (h1 : lo ≤ hi) (h2 : hi ≤ 28) : fL_count X (nI b) (nI lo) (nI hi) M = some (nI (cntN (fun k => T (lo + k)) (b + 1) (hi - lo))) := by
  unfold fL_count
  rw [z_loopS (f := fun s : Int32 × Int32 => fL_count_L1 X (nI b) (nI hi) M s.1 s.2) (fun k => if T (lo + k) = b + 1 then 1 else 0) lo (hi - lo) (by omega) (s := (0, nI lo)) rfl (fun i x hi9 => by
    have q := h (lo + i) (by omega)
    have q2 := hT (lo + i) (by omega)
    by_cases c : T (lo + i) = b + 1
    · simp (disch := first | omega | assumption) only [l_0, l_1, l_2, l_3, l_4, l_5, l_6, l_7, l_8, l_11, l_12, l_15, l_16, l_31, l_32, l_66, l_80, l_100, l_127, l_128, l_768, l_2304, l_2310, l_2316, l_2388, l_2394, l_2406, l_2418, l_2430, l_2558, l_2686, l_2814, l_2942, l_3070, l_3390, l_3394, l_3395, l_3396, l_3397, n_leT, n_leF, n_ltT, n_ltF, n_eqT, n_eqF, nI_add, pk_mul, n_sub, z_ldn, z_san, z_bs, z_b2s, z_b3s, z_ocN, z_ocS, z_oxL, z_oxR, z_scL, z_scR, ↓reduceIte, Nat.zero_add, Nat.add_zero, Nat.zero_lt_succ, true_and, and_true, eq_self, fL_count_L1, q, c]
    · simp (disch := first | omega | assumption) only [l_0, l_1, l_2, l_3, l_4, l_5, l_6, l_7, l_8, l_11, l_12, l_15, l_16, l_31, l_32, l_66, l_80, l_100, l_127, l_128, l_768, l_2304, l_2310, l_2316, l_2388, l_2394, l_2406, l_2418, l_2430, l_2558, l_2686, l_2814, l_2942, l_3070, l_3390, l_3394, l_3395, l_3396, l_3397, n_leT, n_leF, n_ltT, n_ltF, n_eqT, n_eqF, nI_add, pk_mul, n_sub, z_ldn, z_san, z_bs, z_b2s, z_b3s, z_ocN, z_ocS, z_oxL, z_oxR, z_scL, z_scR, ↓reduceIte, Nat.zero_add, Nat.add_zero, Nat.zero_lt_succ, true_and, and_true, eq_self, fL_count_L1, q, if_neg c]) (fun x => by
    have e : lo + (hi - lo) = hi := by omega
    simp (disch := first | omega | assumption) only [l_0, l_1, l_2, l_3, l_4, l_5, l_6, l_7, l_8, l_11, l_12, l_15, l_16, l_31, l_32, l_66, l_80, l_100, l_127, l_128, l_768, l_2304, l_2310, l_2316, l_2388, l_2394, l_2406, l_2418, l_2430, l_2558, l_2686, l_2814, l_2942, l_3070, l_3390, l_3394, l_3395, l_3396, l_3397, n_leT, n_leF, n_ltT, n_ltF, n_eqT, n_eqF, nI_add, pk_mul, n_sub, z_ldn, z_san, z_bs, z_b2s, z_b3s, z_ocN, z_ocS, z_oxL, z_oxR, z_scL, z_scR, ↓reduceIte, Nat.zero_add, Nat.add_zero, Nat.zero_lt_succ, true_and, and_true, eq_self, fL_count_L1, e])]
  rfl
