/-! ===== the law's next ===== -/
/-- block i is allocated or pending -/
def q_us (S : Nat → Nat) (i : Nat) : Nat := if S (2686 + q_bl i) = 0 ∧ S (2814 + q_bl i) = 0 then 0 else 1
/-- so many of a region's blocks are in use -/
def q_G (S : Nat → Nat) (r : Nat) : Nat := sumN (fun j => q_us S (16 * r + j)) 16
theorem us_1 {S : Nat → Nat} {i : Nat} : q_us S i ≤ 1 := by
  unfold q_us
  split <;> omega
theorem sta_us {S : Nat → Nat} {i : Nat} : z_sta S (q_bl i) = 0 ↔ q_us S i = 0 := by
  unfold z_sta q_us
  by_cases c1 : S (2814 + q_bl i) = 0
  · by_cases c2 : S (2686 + q_bl i) = 0
    · rw [if_neg (fun x => x c1), if_neg (fun x => x c2), if_pos ⟨c2, c1⟩]
    · rw [if_neg (fun x => x c1), if_pos c2, if_neg (fun x => c2 x.1)]
      exact ⟨fun x => absurd x (by decide), fun x => absurd x (by decide)⟩
  · rw [if_pos c1, if_neg (fun x => c1 x.2)]
theorem G_16 {S : Nat → Nat} {r : Nat} : q_G S r ≤ 16 := by
  have := sumN_le (g := fun j => q_us S (16 * r + j)) (c := 1) (n := 16) (fun i _ => us_1)
  unfold q_G
  omega
theorem sum_rv {f : Nat → Nat} : sumN (fun t => f (15 - t)) 16 = sumN f 16 := by
  have e1 : sumN (fun t => f (15 - t)) 16 = 0 + f 15 + f 14 + f 13 + f 12 + f 11 + f 10 + f 9 + f 8 + f 7 + f 6 + f 5 + f 4 + f 3 + f 2 + f 1 + f 0 := rfl
  have e2 : sumN f 16 = 0 + f 0 + f 1 + f 2 + f 3 + f 4 + f 5 + f 6 + f 7 + f 8 + f 9 + f 10 + f 11 + f 12 + f 13 + f 14 + f 15 := rfl
  omega
/-- the free blocks of a region, as the class counts them -/
theorem gF_G {S : Nat → Nat} (hr : ∀ b, b < 128 → 16 ≤ b % 32 → S (2814 + b) = 0 ∧ S (2686 + b) = 0) {r : Nat} (h : r < 4) : gF S r + q_G S r = 32 := by
  have e1 : sumN (fun p => if z_sta S (32 * r + p) = 0 then 0 else 1) 32 = sumN (fun i => if z_sta S (q_bl (16 * r + i)) = 0 then 0 else 1) 16 := sum_rg (g := fun b => if z_sta S b = 0 then 0 else 1) h (fun b hb hq => by
    have := hr b hb hq
    rw [if_pos]
    unfold z_sta
    rw [if_neg (fun x => x this.1), if_neg (fun x => x this.2)])
  have e2 : sumN (fun i => if z_sta S (q_bl (16 * r + i)) = 0 then 0 else 1) 16 = q_G S r := sumN_cg (fun i hi => by
    by_cases c : q_us S (16 * r + i) = 0
    · rw [if_pos (sta_us.mpr c), c]
    · rw [if_neg (fun x => c (sta_us.mp x))]
      have := us_1 (S := S) (i := 16 * r + i)
      omega)
  have e3 : sumN (fun j => (if z_sta S (32 * r + j) = 0 then 1 else 0) + (if z_sta S (32 * r + j) = 0 then 0 else 1)) 32 = sumN (fun j => if z_sta S (32 * r + j) = 0 then 1 else 0) 32 + sumN (fun p => if z_sta S (32 * r + p) = 0 then 0 else 1) 32 := sumN_add
  have e4 : sumN (fun j => (if z_sta S (32 * r + j) = 0 then 1 else 0) + (if z_sta S (32 * r + j) = 0 then 0 else 1)) 32 = sumN (fun _ => 1) 32 := sumN_cg (fun i hi => by split <;> rfl)
  have e5 : sumN (fun _ => 1) 32 = 32 := rfl
  unfold gF
  omega
/-- the lowest free place of a region, j of them seen from above -/
def q_F (S : Nat → Nat) (r : Nat) : Nat → Int32
  | 0 => -nI 1
  | j + 1 => if q_us S (16 * r + 15 - j) = 0 then nI (16 * r + 15 - j) else q_F S r j
theorem F_low {S : Nat → Nat} {r w : Nat} (hw : w < 16) (h0 : q_us S (16 * r + w) = 0) (h1 : ∀ v, v < w → q_us S (16 * r + v) ≠ 0) : ∀ k, k ≤ w → q_F S r (16 - w + k) = nI (16 * r + w) := by
  intro k
  induction k with
  | zero =>
    intro _
    show q_F S r (16 - w) = _
    rw [show 16 - w = (15 - w) + 1 by omega]
    show (if q_us S (16 * r + 15 - (15 - w)) = 0 then nI (16 * r + 15 - (15 - w)) else q_F S r (15 - w)) = _
    rw [show 16 * r + 15 - (15 - w) = 16 * r + w by omega, if_pos h0]
  | succ k ih =>
    intro hk
    show (if q_us S (16 * r + 15 - (16 - w + k)) = 0 then _ else q_F S r (16 - w + k)) = _
    rw [if_neg (by rw [show 16 * r + 15 - (16 - w + k) = 16 * r + (w - 1 - k) by omega]; exact h1 _ (by omega)), ih (by omega)]
def q_dn (r j : Nat) : Int32 := if j ≤ 16 * r + 15 then nI (16 * r + 15 - j) else -nI 1
theorem n_am1 {a : Nat} (h : 1 ≤ a) : nI a + -nI 1 = nI (a - 1) := by
  rw [← Int32.sub_eq_add_neg]
  exact pk_sub h
theorem dn_s {r j : Nat} (hj : j < 16) : q_dn r j + -nI 1 = q_dn r (j + 1) := by
  unfold q_dn
  rw [if_pos (by omega)]
  by_cases c : j + 1 ≤ 16 * r + 15
  · rw [if_pos c, n_am1 (by omega)]
    exact congrArg nI (by omega)
  · rw [if_neg c, show 16 * r + 15 - j = 0 by omega]
    decide
theorem n_mlt {a : Nat} (h : a < 2 ^ 31) : (-nI 1 < nI a) = True := eq_true (Int32.lt_of_lt_of_le (show -nI 1 < nI 0 by decide) ((nI_leI (by decide) h).mpr (Nat.zero_le a)))
theorem f_nx2 {M : zM} {B : Nat} {N : Nat → Int32} {S : Nat → Nat} (hB : L_b B M N S) {r : Nat} (hr : r < 4) : z_loop (fun s : Int32 × Int32 × Int32 => fL_next_L2 B M (nI r) s.1 s.2.1 s.2.2) z_FU (nI 0, -nI 1, nI 16 * nI r + nI 15) = some (nI (q_G S r), q_F S r 16) := by
  have e := z_loopC (f := fun s : Int32 × Int32 × Int32 => fL_next_L2 B M (nI r) s.1 s.2.1 s.2.2) (fun j => (nI (sumN (fun t => q_us S (16 * r + (15 - t))) j), q_F S r j, q_dn r j)) 16 (nI (q_G S r), q_F S r 16) (by decide) (fun j hj => by
    have hi : 16 * r + 15 - j < 64 := by omega
    have hB1 := hB _ hi
    have g62 := f_h62 hi hB1
    have g60 := f_h60 hi hB1
    have hd : q_dn r j = nI (16 * r + 15 - j) := if_pos (by omega)
    have hd2 := dn_s (r := r) hj
    rw [hd] at hd2
    have hs : sumN (fun t => q_us S (16 * r + (15 - t))) (j + 1) = sumN (fun t => q_us S (16 * r + (15 - t))) j + q_us S (16 * r + 15 - j) := by
      rw [show 16 * r + 15 - j = 16 * r + (15 - j) by omega]
      rfl
    have hF : q_F S r (j + 1) = if q_us S (16 * r + 15 - j) = 0 then nI (16 * r + 15 - j) else q_F S r j := rfl
    have hge : (nI (16 * r + 15 - j) < nI 16 * nI r) = False := by
      rw [pk_mul]
      exact n_ltF (by omega) (by omega) (by omega)
    have hl := sumN_le (g := fun t => q_us S (16 * r + (15 - t))) (c := 1) (n := j) (fun i _ => us_1)
    simp only [hs, hF, hd, ← hd2]
    by_cases c1 : S (2686 + q_bl (16 * r + 15 - j)) = 0
    · rw [if_pos c1] at g60
      by_cases c2 : S (2814 + q_bl (16 * r + 15 - j)) = 0
      · rw [if_pos c2] at g62
        have hu : q_us S (16 * r + 15 - j) = 0 := if_pos ⟨c1, c2⟩
        simp (disch := first | omega | assumption) only [l_0, l_1, l_2, l_3, l_4, l_5, l_6, l_7, l_8, l_11, l_12, l_15, l_16, l_31, l_32, l_66, l_80, l_100, l_127, l_128, l_768, l_2304, l_2310, l_2316, l_2388, l_2394, l_2406, l_2418, l_2430, l_2558, l_2686, l_2814, l_2942, l_3070, l_3390, l_3394, l_3395, l_3396, l_3397, n_leT, n_leF, n_ltT, n_ltF, n_eqT, n_eqF, nI_add, pk_mul, n_sub, z_ldn, z_san, z_bs, z_b2s, z_b3s, z_ocN, z_ocS, z_oxL, z_oxR, z_scL, z_scR, ↓reduceIte, Nat.zero_add, Nat.add_zero, Nat.zero_lt_succ, true_and, and_true, eq_self, n_div, n_mod, z_ldJn, z_saJn, f_blk, f_plc, l_9, l_10, l_13, l_14, l_17, l_18, l_19, l_20, l_21, l_22, l_24, l_28, l_60, l_61, l_62, l_64, l_98, l_99, fL_next_L2, hge, g60, g62, hu]
      · rw [if_neg c2] at g62
        have hu : q_us S (16 * r + 15 - j) = 1 := if_neg (fun x => c2 x.2)
        simp (disch := first | omega | assumption) only [l_0, l_1, l_2, l_3, l_4, l_5, l_6, l_7, l_8, l_11, l_12, l_15, l_16, l_31, l_32, l_66, l_80, l_100, l_127, l_128, l_768, l_2304, l_2310, l_2316, l_2388, l_2394, l_2406, l_2418, l_2430, l_2558, l_2686, l_2814, l_2942, l_3070, l_3390, l_3394, l_3395, l_3396, l_3397, n_leT, n_leF, n_ltT, n_ltF, n_eqT, n_eqF, nI_add, pk_mul, n_sub, z_ldn, z_san, z_bs, z_b2s, z_b3s, z_ocN, z_ocS, z_oxL, z_oxR, z_scL, z_scR, ↓reduceIte, Nat.zero_add, Nat.add_zero, Nat.zero_lt_succ, true_and, and_true, eq_self, n_div, n_mod, z_ldJn, z_saJn, f_blk, f_plc, l_9, l_10, l_13, l_14, l_17, l_18, l_19, l_20, l_21, l_22, l_24, l_28, l_60, l_61, l_62, l_64, l_98, l_99, fL_next_L2, hge, g60, g62, hu, if_neg Nat.one_ne_zero]
    · rw [if_neg c1] at g60
      have hu : q_us S (16 * r + 15 - j) = 1 := if_neg (fun x => c1 x.1)
      simp (disch := first | omega | assumption) only [l_0, l_1, l_2, l_3, l_4, l_5, l_6, l_7, l_8, l_11, l_12, l_15, l_16, l_31, l_32, l_66, l_80, l_100, l_127, l_128, l_768, l_2304, l_2310, l_2316, l_2388, l_2394, l_2406, l_2418, l_2430, l_2558, l_2686, l_2814, l_2942, l_3070, l_3390, l_3394, l_3395, l_3396, l_3397, n_leT, n_leF, n_ltT, n_ltF, n_eqT, n_eqF, nI_add, pk_mul, n_sub, z_ldn, z_san, z_bs, z_b2s, z_b3s, z_ocN, z_ocS, z_oxL, z_oxR, z_scL, z_scR, ↓reduceIte, Nat.zero_add, Nat.add_zero, Nat.zero_lt_succ, true_and, and_true, eq_self, n_div, n_mod, z_ldJn, z_saJn, f_blk, f_plc, l_9, l_10, l_13, l_14, l_17, l_18, l_19, l_20, l_21, l_22, l_24, l_28, l_60, l_61, l_62, l_64, l_98, l_99, fL_next_L2, hge, g60, hu, if_neg Nat.one_ne_zero]) (by
    have hd : (q_dn r 16 < nI (16 * r)) = True := by
      unfold q_dn
      by_cases c : 16 ≤ 16 * r + 15
      · rw [if_pos c]
        exact n_ltT (by omega) (by omega) (by omega)
      · rw [if_neg c]
        exact n_mlt (by omega)
    have hG : sumN (fun t => q_us S (16 * r + (15 - t))) 16 = q_G S r := sum_rv (f := fun j => q_us S (16 * r + j))
    simp only [hG]
    simp (disch := first | omega | assumption) only [l_0, l_1, l_2, l_3, l_4, l_5, l_6, l_7, l_8, l_11, l_12, l_15, l_16, l_31, l_32, l_66, l_80, l_100, l_127, l_128, l_768, l_2304, l_2310, l_2316, l_2388, l_2394, l_2406, l_2418, l_2430, l_2558, l_2686, l_2814, l_2942, l_3070, l_3390, l_3394, l_3395, l_3396, l_3397, n_leT, n_leF, n_ltT, n_ltF, n_eqT, n_eqF, nI_add, pk_mul, n_sub, z_ldn, z_san, z_bs, z_b2s, z_b3s, z_ocN, z_ocS, z_oxL, z_oxR, z_scL, z_scR, ↓reduceIte, Nat.zero_add, Nat.add_zero, Nat.zero_lt_succ, true_and, and_true, eq_self, n_div, n_mod, z_ldJn, z_saJn, f_blk, f_plc, l_9, l_10, l_13, l_14, l_17, l_18, l_19, l_20, l_21, l_22, l_24, l_28, l_60, l_61, l_62, l_64, l_98, l_99, fL_next_L2, hd])
  have h15 : nI 16 * nI r + nI 15 = q_dn r 0 := by
    unfold q_dn
    rw [pk_mul, nI_add, if_pos (by omega), Nat.sub_zero]
  rw [h15]
  exact e
def q_ls (S : Nat → Nat) : Nat → Nat
  | 0 => 99
  | r + 1 => if q_G S r < q_ls S r then q_G S r else q_ls S r
def q_bs (S : Nat → Nat) : Nat → Int32
  | 0 => -nI 1
  | r + 1 => if q_G S r < q_ls S r then q_F S r 16 else q_bs S r
theorem ls_99 {S : Nat → Nat} : ∀ {r : Nat}, q_ls S r ≤ 99
  | 0 => Nat.le_refl _
  | r + 1 => by
    show (if q_G S r < q_ls S r then q_G S r else q_ls S r) ≤ 99
    have := ls_99 (S := S) (r := r)
    split <;> omega
theorem f_nx1 {M : zM} {B : Nat} {N : Nat → Int32} {S : Nat → Nat} (hB : L_b B M N S) : fL_next B M = some (q_bs S 4) := by
  have e := z_loopC (f := fun s : Int32 × Int32 × Int32 => fL_next_L1 B M s.1 s.2.1 s.2.2) (fun r => (q_bs S r, nI (q_ls S r), nI r)) 4 (q_bs S 4) (by decide) (fun r hr => by
    have e2 := f_nx2 hB hr
    have h1 := G_16 (S := S) (r := r)
    have h2 := ls_99 (S := S) (r := r)
    have hb : q_bs S (r + 1) = if q_G S r < q_ls S r then q_F S r 16 else q_bs S r := rfl
    have hl : q_ls S (r + 1) = if q_G S r < q_ls S r then q_G S r else q_ls S r := rfl
    simp only [hb, hl]
    unfold fL_next_L1
    have h4 : ¬ (4 : Int32) ≤ nI r := fun x => by
      have := (nI_leI (a := 4) (b := r) (by decide) (by omega)).mp x
      omega
    rw [if_neg h4, show ((0 : Int32), (-1 : Int32), ((16 * nI r) + 15 : Int32)) = (nI 0, -nI 1, nI 16 * nI r + nI 15) from rfl, e2, z_b2s]
    by_cases c : q_G S r < q_ls S r
    · simp (disch := first | omega | assumption) only [l_0, l_1, l_2, l_3, l_4, l_5, l_6, l_7, l_8, l_11, l_12, l_15, l_16, l_31, l_32, l_66, l_80, l_100, l_127, l_128, l_768, l_2304, l_2310, l_2316, l_2388, l_2394, l_2406, l_2418, l_2430, l_2558, l_2686, l_2814, l_2942, l_3070, l_3390, l_3394, l_3395, l_3396, l_3397, n_leT, n_leF, n_ltT, n_ltF, n_eqT, n_eqF, nI_add, pk_mul, n_sub, z_ldn, z_san, z_bs, z_b2s, z_b3s, z_ocN, z_ocS, z_oxL, z_oxR, z_scL, z_scR, ↓reduceIte, Nat.zero_add, Nat.add_zero, Nat.zero_lt_succ, true_and, and_true, eq_self, n_div, n_mod, z_ldJn, z_saJn, f_blk, f_plc, l_9, l_10, l_13, l_14, l_17, l_18, l_19, l_20, l_21, l_22, l_24, l_28, l_60, l_61, l_62, l_64, l_98, l_99, if_pos c]
    · simp (disch := first | omega | assumption) only [l_0, l_1, l_2, l_3, l_4, l_5, l_6, l_7, l_8, l_11, l_12, l_15, l_16, l_31, l_32, l_66, l_80, l_100, l_127, l_128, l_768, l_2304, l_2310, l_2316, l_2388, l_2394, l_2406, l_2418, l_2430, l_2558, l_2686, l_2814, l_2942, l_3070, l_3390, l_3394, l_3395, l_3396, l_3397, n_leT, n_leF, n_ltT, n_ltF, n_eqT, n_eqF, nI_add, pk_mul, n_sub, z_ldn, z_san, z_bs, z_b2s, z_b3s, z_ocN, z_ocS, z_oxL, z_oxR, z_scL, z_scR, ↓reduceIte, Nat.zero_add, Nat.add_zero, Nat.zero_lt_succ, true_and, and_true, eq_self, n_div, n_mod, z_ldJn, z_saJn, f_blk, f_plc, l_9, l_10, l_13, l_14, l_17, l_18, l_19, l_20, l_21, l_22, l_24, l_28, l_60, l_61, l_62, l_64, l_98, l_99, if_neg c]) (by simp (disch := first | omega | assumption) only [l_0, l_1, l_2, l_3, l_4, l_5, l_6, l_7, l_8, l_11, l_12, l_15, l_16, l_31, l_32, l_66, l_80, l_100, l_127, l_128, l_768, l_2304, l_2310, l_2316, l_2388, l_2394, l_2406, l_2418, l_2430, l_2558, l_2686, l_2814, l_2942, l_3070, l_3390, l_3394, l_3395, l_3396, l_3397, n_leT, n_leF, n_ltT, n_ltF, n_eqT, n_eqF, nI_add, pk_mul, n_sub, z_ldn, z_san, z_bs, z_b2s, z_b3s, z_ocN, z_ocS, z_oxL, z_oxR, z_scL, z_scR, ↓reduceIte, Nat.zero_add, Nat.add_zero, Nat.zero_lt_succ, true_and, and_true, eq_self, n_div, n_mod, z_ldJn, z_saJn, f_blk, f_plc, l_9, l_10, l_13, l_14, l_17, l_18, l_19, l_20, l_21, l_22, l_24, l_28, l_60, l_61, l_62, l_64, l_98, l_99, fL_next_L1])
  unfold fL_next
  rw [show z_loop (fun s : Int32 × Int32 × Int32 => fL_next_L1 B M s.1 s.2.1 s.2.2) z_FU (-1, 99, 0) = _ from e]
  rfl
/-- the block that the law takes is the class's -/
theorem f_next {M : zM} {B : Nat} {N : Nat → Int32} {S : Nat → Nat} (hB : L_b B M N S) (hr : ∀ b, b < 128 → 16 ≤ b % 32 → S (2814 + b) = 0 ∧ S (2686 + b) = 0) {w : Nat} (hw : w < 16) (h0 : q_us S (16 * bR (gF S) 3 + w) = 0) (h1 : ∀ v, v < w → q_us S (16 * bR (gF S) 3 + v) ≠ 0) : fL_next B M = some (nI (16 * bR (gF S) 3 + w)) := by
  rw [f_nx1 hB]
  have a0 := gF_G hr (r := 0) (by decide)
  have inv : ∀ r, r < 4 → q_ls S (r + 1) = q_G S (bR (gF S) r) ∧ q_bs S (r + 1) = q_F S (bR (gF S) r) 16 := by
    intro r
    induction r with
    | zero =>
      intro _
      have h := G_16 (S := S) (r := 0)
      have c : q_G S 0 < q_ls S 0 := by
        show _ < 99
        omega
      exact ⟨if_pos c, if_pos c⟩
    | succ r ih =>
      intro hr4
      obtain ⟨i1, i2⟩ := ih (by omega)
      have hb := bR_le (g := gF S) (i := r)
      have a1 := gF_G hr (r := r + 1) hr4
      have a2 := gF_G hr (r := bR (gF S) r) (by omega)
      have e1 : q_ls S (r + 1 + 1) = if q_G S (r + 1) < q_ls S (r + 1) then q_G S (r + 1) else q_ls S (r + 1) := rfl
      have e2 : q_bs S (r + 1 + 1) = if q_G S (r + 1) < q_ls S (r + 1) then q_F S (r + 1) 16 else q_bs S (r + 1) := rfl
      rw [e1, e2, i1, i2]
      by_cases c : q_G S (r + 1) < q_G S (bR (gF S) r)
      · have hbr : bR (gF S) (r + 1) = r + 1 := if_neg (by omega)
        rw [if_pos c, if_pos c, hbr]
        exact ⟨rfl, rfl⟩
      · have hbr : bR (gF S) (r + 1) = bR (gF S) r := if_pos (by omega)
        rw [if_neg c, if_neg c, hbr]
        exact ⟨rfl, rfl⟩
  rw [(inv 3 (by decide)).2]
  have := F_low hw h0 h1 w (Nat.le_refl _)
  rw [show 16 - w + w = 16 by omega] at this
  rw [this]
