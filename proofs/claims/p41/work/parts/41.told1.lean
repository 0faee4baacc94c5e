/-! ===== what the law asks of the class: values, blocks of tables ===== -/
theorem blk_of {n : Nat} {S : Nat → Nat} (hI : z_I n S) (hs : q_sm S) {k : Nat} (hk : k < 2304) (h : S k ≠ 0) : ∃ i, i < 64 ∧ S k = q_bl i + 1 := by
  have h1 := I_tab hI k hk
  have h2 := I_ref hI (S k - 1) (by omega)
  have h3 : cntN S (S k - 1 + 1) 2304 ≠ 0 := cntN_pos.mpr ⟨k, hk, by omega⟩
  have h4 : ¬ 16 ≤ (S k - 1) % 32 := fun c => by
    have := (hs.2.2.2 (S k - 1) (by omega) c).1
    omega
  refine ⟨(S k - 1) / 32 * 16 + (S k - 1) % 32, by omega, ?_⟩
  unfold q_bl
  omega
theorem f_value {M : zM} {B : Nat} {N : Nat → Int32} {S : Nat → Nat} (hB : L_b B M N S) {x : Nat} (hx : x ≠ 0 → ∃ i, i < 64 ∧ x = q_bl i + 1) : fL_value B (nI x) M = some (z_val N x) := by
  by_cases c : x = 0
  · subst c
    rfl
  · obtain ⟨i, hi, rfl⟩ := hx c
    have hb := bl_128 hi
    have e : z_val N (q_bl i + 1) = N (2430 + q_bl i) := if_neg (by omega)
    rw [e]
    unfold fL_value
    simp (disch := first | omega | assumption) only [l_0, l_1, l_2, l_3, l_4, l_5, l_6, l_7, l_8, l_11, l_12, l_15, l_16, l_31, l_32, l_66, l_80, l_100, l_127, l_128, l_768, l_2304, l_2310, l_2316, l_2388, l_2394, l_2406, l_2418, l_2430, l_2558, l_2686, l_2814, l_2942, l_3070, l_3390, l_3394, l_3395, l_3396, l_3397, n_leT, n_leF, n_ltT, n_ltF, n_eqT, n_eqF, nI_add, pk_mul, n_sub, z_ldn, z_san, z_bs, z_b2s, z_b3s, z_ocN, z_ocS, z_oxL, z_oxR, z_scL, z_scR, ↓reduceIte, Nat.zero_add, Nat.add_zero, Nat.zero_lt_succ, true_and, and_true, eq_self, n_div, n_mod, z_ldJn, z_saJn, f_blk, f_plc, l_9, l_10, l_13, l_14, l_17, l_18, l_19, l_20, l_21, l_22, l_24, l_28, l_60, l_61, l_62, l_64, l_98, l_99, show q_bl i + 1 - 1 = q_bl i by omega, (hB i hi).1, e_val]
/-- blocks of a table's first n places, of those that are P -/
def q_D (t : Nat → Nat) (P : Nat → Prop) [DecidablePred P] (n : Nat) : Nat := sumN (fun b => if cntN t (b + 1) n ≠ 0 ∧ P b then 1 else 0) 128
theorem cntN_s {t : Nat → Nat} {x n : Nat} : cntN t x (n + 1) = cntN t x n + (if t n = x then 1 else 0) := rfl
theorem D_s {t : Nat → Nat} {P : Nat → Prop} [DecidablePred P] {n : Nat} (h : t n ≤ 128) : q_D t P (n + 1) = q_D t P n + (if t n ≠ 0 ∧ cntN t (t n) n = 0 ∧ P (t n - 1) then 1 else 0) := by
  unfold q_D
  by_cases c : t n = 0
  · have e0 : (if t n ≠ 0 ∧ cntN t (t n) n = 0 ∧ P (t n - 1) then 1 else 0) = 0 := if_neg (fun x => x.1 c)
    have e : (fun b => if cntN t (b + 1) (n + 1) ≠ 0 ∧ P b then 1 else 0) = fun b => if cntN t (b + 1) n ≠ 0 ∧ P b then 1 else 0 := funext (fun b => by
      have e2 : cntN t (b + 1) (n + 1) = cntN t (b + 1) n := by
        rw [cntN_s, if_neg (by omega), Nat.add_zero]
      rw [e2])
    have e3 := congrArg (fun f => sumN f 128) e
    have e3 : sumN (fun b => if cntN t (b + 1) (n + 1) ≠ 0 ∧ P b then 1 else 0) 128 = sumN (fun b => if cntN t (b + 1) n ≠ 0 ∧ P b then 1 else 0) 128 := e3
    omega
  · have hch := sumN_ch (g := fun b => if cntN t (b + 1) n ≠ 0 ∧ P b then 1 else 0) (g' := fun b => if cntN t (b + 1) (n + 1) ≠ 0 ∧ P b then 1 else 0) (k := t n - 1) (n := 128) (by omega) (fun b hb hne => by
      have e2 : cntN t (b + 1) (n + 1) = cntN t (b + 1) n := by
        rw [cntN_s, if_neg (by omega), Nat.add_zero]
      show (if cntN t (b + 1) (n + 1) ≠ 0 ∧ P b then 1 else 0) = (if cntN t (b + 1) n ≠ 0 ∧ P b then 1 else 0)
      rw [e2])
    have e : t n - 1 + 1 = t n := by omega
    have e1 : cntN t (t n) (n + 1) = cntN t (t n) n + 1 := by rw [cntN_s, if_pos rfl]
    have hch : sumN (fun b => if cntN t (b + 1) (n + 1) ≠ 0 ∧ P b then 1 else 0) 128 + (if cntN t (t n - 1 + 1) n ≠ 0 ∧ P (t n - 1) then 1 else 0) = sumN (fun b => if cntN t (b + 1) n ≠ 0 ∧ P b then 1 else 0) 128 + (if cntN t (t n - 1 + 1) (n + 1) ≠ 0 ∧ P (t n - 1) then 1 else 0) := hch
    rw [e, e1] at hch
    by_cases p : P (t n - 1)
    · by_cases z : cntN t (t n) n = 0
      · rw [if_neg (fun x => x.1 z), if_pos ⟨by omega, p⟩] at hch
        rw [if_pos ⟨c, z, p⟩]
        omega
      · rw [if_pos ⟨z, p⟩, if_pos ⟨by omega, p⟩] at hch
        rw [if_neg (fun x => z x.2.1)]
        omega
    · rw [if_neg (fun x => p x.2), if_neg (fun x => p x.2)] at hch
      rw [if_neg (fun x => p x.2.2)]
      omega
theorem D_0 {t : Nat → Nat} {P : Nat → Prop} [DecidablePred P] : q_D t P 0 = 0 := sumN_0 (fun b hb => if_neg (fun x => x.1 rfl))
theorem D_sum {t : Nat → Nat} {P : Nat → Prop} [DecidablePred P] : ∀ {n : Nat}, (∀ j, j < n → t j ≤ 128) → q_D t P n = sumN (fun j => if t j ≠ 0 ∧ cntN t (t j) j = 0 ∧ P (t j - 1) then 1 else 0) n
  | 0, _ => D_0
  | n + 1, h => by
    rw [D_s (h n (by omega)), D_sum (fun j hj => h j (by omega))]
    rfl
/-- the law's four places from lo on -/
abbrev q_t (S : Nat → Nat) (lo : Nat) : Nat → Nat := fun j => S (q_ps (lo + j))
abbrev q_al (S : Nat → Nat) (lo al : Nat) : Nat → Prop := fun b => al = 0 ∨ cntN (fun k => S (q_ps k)) (b + 1) 28 = cntN (q_t S lo) (b + 1) 4
theorem f_blocks {M : zM} {X : Nat} {S : Nat → Nat} (h : L_x X M S) (hT : ∀ k, k < 2304 → S k ≤ 128) {lo al : Nat} (hlo : lo ≤ 24) (hal : al ≤ 1) : fL_blocks X (nI lo) (nI al) M = some (nI (q_D (q_t S lo) (q_al S lo al) 4)) := by
  have hT1 : ∀ k, k < 28 → S (q_ps k) ≤ 128 := fun k hk => hT _ (ps_2304 hk)
  rw [D_sum (fun j hj => hT1 _ (by omega))]
  unfold fL_blocks
  rw [z_loopS (f := fun s : Int32 × Int32 => fL_blocks_L1 X (nI lo) (nI al) M s.1 s.2) (fun j => if q_t S lo j ≠ 0 ∧ cntN (q_t S lo) (q_t S lo j) j = 0 ∧ q_al S lo al (q_t S lo j - 1) then 1 else 0) lo 4 (by omega) (s := (0, nI lo)) rfl (fun i x hi => by
    have q := h (lo + i) (by omega)
    have q2 := hT1 (lo + i) (by omega)
    have cnt : ∀ {a b : Nat}, a ≤ b → b ≤ 28 → S (q_ps (lo + i)) ≠ 0 → fL_count X (nI (S (q_ps (lo + i)) - 1)) (nI a) (nI b) M = some (nI (cntN (fun k => S (q_ps (a + k))) (S (q_ps (lo + i))) (b - a))) := fun {a b} ha hb hc => by
      have := f_cnt (T := fun k => S (q_ps k)) h (fun k hk => by have := hT1 k hk; show S (q_ps k) < _; omega) (b := S (q_ps (lo + i)) - 1) (lo := a) (hi := b) (by omega) ha hb
      rw [Nat.sub_add_cancel (by omega)] at this
      exact this
    by_cases c0 : S (q_ps (lo + i)) = 0
    · rw [if_neg (fun x => x.1 c0)]
      simp (disch := first | omega | assumption) only [l_0, l_1, l_2, l_3, l_4, l_5, l_6, l_7, l_8, l_11, l_12, l_15, l_16, l_31, l_32, l_66, l_80, l_100, l_127, l_128, l_768, l_2304, l_2310, l_2316, l_2388, l_2394, l_2406, l_2418, l_2430, l_2558, l_2686, l_2814, l_2942, l_3070, l_3390, l_3394, l_3395, l_3396, l_3397, n_leT, n_leF, n_ltT, n_ltF, n_eqT, n_eqF, nI_add, pk_mul, n_sub, z_ldn, z_san, z_bs, z_b2s, z_b3s, z_ocN, z_ocS, z_oxL, z_oxR, z_scL, z_scR, ↓reduceIte, Nat.zero_add, Nat.add_zero, Nat.zero_lt_succ, true_and, and_true, eq_self, n_div, n_mod, z_ldJn, z_saJn, f_blk, f_plc, l_9, l_10, l_13, l_14, l_17, l_18, l_19, l_20, l_21, l_22, l_24, l_28, l_60, l_61, l_62, l_64, l_98, l_99, fL_blocks_L1, q, c0]
    · have u1 := cnt (a := lo) (b := lo + i) (by omega) (by omega) c0
      rw [Nat.add_sub_cancel_left] at u1
      have l1 : cntN (q_t S lo) (S (q_ps (lo + i))) i ≤ i := cntN_le
      have u1 : fL_count X (nI (S (q_ps (lo + i)) - 1)) (nI lo) (nI (lo + i)) M = some (nI (cntN (q_t S lo) (S (q_ps (lo + i))) i)) := u1
      by_cases c1 : cntN (q_t S lo) (S (q_ps (lo + i))) i = 0
      · rw [c1] at u1
        by_cases c2 : al = 0
        · rw [if_pos ⟨c0, c1, Or.inl c2⟩]
          subst c2
          simp (disch := first | omega | assumption) only [l_0, l_1, l_2, l_3, l_4, l_5, l_6, l_7, l_8, l_11, l_12, l_15, l_16, l_31, l_32, l_66, l_80, l_100, l_127, l_128, l_768, l_2304, l_2310, l_2316, l_2388, l_2394, l_2406, l_2418, l_2430, l_2558, l_2686, l_2814, l_2942, l_3070, l_3390, l_3394, l_3395, l_3396, l_3397, n_leT, n_leF, n_ltT, n_ltF, n_eqT, n_eqF, nI_add, pk_mul, n_sub, z_ldn, z_san, z_bs, z_b2s, z_b3s, z_ocN, z_ocS, z_oxL, z_oxR, z_scL, z_scR, ↓reduceIte, Nat.zero_add, Nat.add_zero, Nat.zero_lt_succ, true_and, and_true, eq_self, n_div, n_mod, z_ldJn, z_saJn, f_blk, f_plc, l_9, l_10, l_13, l_14, l_17, l_18, l_19, l_20, l_21, l_22, l_24, l_28, l_60, l_61, l_62, l_64, l_98, l_99, fL_blocks_L1, q, u1]
        · have ea : al = 1 := by omega
          subst ea
          have u2 := cnt (a := 0) (b := 28) (by omega) (by omega) c0
          have u3 := cnt (a := lo) (b := lo + 4) (by omega) (by omega) c0
          rw [Nat.add_sub_cancel_left] at u3
          have u2 : fL_count X (nI (S (q_ps (lo + i)) - 1)) (nI 0) (nI 28) M = some (nI (cntN (fun k => S (q_ps k)) (S (q_ps (lo + i))) 28)) := by
            rw [u2]
            congr 3
            funext k
            rw [Nat.zero_add]
          have u3 : fL_count X (nI (S (q_ps (lo + i)) - 1)) (nI lo) (nI (lo + 4)) M = some (nI (cntN (q_t S lo) (S (q_ps (lo + i))) 4)) := u3
          have l2 : cntN (fun k => S (q_ps k)) (S (q_ps (lo + i))) 28 ≤ 28 := cntN_le
          have l3 : cntN (q_t S lo) (S (q_ps (lo + i))) 4 ≤ 4 := cntN_le
          obtain ⟨C2, hC2⟩ : ∃ C2, C2 = cntN (fun k => S (q_ps k)) (S (q_ps (lo + i))) 28 := ⟨_, rfl⟩
          obtain ⟨C3, hC3⟩ : ∃ C3, C3 = cntN (q_t S lo) (S (q_ps (lo + i))) 4 := ⟨_, rfl⟩
          rw [← hC2] at u2 l2
          rw [← hC3] at u3 l3
          by_cases c3 : C2 = C3
          · rw [if_pos ⟨c0, c1, Or.inr (by rw [Nat.sub_add_cancel (by show 1 ≤ S (q_ps (lo + i)); omega)]; rw [← hC2, ← hC3]; exact c3)⟩]
            simp (disch := first | omega | assumption) only [l_0, l_1, l_2, l_3, l_4, l_5, l_6, l_7, l_8, l_11, l_12, l_15, l_16, l_31, l_32, l_66, l_80, l_100, l_127, l_128, l_768, l_2304, l_2310, l_2316, l_2388, l_2394, l_2406, l_2418, l_2430, l_2558, l_2686, l_2814, l_2942, l_3070, l_3390, l_3394, l_3395, l_3396, l_3397, n_leT, n_leF, n_ltT, n_ltF, n_eqT, n_eqF, nI_add, pk_mul, n_sub, z_ldn, z_san, z_bs, z_b2s, z_b3s, z_ocN, z_ocS, z_oxL, z_oxR, z_scL, z_scR, ↓reduceIte, Nat.zero_add, Nat.add_zero, Nat.zero_lt_succ, true_and, and_true, eq_self, n_div, n_mod, z_ldJn, z_saJn, f_blk, f_plc, l_9, l_10, l_13, l_14, l_17, l_18, l_19, l_20, l_21, l_22, l_24, l_28, l_60, l_61, l_62, l_64, l_98, l_99, fL_blocks_L1, q, u1, u2, u3, c3]
          · rw [if_neg (fun x => by
              rcases x.2.2 with y | y
              · exact absurd y (by decide)
              · rw [Nat.sub_add_cancel (by show 1 ≤ S (q_ps (lo + i)); omega)] at y
                rw [← hC2, ← hC3] at y
                exact c3 y)]
            simp (disch := first | omega | assumption) only [l_0, l_1, l_2, l_3, l_4, l_5, l_6, l_7, l_8, l_11, l_12, l_15, l_16, l_31, l_32, l_66, l_80, l_100, l_127, l_128, l_768, l_2304, l_2310, l_2316, l_2388, l_2394, l_2406, l_2418, l_2430, l_2558, l_2686, l_2814, l_2942, l_3070, l_3390, l_3394, l_3395, l_3396, l_3397, n_leT, n_leF, n_ltT, n_ltF, n_eqT, n_eqF, nI_add, pk_mul, n_sub, z_ldn, z_san, z_bs, z_b2s, z_b3s, z_ocN, z_ocS, z_oxL, z_oxR, z_scL, z_scR, ↓reduceIte, Nat.zero_add, Nat.add_zero, Nat.zero_lt_succ, true_and, and_true, eq_self, n_div, n_mod, z_ldJn, z_saJn, f_blk, f_plc, l_9, l_10, l_13, l_14, l_17, l_18, l_19, l_20, l_21, l_22, l_24, l_28, l_60, l_61, l_62, l_64, l_98, l_99, fL_blocks_L1, q, u1, u2, u3, if_neg c3]
      · rw [if_neg (fun x => c1 x.2.1)]
        obtain ⟨C1, hC1⟩ : ∃ C1, C1 = cntN (q_t S lo) (S (q_ps (lo + i))) i := ⟨_, rfl⟩
        rw [← hC1] at u1 l1 c1
        simp (disch := first | omega | assumption) only [l_0, l_1, l_2, l_3, l_4, l_5, l_6, l_7, l_8, l_11, l_12, l_15, l_16, l_31, l_32, l_66, l_80, l_100, l_127, l_128, l_768, l_2304, l_2310, l_2316, l_2388, l_2394, l_2406, l_2418, l_2430, l_2558, l_2686, l_2814, l_2942, l_3070, l_3390, l_3394, l_3395, l_3396, l_3397, n_leT, n_leF, n_ltT, n_ltF, n_eqT, n_eqF, nI_add, pk_mul, n_sub, z_ldn, z_san, z_bs, z_b2s, z_b3s, z_ocN, z_ocS, z_oxL, z_oxR, z_scL, z_scR, ↓reduceIte, Nat.zero_add, Nat.add_zero, Nat.zero_lt_succ, true_and, and_true, eq_self, n_div, n_mod, z_ldJn, z_saJn, f_blk, f_plc, l_9, l_10, l_13, l_14, l_17, l_18, l_19, l_20, l_21, l_22, l_24, l_28, l_60, l_61, l_62, l_64, l_98, l_99, fL_blocks_L1, q, u1, if_neg c1]) (fun x => by
    simp (disch := first | omega | assumption) only [l_0, l_1, l_2, l_3, l_4, l_5, l_6, l_7, l_8, l_11, l_12, l_15, l_16, l_31, l_32, l_66, l_80, l_100, l_127, l_128, l_768, l_2304, l_2310, l_2316, l_2388, l_2394, l_2406, l_2418, l_2430, l_2558, l_2686, l_2814, l_2942, l_3070, l_3390, l_3394, l_3395, l_3396, l_3397, n_leT, n_leF, n_ltT, n_ltF, n_eqT, n_eqF, nI_add, pk_mul, n_sub, z_ldn, z_san, z_bs, z_b2s, z_b3s, z_ocN, z_ocS, z_oxL, z_oxR, z_scL, z_scR, ↓reduceIte, Nat.zero_add, Nat.add_zero, Nat.zero_lt_succ, true_and, and_true, eq_self, n_div, n_mod, z_ldJn, z_saJn, f_blk, f_plc, l_9, l_10, l_13, l_14, l_17, l_18, l_19, l_20, l_21, l_22, l_24, l_28, l_60, l_61, l_62, l_64, l_98, l_99, fL_blocks_L1])]
  rfl
/-- in a table of the class -/
theorem in1_4 {S : Nat → Nat} {κ lo b : Nat} (h : ∀ j, j < 4 → q_ps (lo + j) = κ + q_pl j) (h0 : ∀ p, p < 128 → (∀ j, j < 4 → q_pl j ≠ p) → S (κ + p) = 0) : z_in1 S κ b = cntN (q_t S lo) (b + 1) 4 := by
  unfold z_in1 cntN
  rw [sum_128 (h := fun p => if S (κ + p) = b + 1 then 1 else 0) (fun p hp hq => by
    show (if S (κ + p) = b + 1 then 1 else 0) = 0
    rw [h0 p hp hq, if_neg (by omega)])]
  refine sumN_cg (fun j hj => ?_)
  show _ = if S (q_ps (lo + j)) = b + 1 then 1 else 0
  rw [h j hj]
theorem D_ref {S : Nat → Nat} {κ lo : Nat} (h : ∀ j, j < 4 → q_ps (lo + j) = κ + q_pl j) (h0 : ∀ p, p < 128 → (∀ j, j < 4 → q_pl j ≠ p) → S (κ + p) = 0) : sumN (fun b => if z_in1 S κ b = 0 then 0 else 1) 128 = q_D (q_t S lo) (q_al S lo 0) 4 := by
  refine sumN_cg (fun b hb => ?_)
  rw [in1_4 h h0]
  by_cases c : cntN (q_t S lo) (b + 1) 4 = 0
  · rw [if_pos c, if_neg (fun x => x.1 c)]
  · rw [if_neg c, if_pos ⟨c, Or.inl rfl⟩]
theorem D_unq {n : Nat} {S : Nat → Nat} (hI : z_I n S) (hs : q_sm S) {κ lo : Nat} (h : ∀ j, j < 4 → q_ps (lo + j) = κ + q_pl j) (h0 : ∀ p, p < 128 → (∀ j, j < 4 → q_pl j ≠ p) → S (κ + p) = 0) : sumN (fun b => if z_in1 S κ b = 0 then 0 else if z_in1 S κ b = S (2814 + b) then 1 else 0) 128 = q_D (q_t S lo) (q_al S lo 1) 4 := by
  refine sumN_cg (fun b hb => ?_)
  rw [in1_4 h h0, I_ref hI b hb, cnt_ps hs.1]
  by_cases c : cntN (q_t S lo) (b + 1) 4 = 0
  · rw [if_pos c, if_neg (fun x => x.1 c)]
  · rw [if_neg c]
    by_cases c2 : cntN (q_t S lo) (b + 1) 4 = cntN (fun k => S (q_ps k)) (b + 1) 28
    · rw [if_pos c2, if_pos ⟨c, Or.inr c2.symm⟩]
    · rw [if_neg c2, if_neg (fun x => by
        rcases x.2 with y | y
        · exact absurd y (by decide)
        · exact c2 y.symm)]
/-- off a dataset's, a snapshot's places -/
theorem off_d {S : Nat → Nat} (hs : q_sm S) {d : Nat} (hd : d < 3) : ∀ p, p < 128 → (∀ j, j < 4 → q_pl j ≠ p) → S (128 * d + p) = 0 := fun p hp hq => hs.1 _ (by omega) (fun k hk e => by
  have h4 := pl_128 (k := k % 4) (by omega)
  have h5 := hq (k % 4) (by omega)
  unfold q_ps at e
  split at e <;> omega)
theorem off_s {S : Nat → Nat} (hs : q_sm S) {s : Nat} (hd : s < 4) : ∀ p, p < 128 → (∀ j, j < 4 → q_pl j ≠ p) → S (768 + 128 * s + p) = 0 := fun p hp hq => hs.1 _ (by omega) (fun k hk e => by
  have h4 := pl_128 (k := k % 4) (by omega)
  have h5 := hq (k % 4) (by omega)
  unfold q_ps at e
  split at e <;> omega)
