/-! ===== the law's settle ===== -/
theorem jj_ss {M : zM} {k i : Nat} {v : Int64} : z_jj (z_stJ M k i v k) i = v := by
  rw [jj_s, if_pos rfl]
theorem sJ_n {M : zM} {k j a : Nat} {v : Int64} (h : a ≠ k) : z_stJ M k j v a = M a := z_stJ_ne M j v h
theorem if_cg {p q c d : Nat} (h : p = 0 ↔ q = 0) : (if p = 0 then c else d) = (if q = 0 then c else d) := by
  by_cases x : p = 0
  · rw [if_pos x, if_pos (h.mp x)]
  · rw [if_neg x, if_neg (fun y => x (h.mpr y))]
theorem E_cg {v : Int32} {bi p l a p2 l2 a2 : Nat} (h1 : p = 0 ↔ p2 = 0) (h2 : l = 0 ↔ l2 = 0) (h3 : a = 0 ↔ a2 = 0) : y_E v bi p l a = y_E v bi p2 l2 a2 := by
  unfold y_E y_fl
  rw [if_cg h1, if_cg h2, if_cg h3]
theorem B1_cg {M : zM} {B i bi p l a p2 l2 a2 : Nat} {v : Int32} (h : y_B1 M B i v bi p l a) (h1 : p = 0 ↔ p2 = 0) (h2 : l = 0 ↔ l2 = 0) (h3 : a = 0 ↔ a2 = 0) : y_B1 M B i v bi p2 l2 a2 := ⟨by rw [h.1]; exact E_cg h1 h2 h3, h.2⟩
/-- off the law's places a table is empty -/
abbrev q_off (S : Nat → Nat) : Prop := ∀ k, k < 2304 → (∀ j, j < 28 → q_ps j ≠ k) → S k = 0
theorem f_c28 {M : zM} {X : Nat} {S : Nat → Nat} (h : L_x X M S) (h0 : q_off S) (h1 : ∀ k, k < 2304 → S k ≤ 128) {b : Nat} (hb : b < 128) : fL_count X (nI b) (nI 0) (nI 28) M = some (nI (cntN S (b + 1) 2304)) ∧ cntN S (b + 1) 2304 ≤ 28 := by
  have e := f_cnt (X := X) (T := fun k => S (q_ps k)) h (fun k hk => by have := h1 _ (ps_2304 hk); show S (q_ps k) < _; omega) (b := b) (lo := 0) (hi := 28) (by omega) (by decide) (by decide)
  rw [cnt_ps h0]
  refine ⟨?_, cntN_le⟩
  rw [e]
  congr 2
theorem y_mk_ty {S : Nat → Nat} {b : Nat} (hb : b < 128) : (lostN S b = 1 ↔ cntN S (b + 1) 2304 = 0 ∧ S (2814 + b) ≠ 0) := by
  unfold lostN
  by_cases c : cntN S (b + 1) 2304 = 0 ∧ S (2814 + b) ≠ 0
  · rw [if_pos c]
    exact ⟨fun _ => c, fun _ => rfl⟩
  · rw [if_neg c]
    exact ⟨fun x => absurd x (by decide), fun x => absurd x c⟩
set_option maxHeartbeats 1000000 in
theorem f_settle {M : zM} {X B C : Nat} {N : Nat → Int32} {S : Nat → Nat} (hX : L_x X M S) (h0 : q_off S) (h1 : ∀ k, k < 2304 → S k ≤ 128) (hB : L_b B M N S) (hC : M C 0 = nI (S 3395)) (ho : S 3395 < 2 ^ 24) (hr : ∀ b, b < 128 → 16 ≤ b % 32 → S (2814 + b) = 0) (hXB : X ≠ B) (hCB : C ≠ B) : ∃ M', fL_settle X B C M = some (nI (sumN (lostN S) 128), M') ∧ L_b B M' N (y_mk S) ∧ ∀ a, a ≠ B → M' a = M a := by
  have hsum : sumN (lostN S) 128 = sumN (fun i => lostN S (q_bl i)) 64 := sum_bl (fun b hb hq => by
    unfold lostN
    rw [if_neg (fun x => x.2 (hr b hb hq))])
  unfold fL_settle
  obtain ⟨r, q1, q2⟩ := z_loopA (f := fun s : Int32 × Int32 × zM => fL_settle_L1 X B C s.1 s.2.1 s.2.2) (fun i x M' => x = nI (sumN (fun i => lostN S (q_bl i)) i) ∧ (∀ a, a ≠ B → M' a = M a) ∧ ∀ q, q < 64 → y_B1 M' B q (N (2430 + q_bl q)) (S (2558 + q_bl q)) ((if q < i then y_mk S else S) (2686 + q_bl q)) (S (2942 + q_bl q)) ((if q < i then y_mk S else S) (2814 + q_bl q))) (fun r => r.1 = nI (sumN (fun i => lostN S (q_bl i)) 64) ∧ (∀ a, a ≠ B → r.2 a = M a) ∧ L_b B r.2 N (y_mk S)) 0 64 (by decide) (x := 0) (s := 0) (M := M) rfl ⟨rfl, fun _ _ => rfl, fun q hq => by rw [if_neg (Nat.not_lt_zero q)]; exact hB q hq⟩ (fun i x M' hi hI => by
    obtain ⟨a1, a2, a3⟩ := hI
    subst a1
    have hb := bl_128 hi
    obtain ⟨c1, c2⟩ := f_c28 (L_x_cg hX (a2 X hXB)) h0 h1 hb
    have hB1 := a3 i hi
    rw [if_neg (Nat.lt_irrefl i)] at hB1
    have hC1 : M' C 0 = nI (S 3395) := by rw [a2 C hCB]; exact hC
    have hbi := hB1.2
    have g62 := f_h62 hi hB1
    have g60 := f_h60 hi hB1
    have gb := f_birth hi hB1
    have hs : sumN (fun i => lostN S (q_bl i)) (i + 1) = sumN (fun i => lostN S (q_bl i)) i + lostN S (q_bl i) := rfl
    -- what is written
    have key : ∀ (pn an : Nat), pn ≤ 1 → an ≤ 1 → (pn = 0 ↔ y_mk S (2686 + q_bl i) = 0) → (an = 0 ↔ y_mk S (2814 + q_bl i) = 0) → ∀ q, q < 64 → y_B1 (z_stJ (z_stJ M' B i (y_E (N (2430 + q_bl i)) (S (2558 + q_bl i)) pn (S (2942 + q_bl i)) (S (2814 + q_bl i)))) B i (y_E (N (2430 + q_bl i)) (S (2558 + q_bl i)) pn (S (2942 + q_bl i)) an)) B q (N (2430 + q_bl q)) (S (2558 + q_bl q)) ((if q < i + 1 then y_mk S else S) (2686 + q_bl q)) (S (2942 + q_bl q)) ((if q < i + 1 then y_mk S else S) (2814 + q_bl q)) := fun pn an _ _ e1 e2 q hq => by
      unfold y_B1
      rw [jj_s]
      by_cases c : q = i
      · subst c
        rw [if_pos rfl, if_pos (Nat.lt_succ_self q)]
        exact ⟨E_cg e1 Iff.rfl e2, hbi⟩
      · rw [if_neg c, jj_s, if_neg c]
        have h3 := a3 q hq
        by_cases c2 : q < i
        · rw [if_pos c2] at h3
          rw [if_pos (by omega)]
          exact h3
        · rw [if_neg c2] at h3
          rw [if_neg (by omega)]
          exact h3
    have fr : ∀ (E1 E2 : Int64) (a : Nat), a ≠ B → z_stJ (z_stJ M' B i E1) B i E2 a = M a := fun E1 E2 a ha => by rw [sJ_n ha, sJ_n ha]; exact a2 a ha
    have yr := y_mk_ref (S := S) hb
    have yp := y_mk_pen (S := S) hb
    by_cases cz : cntN S (q_bl i + 1) 2304 = 0
    · rw [cz] at c1 yr
      by_cases ca : S (2814 + q_bl i) = 0
      · have hl : lostN S (q_bl i) = 0 := if_neg (fun x => x.2 ca)
        rw [hl, if_neg (by decide)] at yp
        rw [if_pos ca] at g62
        by_cases cp : S (2686 + q_bl i) = 0
        · rw [if_pos cp] at g60
          refine ⟨_, _, ?_, by rw [hs, hl], fr _ _, key 0 0 (by decide) (by decide) (by rw [yp, cp]) (by rw [yr])⟩
          simp (disch := first | omega | assumption) only [l_0, l_1, l_2, l_3, l_4, l_5, l_6, l_7, l_8, l_11, l_12, l_15, l_16, l_31, l_32, l_66, l_80, l_100, l_127, l_128, l_768, l_2304, l_2310, l_2316, l_2388, l_2394, l_2406, l_2418, l_2430, l_2558, l_2686, l_2814, l_2942, l_3070, l_3390, l_3394, l_3395, l_3396, l_3397, n_leT, n_leF, n_ltT, n_ltF, n_eqT, n_eqF, nI_add, pk_mul, n_sub, z_ldn, z_san, z_bs, z_b2s, z_b3s, z_ocN, z_ocS, z_oxL, z_oxR, z_scL, z_scR, ↓reduceIte, Nat.zero_add, Nat.add_zero, Nat.zero_lt_succ, true_and, and_true, eq_self, n_div, n_mod, z_ldJn, z_saJn, f_blk, f_plc, l_9, l_10, l_13, l_14, l_17, l_18, l_19, l_20, l_21, l_22, l_24, l_28, l_60, l_61, l_62, l_64, l_98, l_99, fL_settle_L1, c1, g62, g60, hB1.1, f_with60, f_with62, jj_ss]
        · rw [if_neg cp] at g60
          refine ⟨_, _, ?_, by rw [hs, hl], fr _ _, key 1 0 (by decide) (by decide) (by rw [yp]; omega) (by rw [yr])⟩
          simp (disch := first | omega | assumption) only [l_0, l_1, l_2, l_3, l_4, l_5, l_6, l_7, l_8, l_11, l_12, l_15, l_16, l_31, l_32, l_66, l_80, l_100, l_127, l_128, l_768, l_2304, l_2310, l_2316, l_2388, l_2394, l_2406, l_2418, l_2430, l_2558, l_2686, l_2814, l_2942, l_3070, l_3390, l_3394, l_3395, l_3396, l_3397, n_leT, n_leF, n_ltT, n_ltF, n_eqT, n_eqF, nI_add, pk_mul, n_sub, z_ldn, z_san, z_bs, z_b2s, z_b3s, z_ocN, z_ocS, z_oxL, z_oxR, z_scL, z_scR, ↓reduceIte, Nat.zero_add, Nat.add_zero, Nat.zero_lt_succ, true_and, and_true, eq_self, n_div, n_mod, z_ldJn, z_saJn, f_blk, f_plc, l_9, l_10, l_13, l_14, l_17, l_18, l_19, l_20, l_21, l_22, l_24, l_28, l_60, l_61, l_62, l_64, l_98, l_99, fL_settle_L1, c1, g62, g60, hB1.1, f_with60, f_with62, jj_ss]
      · have hl : lostN S (q_bl i) = 1 := if_pos ⟨cz, ca⟩
        rw [hl, if_pos rfl] at yp
        rw [if_neg ca] at g62
        by_cases cb : S (2558 + q_bl i) = S 3395
        · rw [if_pos cb] at yp
          refine ⟨_, _, ?_, by rw [hs, hl], fr _ _, key 0 0 (by decide) (by decide) (by rw [yp]) (by rw [yr])⟩
          simp (disch := first | omega | assumption) only [l_0, l_1, l_2, l_3, l_4, l_5, l_6, l_7, l_8, l_11, l_12, l_15, l_16, l_31, l_32, l_66, l_80, l_100, l_127, l_128, l_768, l_2304, l_2310, l_2316, l_2388, l_2394, l_2406, l_2418, l_2430, l_2558, l_2686, l_2814, l_2942, l_3070, l_3390, l_3394, l_3395, l_3396, l_3397, n_leT, n_leF, n_ltT, n_ltF, n_eqT, n_eqF, nI_add, pk_mul, n_sub, z_ldn, z_san, z_bs, z_b2s, z_b3s, z_ocN, z_ocS, z_oxL, z_oxR, z_scL, z_scR, ↓reduceIte, Nat.zero_add, Nat.add_zero, Nat.zero_lt_succ, true_and, and_true, eq_self, n_div, n_mod, z_ldJn, z_saJn, f_blk, f_plc, l_9, l_10, l_13, l_14, l_17, l_18, l_19, l_20, l_21, l_22, l_24, l_28, l_60, l_61, l_62, l_64, l_98, l_99, fL_settle_L1, c1, g62, gb, hC1, hB1.1, f_with60, f_with62, jj_ss, cb]
        · rw [if_neg cb] at yp
          refine ⟨_, _, ?_, by rw [hs, hl], fr _ _, key 1 0 (by decide) (by decide) (by rw [yp]) (by rw [yr])⟩
          simp (disch := first | omega | assumption) only [l_0, l_1, l_2, l_3, l_4, l_5, l_6, l_7, l_8, l_11, l_12, l_15, l_16, l_31, l_32, l_66, l_80, l_100, l_127, l_128, l_768, l_2304, l_2310, l_2316, l_2388, l_2394, l_2406, l_2418, l_2430, l_2558, l_2686, l_2814, l_2942, l_3070, l_3390, l_3394, l_3395, l_3396, l_3397, n_leT, n_leF, n_ltT, n_ltF, n_eqT, n_eqF, nI_add, pk_mul, n_sub, z_ldn, z_san, z_bs, z_b2s, z_b3s, z_ocN, z_ocS, z_oxL, z_oxR, z_scL, z_scR, ↓reduceIte, Nat.zero_add, Nat.add_zero, Nat.zero_lt_succ, true_and, and_true, eq_self, n_div, n_mod, z_ldJn, z_saJn, f_blk, f_plc, l_9, l_10, l_13, l_14, l_17, l_18, l_19, l_20, l_21, l_22, l_24, l_28, l_60, l_61, l_62, l_64, l_98, l_99, fL_settle_L1, c1, g62, gb, hC1, hB1.1, f_with60, f_with62, jj_ss]
    · have hl : lostN S (q_bl i) = 0 := if_neg (fun x => cz x.1)
      rw [hl, if_neg (by decide)] at yp
      by_cases cp : S (2686 + q_bl i) = 0
      · rw [if_pos cp] at g60
        refine ⟨_, _, ?_, by rw [hs, hl], fr _ _, key 0 1 (by decide) (by decide) (by rw [yp, cp]) (by rw [yr]; omega)⟩
        simp (disch := first | omega | assumption) only [l_0, l_1, l_2, l_3, l_4, l_5, l_6, l_7, l_8, l_11, l_12, l_15, l_16, l_31, l_32, l_66, l_80, l_100, l_127, l_128, l_768, l_2304, l_2310, l_2316, l_2388, l_2394, l_2406, l_2418, l_2430, l_2558, l_2686, l_2814, l_2942, l_3070, l_3390, l_3394, l_3395, l_3396, l_3397, n_leT, n_leF, n_ltT, n_ltF, n_eqT, n_eqF, nI_add, pk_mul, n_sub, z_ldn, z_san, z_bs, z_b2s, z_b3s, z_ocN, z_ocS, z_oxL, z_oxR, z_scL, z_scR, ↓reduceIte, Nat.zero_add, Nat.add_zero, Nat.zero_lt_succ, true_and, and_true, eq_self, n_div, n_mod, z_ldJn, z_saJn, f_blk, f_plc, l_9, l_10, l_13, l_14, l_17, l_18, l_19, l_20, l_21, l_22, l_24, l_28, l_60, l_61, l_62, l_64, l_98, l_99, fL_settle_L1, c1, g60, hB1.1, f_with60, f_with62, jj_ss]
      · rw [if_neg cp] at g60
        refine ⟨_, _, ?_, by rw [hs, hl], fr _ _, key 1 1 (by decide) (by decide) (by rw [yp]; omega) (by rw [yr]; omega)⟩
        simp (disch := first | omega | assumption) only [l_0, l_1, l_2, l_3, l_4, l_5, l_6, l_7, l_8, l_11, l_12, l_15, l_16, l_31, l_32, l_66, l_80, l_100, l_127, l_128, l_768, l_2304, l_2310, l_2316, l_2388, l_2394, l_2406, l_2418, l_2430, l_2558, l_2686, l_2814, l_2942, l_3070, l_3390, l_3394, l_3395, l_3396, l_3397, n_leT, n_leF, n_ltT, n_ltF, n_eqT, n_eqF, nI_add, pk_mul, n_sub, z_ldn, z_san, z_bs, z_b2s, z_b3s, z_ocN, z_ocS, z_oxL, z_oxR, z_scL, z_scR, ↓reduceIte, Nat.zero_add, Nat.add_zero, Nat.zero_lt_succ, true_and, and_true, eq_self, n_div, n_mod, z_ldJn, z_saJn, f_blk, f_plc, l_9, l_10, l_13, l_14, l_17, l_18, l_19, l_20, l_21, l_22, l_24, l_28, l_60, l_61, l_62, l_64, l_98, l_99, fL_settle_L1, c1, g60, hB1.1, f_with60, f_with62, jj_ss]) (fun x M' hI => by
    obtain ⟨a1, a2, a3⟩ := hI
    refine ⟨(x, M'), by simp (disch := first | omega | assumption) only [l_0, l_1, l_2, l_3, l_4, l_5, l_6, l_7, l_8, l_11, l_12, l_15, l_16, l_31, l_32, l_66, l_80, l_100, l_127, l_128, l_768, l_2304, l_2310, l_2316, l_2388, l_2394, l_2406, l_2418, l_2430, l_2558, l_2686, l_2814, l_2942, l_3070, l_3390, l_3394, l_3395, l_3396, l_3397, n_leT, n_leF, n_ltT, n_ltF, n_eqT, n_eqF, nI_add, pk_mul, n_sub, z_ldn, z_san, z_bs, z_b2s, z_b3s, z_ocN, z_ocS, z_oxL, z_oxR, z_scL, z_scR, ↓reduceIte, Nat.zero_add, Nat.add_zero, Nat.zero_lt_succ, true_and, and_true, eq_self, n_div, n_mod, z_ldJn, z_saJn, f_blk, f_plc, l_9, l_10, l_13, l_14, l_17, l_18, l_19, l_20, l_21, l_22, l_24, l_28, l_60, l_61, l_62, l_64, l_98, l_99, fL_settle_L1], a1, a2, fun q hq => ?_⟩
    have h3 := a3 q hq
    rw [if_pos hq] at h3
    show y_B1 M' B q _ _ _ _ _
    rw [y_mk_o (k := 2558 + q_bl q) (by have := bl_128 hq; omega), y_mk_o (k := 2942 + q_bl q) (by omega)]
    exact h3)
  obtain ⟨r1, r2⟩ := r
  obtain ⟨q2, q3, q4⟩ := q2
  have q2 : r1 = _ := q2
  subst q2
  refine ⟨r2, ?_, q4, q3⟩
  rw [q1, hsum]
  rfl
