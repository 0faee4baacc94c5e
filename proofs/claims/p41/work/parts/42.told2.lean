/-! ===== what the law asks of the class: blocks ===== -/
theorem z_ntR {τ : Type} {x : τ} : z_nt (.inr x) = some x := rfl
theorem z_ntwR {τ : Type} {x : τ} {M : zM} : z_ntw (.inr x, M) = some (x, M) := rfl
theorem pn_1 {S : Nat → Nat} {i : Nat} : (if S (2686 + q_bl i) = 0 then 0 else 1) ≤ 1 := by
  split <;> decide
theorem us_p {S : Nat → Nat} {i : Nat} (h : S (2686 + q_bl i) ≠ 0) : q_us S i = 1 := if_neg (fun x => h x.1)
theorem us_a {S : Nat → Nat} {i : Nat} (h : S (2814 + q_bl i) ≠ 0) : q_us S i = 1 := if_neg (fun x => h x.2)
theorem us_0 {S : Nat → Nat} {i : Nat} (h : S (2686 + q_bl i) = 0) (h2 : S (2814 + q_bl i) = 0) : q_us S i = 0 := if_pos ⟨h, h2⟩
theorem sum_c {c : Nat} : ∀ {n : Nat}, sumN (fun _ => c) n = c * n
  | 0 => rfl
  | n + 1 => by
    show sumN (fun _ => c) n + c = c * (n + 1)
    rw [sum_c, Nat.mul_succ]
theorem pend_eq {n : Nat} {S : Nat → Nat} (hI : z_I n S) (hs : q_sm S) : sumN (fun i => if z_sta S (0 + i) = 2 then 1 else 0) 128 = sumN (fun i => if S (2686 + q_bl i) = 0 then 0 else 1) 64 := by
  rw [sum_bl (g := fun i => if z_sta S (0 + i) = 2 then 1 else 0) (fun b hb hq => by
    have h := hs.2.2.2 b hb hq
    show (if z_sta S (0 + b) = 2 then 1 else 0) = 0
    rw [Nat.zero_add]
    unfold z_sta
    rw [h.1, h.2.1]
    rfl)]
  refine sumN_cg (fun i hi => ?_)
  have h := (I_pen hI (q_bl i) (bl_128 hi)).2
  show (if z_sta S (0 + q_bl i) = 2 then 1 else 0) = _
  rw [Nat.zero_add]
  unfold z_sta
  by_cases c : S (2814 + q_bl i) = 0
  · by_cases c2 : S (2686 + q_bl i) = 0
    · rw [c, c2]
      rfl
    · have e : (if S (2814 + q_bl i) ≠ 0 then 1 else if S (2686 + q_bl i) ≠ 0 then 2 else 0) = 2 := by
        rw [c, if_neg (by decide), if_pos c2]
      rw [if_pos e, if_neg c2]
  · have e : ¬ (if S (2814 + q_bl i) ≠ 0 then 1 else if S (2686 + q_bl i) ≠ 0 then 2 else 0) = 2 := by
      rw [if_pos c]
      decide
    rw [if_neg e, if_pos (h c)]
theorem free_eq {S : Nat → Nat} (hs : q_sm S) : sumN (fun i => if z_sta S (0 + i) = 0 then 1 else 0) 128 = 128 - sumN (q_us S) 64 ∧ sumN (q_us S) 64 ≤ 64 := by
  have e := sum_bl (g := fun i => if z_sta S (0 + i) = 0 then 0 else 1) (fun b hb hq => by
    have h := hs.2.2.2 b hb hq
    show (if z_sta S (0 + b) = 0 then 0 else 1) = 0
    rw [Nat.zero_add]
    unfold z_sta
    rw [h.1, h.2.1]
    rfl)
  have e2 : sumN (fun i => if z_sta S (0 + q_bl i) = 0 then 0 else 1) 64 = sumN (q_us S) 64 := sumN_cg (fun i hi => by
    have h := sta_us (S := S) (i := i)
    have h1 := us_1 (S := S) (i := i)
    rw [Nat.zero_add]
    by_cases c : z_sta S (q_bl i) = 0
    · rw [if_pos c, h.mp c]
    · rw [if_neg c]
      have : q_us S i ≠ 0 := fun x => c (h.mpr x)
      omega)
  have e3 := sumN_add (f := fun i => if z_sta S (0 + i) = 0 then 1 else 0) (g := fun i => if z_sta S (0 + i) = 0 then 0 else 1) (n := 128)
  have e4 : sumN (fun i => (if z_sta S (0 + i) = 0 then 1 else 0) + (if z_sta S (0 + i) = 0 then 0 else 1)) 128 = sumN (fun _ => 1) 128 := sumN_cg (fun i hi => by
    by_cases c : z_sta S (0 + i) = 0
    · rw [if_pos c, if_pos c]
    · rw [if_neg c, if_neg c])
  have e5 : sumN (fun _ => 1) 128 = 1 * 128 := sum_c
  have e6 := sumN_le (g := q_us S) (c := 1) (n := 64) (fun i hi => us_1)
  have e : sumN (fun i => if z_sta S (0 + i) = 0 then 0 else 1) 128 = sumN (fun i => if z_sta S (0 + q_bl i) = 0 then 0 else 1) 64 := e
  rw [e4, e5, e, e2] at e3
  omega
set_option maxHeartbeats 1000000 in
theorem f_areB {n : Nat} {M : zM} {X B C : Nat} {N : Nat → Int32} {S : Nat → Nat} (hn : n < 512) (hR : z_R1 1 M N S) (hI : z_I n S) (hs : q_sm S) (hX : L_x X M S) (hB : L_b B M N S) (hC : M C 0 = nI (S 3395)) : fL_areBlocks 0 X B C M = some (nI 1) := by
  have hgG := fun {r : Nat} (hr : r < 4) => gF_G (S := S) (fun b hb q => ⟨(hs.2.2.2 b hb q).1, (hs.2.2.2 b hb q).2.1⟩) hr
  have hL : z_loop (fun s : Int32 × Int32 × Int32 × Int32 => fL_areBlocks_L1 0 X B M s.1 s.2.1 s.2.2.1 s.2.2.2) z_FU (nI 0, nI 0, nI 1, nI 0) = some (nI (sumN (fun i => if S (2686 + q_bl i) = 0 then 0 else 1) 64), nI (sumN (q_us S) 64), nI 1) := by
    refine z_loopC (f := fun s : Int32 × Int32 × Int32 × Int32 => fL_areBlocks_L1 0 X B M s.1 s.2.1 s.2.2.1 s.2.2.2) (fun i => (nI (sumN (fun i => if S (2686 + q_bl i) = 0 then 0 else 1) i), nI (sumN (q_us S) i), nI 1, nI i)) 64 _ (by omega) (fun i hi => ?_) (by simp (disch := first | omega | assumption) only [l_0, l_1, l_2, l_3, l_4, l_5, l_6, l_7, l_8, l_11, l_12, l_15, l_16, l_31, l_32, l_66, l_80, l_100, l_127, l_128, l_768, l_2304, l_2310, l_2316, l_2388, l_2394, l_2406, l_2418, l_2430, l_2558, l_2686, l_2814, l_2942, l_3070, l_3390, l_3394, l_3395, l_3396, l_3397, n_leT, n_leF, n_ltT, n_ltF, n_eqT, n_eqF, nI_add, pk_mul, n_sub, z_ldn, z_san, z_bs, z_b2s, z_b3s, z_ocN, z_ocS, z_oxL, z_oxR, z_scL, z_scR, ↓reduceIte, Nat.zero_add, Nat.add_zero, Nat.zero_lt_succ, true_and, and_true, eq_self, n_div, n_mod, z_ldJn, z_saJn, f_blk, f_plc, l_9, l_10, l_13, l_14, l_17, l_18, l_19, l_20, l_21, l_22, l_24, l_28, l_60, l_61, l_62, l_64, l_98, l_99, fL_areBlocks_L1])
    have hb := bl_128 hi
    have g60 := f_h60 hi (hB i hi)
    have g62 := f_h62 hi (hB i hi)
    have gb := f_birth hi (hB i hi)
    have gr := k_refs hR hI hb
    have gc := (f_c28 hX hs.1 (I_tab hI) hb).1
    rw [← I_ref hI _ hb] at gc
    have b1 := I_r2304 hI _ hb
    have e1 : sumN (fun i => if S (2686 + q_bl i) = 0 then 0 else 1) (i + 1) = sumN (fun i => if S (2686 + q_bl i) = 0 then 0 else 1) i + (if S (2686 + q_bl i) = 0 then 0 else 1) := rfl
    have e2 : sumN (q_us S) (i + 1) = sumN (q_us S) i + q_us S i := rfl
    show fL_areBlocks_L1 0 X B M _ _ _ _ = some (.inl (nI (sumN (fun i => if S (2686 + q_bl i) = 0 then 0 else 1) (i + 1)), nI (sumN (q_us S) (i + 1)), nI 1, nI (i + 1)))
    rw [e1, e2]
    have g2 : S (2814 + q_bl i) ≠ 0 → fX6_birth 0 (nI (q_bl i)) M = some (.inr (nI (S (2558 + q_bl i)))) := fun q => k_birth hR hI hb q
    have hbi := I_bir hI _ hb
    by_cases cm : i % 16 = 15
    · have hreg : z_loop (fun s : Int32 × Int32 => fL_areBlocks_L2 B M (nI i) s.1 s.2) z_FU (nI 0, nI (i - 15)) = some (nI (q_G S (i / 16))) := by
        rw [z_loopS (f := fun s : Int32 × Int32 => fL_areBlocks_L2 B M (nI i) s.1 s.2) (fun j => q_us S (i - 15 + j)) (i - 15) 16 (by omega) (s := (nI 0, nI (i - 15))) rfl (fun j x hj => by
          have k60 := f_h60 (i := i - 15 + j) (by omega) (hB (i - 15 + j) (by omega))
          have k62 := f_h62 (i := i - 15 + j) (by omega) (hB (i - 15 + j) (by omega))
          by_cases cp : S (2686 + q_bl (i - 15 + j)) = 0
          · rw [if_pos cp] at k60
            by_cases ca : S (2814 + q_bl (i - 15 + j)) = 0
            · rw [if_pos ca] at k62
              rw [us_0 cp ca]
              simp (disch := first | omega | assumption) only [l_0, l_1, l_2, l_3, l_4, l_5, l_6, l_7, l_8, l_11, l_12, l_15, l_16, l_31, l_32, l_66, l_80, l_100, l_127, l_128, l_768, l_2304, l_2310, l_2316, l_2388, l_2394, l_2406, l_2418, l_2430, l_2558, l_2686, l_2814, l_2942, l_3070, l_3390, l_3394, l_3395, l_3396, l_3397, n_leT, n_leF, n_ltT, n_ltF, n_eqT, n_eqF, nI_add, pk_mul, n_sub, z_ldn, z_san, z_bs, z_b2s, z_b3s, z_ocN, z_ocS, z_oxL, z_oxR, z_scL, z_scR, ↓reduceIte, Nat.zero_add, Nat.add_zero, Nat.zero_lt_succ, true_and, and_true, eq_self, n_div, n_mod, z_ldJn, z_saJn, f_blk, f_plc, l_9, l_10, l_13, l_14, l_17, l_18, l_19, l_20, l_21, l_22, l_24, l_28, l_60, l_61, l_62, l_64, l_98, l_99, fL_areBlocks_L2, k60, k62]
            · rw [if_neg ca] at k62
              rw [us_a ca]
              simp (disch := first | omega | assumption) only [l_0, l_1, l_2, l_3, l_4, l_5, l_6, l_7, l_8, l_11, l_12, l_15, l_16, l_31, l_32, l_66, l_80, l_100, l_127, l_128, l_768, l_2304, l_2310, l_2316, l_2388, l_2394, l_2406, l_2418, l_2430, l_2558, l_2686, l_2814, l_2942, l_3070, l_3390, l_3394, l_3395, l_3396, l_3397, n_leT, n_leF, n_ltT, n_ltF, n_eqT, n_eqF, nI_add, pk_mul, n_sub, z_ldn, z_san, z_bs, z_b2s, z_b3s, z_ocN, z_ocS, z_oxL, z_oxR, z_scL, z_scR, ↓reduceIte, Nat.zero_add, Nat.add_zero, Nat.zero_lt_succ, true_and, and_true, eq_self, n_div, n_mod, z_ldJn, z_saJn, f_blk, f_plc, l_9, l_10, l_13, l_14, l_17, l_18, l_19, l_20, l_21, l_22, l_24, l_28, l_60, l_61, l_62, l_64, l_98, l_99, fL_areBlocks_L2, k60, k62]
          · rw [if_neg cp] at k60
            rw [us_p cp]
            simp (disch := first | omega | assumption) only [l_0, l_1, l_2, l_3, l_4, l_5, l_6, l_7, l_8, l_11, l_12, l_15, l_16, l_31, l_32, l_66, l_80, l_100, l_127, l_128, l_768, l_2304, l_2310, l_2316, l_2388, l_2394, l_2406, l_2418, l_2430, l_2558, l_2686, l_2814, l_2942, l_3070, l_3390, l_3394, l_3395, l_3396, l_3397, n_leT, n_leF, n_ltT, n_ltF, n_eqT, n_eqF, nI_add, pk_mul, n_sub, z_ldn, z_san, z_bs, z_b2s, z_b3s, z_ocN, z_ocS, z_oxL, z_oxR, z_scL, z_scR, ↓reduceIte, Nat.zero_add, Nat.add_zero, Nat.zero_lt_succ, true_and, and_true, eq_self, n_div, n_mod, z_ldJn, z_saJn, f_blk, f_plc, l_9, l_10, l_13, l_14, l_17, l_18, l_19, l_20, l_21, l_22, l_24, l_28, l_60, l_61, l_62, l_64, l_98, l_99, fL_areBlocks_L2, k60]) (fun x => by simp (disch := first | omega | assumption) only [l_0, l_1, l_2, l_3, l_4, l_5, l_6, l_7, l_8, l_11, l_12, l_15, l_16, l_31, l_32, l_66, l_80, l_100, l_127, l_128, l_768, l_2304, l_2310, l_2316, l_2388, l_2394, l_2406, l_2418, l_2430, l_2558, l_2686, l_2814, l_2942, l_3070, l_3390, l_3394, l_3395, l_3396, l_3397, n_leT, n_leF, n_ltT, n_ltF, n_eqT, n_eqF, nI_add, pk_mul, n_sub, z_ldn, z_san, z_bs, z_b2s, z_b3s, z_ocN, z_ocS, z_oxL, z_oxR, z_scL, z_scR, ↓reduceIte, Nat.zero_add, Nat.add_zero, Nat.zero_lt_succ, true_and, and_true, eq_self, n_div, n_mod, z_ldJn, z_saJn, f_blk, f_plc, l_9, l_10, l_13, l_14, l_17, l_18, l_19, l_20, l_21, l_22, l_24, l_28, l_60, l_61, l_62, l_64, l_98, l_99, fL_areBlocks_L2])]
        unfold q_G
        rw [show i - 15 = 16 * (i / 16) by omega]
      have hfr : fX6_freeIn 0 (nI (i / 16)) M = some (.inr (nI (gF S (i / 16)))) := k_freeIn hR hI (by omega)
      have hGG := hgG (r := i / 16) (by omega)
      have e3 : gF S (i / 16) = 32 - q_G S (i / 16) := by omega
      rw [e3] at hfr
      by_cases cp : S (2686 + q_bl i) = 0
      · rw [if_pos cp] at g60
        by_cases ca : S (2814 + q_bl i) = 0
        · rw [if_pos ca] at g62
          rw [us_0 cp ca, if_pos cp]
          simp (disch := first | omega | assumption) only [l_0, l_1, l_2, l_3, l_4, l_5, l_6, l_7, l_8, l_11, l_12, l_15, l_16, l_31, l_32, l_66, l_80, l_100, l_127, l_128, l_768, l_2304, l_2310, l_2316, l_2388, l_2394, l_2406, l_2418, l_2430, l_2558, l_2686, l_2814, l_2942, l_3070, l_3390, l_3394, l_3395, l_3396, l_3397, n_leT, n_leF, n_ltT, n_ltF, n_eqT, n_eqF, nI_add, pk_mul, n_sub, z_ldn, z_san, z_bs, z_b2s, z_b3s, z_ocN, z_ocS, z_oxL, z_oxR, z_scL, z_scR, ↓reduceIte, Nat.zero_add, Nat.add_zero, Nat.zero_lt_succ, true_and, and_true, eq_self, n_div, n_mod, z_ldJn, z_saJn, f_blk, f_plc, l_9, l_10, l_13, l_14, l_17, l_18, l_19, l_20, l_21, l_22, l_24, l_28, l_60, l_61, l_62, l_64, l_98, l_99, z_ntR, z_ntwR, z_bz0, z_bz1, fL_areBlocks_L1, g60, g62, gr, gc, cm, hreg, hfr]
        · rw [if_neg ca] at g62
          rw [us_a ca, if_pos cp]
          simp (disch := first | omega | assumption) only [l_0, l_1, l_2, l_3, l_4, l_5, l_6, l_7, l_8, l_11, l_12, l_15, l_16, l_31, l_32, l_66, l_80, l_100, l_127, l_128, l_768, l_2304, l_2310, l_2316, l_2388, l_2394, l_2406, l_2418, l_2430, l_2558, l_2686, l_2814, l_2942, l_3070, l_3390, l_3394, l_3395, l_3396, l_3397, n_leT, n_leF, n_ltT, n_ltF, n_eqT, n_eqF, nI_add, pk_mul, n_sub, z_ldn, z_san, z_bs, z_b2s, z_b3s, z_ocN, z_ocS, z_oxL, z_oxR, z_scL, z_scR, ↓reduceIte, Nat.zero_add, Nat.add_zero, Nat.zero_lt_succ, true_and, and_true, eq_self, n_div, n_mod, z_ldJn, z_saJn, f_blk, f_plc, l_9, l_10, l_13, l_14, l_17, l_18, l_19, l_20, l_21, l_22, l_24, l_28, l_60, l_61, l_62, l_64, l_98, l_99, z_ntR, z_ntwR, z_bz0, z_bz1, fL_areBlocks_L1, g60, g62, gr, gc, cm, hreg, hfr, gb, g2 ca]
      · rw [if_neg cp] at g60
        have ca : S (2814 + q_bl i) = 0 := Classical.byContradiction (fun x => cp ((I_pen hI _ hb).2 x))
        rw [if_pos ca] at g62
        rw [us_p cp, if_neg cp]
        simp (disch := first | omega | assumption) only [l_0, l_1, l_2, l_3, l_4, l_5, l_6, l_7, l_8, l_11, l_12, l_15, l_16, l_31, l_32, l_66, l_80, l_100, l_127, l_128, l_768, l_2304, l_2310, l_2316, l_2388, l_2394, l_2406, l_2418, l_2430, l_2558, l_2686, l_2814, l_2942, l_3070, l_3390, l_3394, l_3395, l_3396, l_3397, n_leT, n_leF, n_ltT, n_ltF, n_eqT, n_eqF, nI_add, pk_mul, n_sub, z_ldn, z_san, z_bs, z_b2s, z_b3s, z_ocN, z_ocS, z_oxL, z_oxR, z_scL, z_scR, ↓reduceIte, Nat.zero_add, Nat.add_zero, Nat.zero_lt_succ, true_and, and_true, eq_self, n_div, n_mod, z_ldJn, z_saJn, f_blk, f_plc, l_9, l_10, l_13, l_14, l_17, l_18, l_19, l_20, l_21, l_22, l_24, l_28, l_60, l_61, l_62, l_64, l_98, l_99, z_ntR, z_ntwR, z_bz0, z_bz1, fL_areBlocks_L1, g60, g62, gr, gc, cm, hreg, hfr]
    · by_cases cp : S (2686 + q_bl i) = 0
      · rw [if_pos cp] at g60
        by_cases ca : S (2814 + q_bl i) = 0
        · rw [if_pos ca] at g62
          rw [us_0 cp ca, if_pos cp]
          simp (disch := first | omega | assumption) only [l_0, l_1, l_2, l_3, l_4, l_5, l_6, l_7, l_8, l_11, l_12, l_15, l_16, l_31, l_32, l_66, l_80, l_100, l_127, l_128, l_768, l_2304, l_2310, l_2316, l_2388, l_2394, l_2406, l_2418, l_2430, l_2558, l_2686, l_2814, l_2942, l_3070, l_3390, l_3394, l_3395, l_3396, l_3397, n_leT, n_leF, n_ltT, n_ltF, n_eqT, n_eqF, nI_add, pk_mul, n_sub, z_ldn, z_san, z_bs, z_b2s, z_b3s, z_ocN, z_ocS, z_oxL, z_oxR, z_scL, z_scR, ↓reduceIte, Nat.zero_add, Nat.add_zero, Nat.zero_lt_succ, true_and, and_true, eq_self, n_div, n_mod, z_ldJn, z_saJn, f_blk, f_plc, l_9, l_10, l_13, l_14, l_17, l_18, l_19, l_20, l_21, l_22, l_24, l_28, l_60, l_61, l_62, l_64, l_98, l_99, z_ntR, z_ntwR, z_bz0, z_bz1, fL_areBlocks_L1, g60, g62, gr, gc, if_neg cm]
        · rw [if_neg ca] at g62
          rw [us_a ca, if_pos cp]
          simp (disch := first | omega | assumption) only [l_0, l_1, l_2, l_3, l_4, l_5, l_6, l_7, l_8, l_11, l_12, l_15, l_16, l_31, l_32, l_66, l_80, l_100, l_127, l_128, l_768, l_2304, l_2310, l_2316, l_2388, l_2394, l_2406, l_2418, l_2430, l_2558, l_2686, l_2814, l_2942, l_3070, l_3390, l_3394, l_3395, l_3396, l_3397, n_leT, n_leF, n_ltT, n_ltF, n_eqT, n_eqF, nI_add, pk_mul, n_sub, z_ldn, z_san, z_bs, z_b2s, z_b3s, z_ocN, z_ocS, z_oxL, z_oxR, z_scL, z_scR, ↓reduceIte, Nat.zero_add, Nat.add_zero, Nat.zero_lt_succ, true_and, and_true, eq_self, n_div, n_mod, z_ldJn, z_saJn, f_blk, f_plc, l_9, l_10, l_13, l_14, l_17, l_18, l_19, l_20, l_21, l_22, l_24, l_28, l_60, l_61, l_62, l_64, l_98, l_99, z_ntR, z_ntwR, z_bz0, z_bz1, fL_areBlocks_L1, g60, g62, gr, gc, if_neg cm, gb, g2 ca]
      · rw [if_neg cp] at g60
        have ca : S (2814 + q_bl i) = 0 := Classical.byContradiction (fun x => cp ((I_pen hI _ hb).2 x))
        rw [if_pos ca] at g62
        rw [us_p cp, if_neg cp]
        simp (disch := first | omega | assumption) only [l_0, l_1, l_2, l_3, l_4, l_5, l_6, l_7, l_8, l_11, l_12, l_15, l_16, l_31, l_32, l_66, l_80, l_100, l_127, l_128, l_768, l_2304, l_2310, l_2316, l_2388, l_2394, l_2406, l_2418, l_2430, l_2558, l_2686, l_2814, l_2942, l_3070, l_3390, l_3394, l_3395, l_3396, l_3397, n_leT, n_leF, n_ltT, n_ltF, n_eqT, n_eqF, nI_add, pk_mul, n_sub, z_ldn, z_san, z_bs, z_b2s, z_b3s, z_ocN, z_ocS, z_oxL, z_oxR, z_scL, z_scR, ↓reduceIte, Nat.zero_add, Nat.add_zero, Nat.zero_lt_succ, true_and, and_true, eq_self, n_div, n_mod, z_ldJn, z_saJn, f_blk, f_plc, l_9, l_10, l_13, l_14, l_17, l_18, l_19, l_20, l_21, l_22, l_24, l_28, l_60, l_61, l_62, l_64, l_98, l_99, z_ntR, z_ntwR, z_bz0, z_bz1, fL_areBlocks_L1, g60, g62, gr, gc, if_neg cm]
  have hp := k_pend hR hI
  rw [pend_eq hI hs] at hp
  have hf := k_free hR hI
  obtain ⟨f1, f2⟩ := free_eq hs
  rw [f1] at hf
  have ht := k_trans hR hI
  unfold fL_areBlocks
  simp (disch := first | omega | assumption) only [l_0, l_1, l_2, l_3, l_4, l_5, l_6, l_7, l_8, l_11, l_12, l_15, l_16, l_31, l_32, l_66, l_80, l_100, l_127, l_128, l_768, l_2304, l_2310, l_2316, l_2388, l_2394, l_2406, l_2418, l_2430, l_2558, l_2686, l_2814, l_2942, l_3070, l_3390, l_3394, l_3395, l_3396, l_3397, n_leT, n_leF, n_ltT, n_ltF, n_eqT, n_eqF, nI_add, pk_mul, n_sub, z_ldn, z_san, z_bs, z_b2s, z_b3s, z_ocN, z_ocS, z_oxL, z_oxR, z_scL, z_scR, ↓reduceIte, Nat.zero_add, Nat.add_zero, Nat.zero_lt_succ, true_and, and_true, eq_self, n_div, n_mod, z_ldJn, z_saJn, f_blk, f_plc, l_9, l_10, l_13, l_14, l_17, l_18, l_19, l_20, l_21, l_22, l_24, l_28, l_60, l_61, l_62, l_64, l_98, l_99, z_ntR, z_ntwR, z_bz0, z_bz1, hL, hp, hf, ht, hC]
