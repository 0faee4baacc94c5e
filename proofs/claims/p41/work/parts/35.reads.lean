/-! ===== the class: the calls that change nothing ===== -/
/-- the value that a place with this block reads as -/
def z_val (N : Nat → Int32) (x : Nat) : Int32 := if x = 0 then nI 0 else N (2430 + (x - 1))
theorem k_read {n : Nat} {M : zM} {N : Nat → Int32} {S : Nat → Nat} (hR : z_R1 1 M N S) (hI : z_I n S) {d : Nat} (hd : d < 6) (h1 : S (2304 + d) = 1) {f i : Nat} (hf : f < 8) (hi : i < 16) : fX6_read 0 (nI d) (nI f) (nI i) M = some (.inr (z_val N (S (128 * d + (16 * f + i))))) := by
  have hp : 16 * f + i < 128 := by omega
  have hk := kd1_ds hd
  have hx := I_tab hI (128 * d + (16 * f + i)) (by omega)
  have hT := hR.1 d (by omega) (16 * f + i) hp
  unfold z_val
  rcases Nat.eq_zero_or_pos (S (128 * d + (16 * f + i))) with q | q
  · rw [if_pos q]
    unfold fX6_read
    simp (disch := first | omega | assumption) only [l_0, l_1, l_2, l_3, l_4, l_5, l_6, l_7, l_8, l_11, l_12, l_15, l_16, l_31, l_32, l_66, l_80, l_100, l_127, l_128, l_768, l_2304, l_2310, l_2316, l_2388, l_2394, l_2406, l_2418, l_2430, l_2558, l_2686, l_2814, l_2942, l_3070, l_3390, l_3394, l_3395, l_3396, l_3397, n_leT, n_leF, n_ltT, n_ltF, n_eqT, n_eqF, nI_add, pk_mul, n_sub, z_ldn, z_san, z_bs, z_b2s, z_b3s, z_ocN, z_ocS, z_oxL, z_oxR, z_scL, z_scR, ↓reduceIte, Nat.zero_add, Nat.add_zero, Nat.zero_lt_succ, true_and, and_true, eq_self, cDs_ok hR.2.1 hd h1, z_gdp hk, cPl_ok hf hi, cBo hp, hT, q, cVal0]
  · rw [if_neg (by omega), ← (hR.2.2.2.1 _ (show S (128 * d + (16 * f + i)) - 1 < 128 by omega)).2.1]
    unfold fX6_read
    simp (disch := first | omega | assumption) only [l_0, l_1, l_2, l_3, l_4, l_5, l_6, l_7, l_8, l_11, l_12, l_15, l_16, l_31, l_32, l_66, l_80, l_100, l_127, l_128, l_768, l_2304, l_2310, l_2316, l_2388, l_2394, l_2406, l_2418, l_2430, l_2558, l_2686, l_2814, l_2942, l_3070, l_3390, l_3394, l_3395, l_3396, l_3397, n_leT, n_leF, n_ltT, n_ltF, n_eqT, n_eqF, nI_add, pk_mul, n_sub, z_ldn, z_san, z_bs, z_b2s, z_b3s, z_ocN, z_ocS, z_oxL, z_oxR, z_scL, z_scR, ↓reduceIte, Nat.zero_add, Nat.add_zero, Nat.zero_lt_succ, true_and, and_true, eq_self, cDs_ok hR.2.1 hd h1, z_gdp hk, cPl_ok hf hi, cBo hp, hT, cVal]
theorem k_blockAt {n : Nat} {M : zM} {N : Nat → Int32} {S : Nat → Nat} (hR : z_R1 1 M N S) (hI : z_I n S) {d : Nat} (hd : d < 6) (h1 : S (2304 + d) = 1) {f i : Nat} (hf : f < 8) (hi : i < 16) : fX6_blockAt 0 (nI d) (nI f) (nI i) M = some (.inr (nI (S (128 * d + (16 * f + i))) - nI 1)) := by
  have hp : 16 * f + i < 128 := by omega
  have hT := hR.1 d (by omega) (16 * f + i) hp
  unfold fX6_blockAt
  simp (disch := first | omega | assumption) only [l_0, l_1, l_2, l_3, l_4, l_5, l_6, l_7, l_8, l_11, l_12, l_15, l_16, l_31, l_32, l_66, l_80, l_100, l_127, l_128, l_768, l_2304, l_2310, l_2316, l_2388, l_2394, l_2406, l_2418, l_2430, l_2558, l_2686, l_2814, l_2942, l_3070, l_3390, l_3394, l_3395, l_3396, l_3397, n_leT, n_leF, n_ltT, n_ltF, n_eqT, n_eqF, nI_add, pk_mul, n_sub, z_ldn, z_san, z_bs, z_b2s, z_b3s, z_ocN, z_ocS, z_oxL, z_oxR, z_scL, z_scR, ↓reduceIte, Nat.zero_add, Nat.add_zero, Nat.zero_lt_succ, true_and, and_true, eq_self, cDs_ok hR.2.1 hd h1, z_gdp (kd1_ds hd), cPl_ok hf hi, cBo hp, hT]
theorem k_length {n : Nat} {M : zM} {N : Nat → Int32} {S : Nat → Nat} (hR : z_R1 1 M N S) (hI : z_I n S) {d : Nat} (hd : d < 6) (h1 : S (2304 + d) = 1) {f : Nat} (hf : f < 8) : fX6_length 0 (nI d) (nI f) M = some (.inr (nI (lenN (fun i => S (128 * d + (16 * f + i))) 16))) := by
  have hk := kd1_ds hd
  have hT := hR.1 d (by omega)
  have hpl := cPl_ok (M := M) (f := f) (i := 0) hf (by omega)
  have hx := fun i (hi : i < 16) => I_tab hI (128 * d + (16 * f + i)) (by omega)
  have e := z_loopC (f := fun s : Int32 × Int32 => fX6_length_L1 M (1 + 9 + 3 * d) (nI (16 * f + 0)) s.1 s.2) (fun i => (nI (lenN (fun i => S (128 * d + (16 * f + i))) i), nI i)) 16 (nI (lenN (fun i => S (128 * d + (16 * f + i))) 16)) (by decide) (fun i hi => by
    have hx1 := hx i hi
    have hq := hT (16 * f + i) (by omega)
    by_cases q : S (128 * d + (16 * f + i)) = 0
    · simp (disch := first | omega | assumption) only [l_0, l_1, l_2, l_3, l_4, l_5, l_6, l_7, l_8, l_11, l_12, l_15, l_16, l_31, l_32, l_66, l_80, l_100, l_127, l_128, l_768, l_2304, l_2310, l_2316, l_2388, l_2394, l_2406, l_2418, l_2430, l_2558, l_2686, l_2814, l_2942, l_3070, l_3390, l_3394, l_3395, l_3396, l_3397, n_leT, n_leF, n_ltT, n_ltF, n_eqT, n_eqF, nI_add, pk_mul, n_sub, z_ldn, z_san, z_bs, z_b2s, z_b3s, z_ocN, z_ocS, z_oxL, z_oxR, z_scL, z_scR, ↓reduceIte, Nat.zero_add, Nat.add_zero, Nat.zero_lt_succ, true_and, and_true, eq_self, fX6_length_L1, cBo, hq, q, n_m0b, lenN]
    · have q2 : 1 ≤ S (128 * d + (16 * f + i)) := by omega
      simp (disch := first | omega | assumption) only [l_0, l_1, l_2, l_3, l_4, l_5, l_6, l_7, l_8, l_11, l_12, l_15, l_16, l_31, l_32, l_66, l_80, l_100, l_127, l_128, l_768, l_2304, l_2310, l_2316, l_2388, l_2394, l_2406, l_2418, l_2430, l_2558, l_2686, l_2814, l_2942, l_3070, l_3390, l_3394, l_3395, l_3396, l_3397, n_leT, n_leF, n_ltT, n_ltF, n_eqT, n_eqF, nI_add, pk_mul, n_sub, z_ldn, z_san, z_bs, z_b2s, z_b3s, z_ocN, z_ocS, z_oxL, z_oxR, z_scL, z_scR, ↓reduceIte, Nat.zero_add, Nat.add_zero, Nat.zero_lt_succ, true_and, and_true, eq_self, fX6_length_L1, cBo, hq, n_m1c, lenN, q]) (by simp (disch := first | omega | assumption) only [l_0, l_1, l_2, l_3, l_4, l_5, l_6, l_7, l_8, l_11, l_12, l_15, l_16, l_31, l_32, l_66, l_80, l_100, l_127, l_128, l_768, l_2304, l_2310, l_2316, l_2388, l_2394, l_2406, l_2418, l_2430, l_2558, l_2686, l_2814, l_2942, l_3070, l_3390, l_3394, l_3395, l_3396, l_3397, n_leT, n_leF, n_ltT, n_ltF, n_eqT, n_eqF, nI_add, pk_mul, n_sub, z_ldn, z_san, z_bs, z_b2s, z_b3s, z_ocN, z_ocS, z_oxL, z_oxR, z_scL, z_scR, ↓reduceIte, Nat.zero_add, Nat.add_zero, Nat.zero_lt_succ, true_and, and_true, eq_self, fX6_length_L1])
  unfold fX6_length
  simp (disch := first | omega | assumption) only [l_0, l_1, l_2, l_3, l_4, l_5, l_6, l_7, l_8, l_11, l_12, l_15, l_16, l_31, l_32, l_66, l_80, l_100, l_127, l_128, l_768, l_2304, l_2310, l_2316, l_2388, l_2394, l_2406, l_2418, l_2430, l_2558, l_2686, l_2814, l_2942, l_3070, l_3390, l_3394, l_3395, l_3396, l_3397, n_leT, n_leF, n_ltT, n_ltF, n_eqT, n_eqF, nI_add, pk_mul, n_sub, z_ldn, z_san, z_bs, z_b2s, z_b3s, z_ocN, z_ocS, z_oxL, z_oxR, z_scL, z_scR, ↓reduceIte, Nat.zero_add, Nat.add_zero, Nat.zero_lt_succ, true_and, and_true, eq_self, cDs_ok hR.2.1 hd h1, z_gdp hk, hpl]
  rw [show z_loop (fun s : Int32 × Int32 => fX6_length_L1 M (1 + 9 + 3 * d) (nI (16 * f)) s.1 s.2) z_FU (nI 0, nI 0) = _ from e]
  simp (disch := first | omega | assumption) only [l_0, l_1, l_2, l_3, l_4, l_5, l_6, l_7, l_8, l_11, l_12, l_15, l_16, l_31, l_32, l_66, l_80, l_100, l_127, l_128, l_768, l_2304, l_2310, l_2316, l_2388, l_2394, l_2406, l_2418, l_2430, l_2558, l_2686, l_2814, l_2942, l_3070, l_3390, l_3394, l_3395, l_3396, l_3397, n_leT, n_leF, n_ltT, n_ltF, n_eqT, n_eqF, nI_add, pk_mul, n_sub, z_ldn, z_san, z_bs, z_b2s, z_b3s, z_ocN, z_ocS, z_oxL, z_oxR, z_scL, z_scR, ↓reduceIte, Nat.zero_add, Nat.add_zero, Nat.zero_lt_succ, true_and, and_true, eq_self]
theorem k_origin {n : Nat} {M : zM} {N : Nat → Int32} {S : Nat → Nat} (hR : z_R1 1 M N S) (hI : z_I n S) {d : Nat} (hd : d < 6) (h1 : S (2304 + d) = 1) : fX6_origin 0 (nI d) M = some (.inr (nI (z_onum S d) - nI 1)) := by
  unfold fX6_origin
  simp (disch := first | omega | assumption) only [l_0, l_1, l_2, l_3, l_4, l_5, l_6, l_7, l_8, l_11, l_12, l_15, l_16, l_31, l_32, l_66, l_80, l_100, l_127, l_128, l_768, l_2304, l_2310, l_2316, l_2388, l_2394, l_2406, l_2418, l_2430, l_2558, l_2686, l_2814, l_2942, l_3070, l_3390, l_3394, l_3395, l_3396, l_3397, n_leT, n_leF, n_ltT, n_ltF, n_eqT, n_eqF, nI_add, pk_mul, n_sub, z_ldn, z_san, z_bs, z_b2s, z_b3s, z_ocN, z_ocS, z_oxL, z_oxR, z_scL, z_scR, ↓reduceIte, Nat.zero_add, Nat.add_zero, Nat.zero_lt_succ, true_and, and_true, eq_self, cDs_ok hR.2.1 hd h1, z_gdp (kd1_ds hd), (hR.2.1 d hd).2]
theorem z_sn_tab {V : Nat} {M : zM} {S : Nat → Nat} (h : R_tab V M S) {s p : Nat} (hs : s < 12) (hp : p < 128) : M (V + 27 + 3 * s + 1 + 1) p = nI (S (768 + 128 * s + p)) - nI 1 := by
  have hT := h (6 + s) (by omega) p hp
  rw [show V + 9 + 3 * (6 + s) + 1 + 1 = V + 27 + 3 * s + 1 + 1 by omega, show 128 * (6 + s) + p = 768 + 128 * s + p by omega] at hT
  exact hT
theorem k_readS {n : Nat} (hn : n < 512) {M : zM} {N : Nat → Int32} {S : Nat → Nat} (hR : z_R1 1 M N S) (hI : z_I n S) {s : Nat} (hs : s < 12) (h1 : S (2394 + s) ≠ 0) {f i : Nat} (hf : f < 8) (hi : i < 16) : fX6_readSnapshot 0 (nI (S (2394 + s) - 1)) (nI f) (nI i) M = some (.inr (z_val N (S (768 + 128 * s + (16 * f + i))))) := by
  have hb := hb30 hI hn
  have hp : 16 * f + i < 128 := by omega
  have hx := I_tab hI (768 + 128 * s + (16 * f + i)) (by omega)
  have hT := z_sn_tab hR.1 hs hp
  unfold z_val
  rcases Nat.eq_zero_or_pos (S (768 + 128 * s + (16 * f + i))) with q | q
  · rw [if_pos q]
    unfold fX6_readSnapshot
    simp (disch := first | omega | assumption) only [l_0, l_1, l_2, l_3, l_4, l_5, l_6, l_7, l_8, l_11, l_12, l_15, l_16, l_31, l_32, l_66, l_80, l_100, l_127, l_128, l_768, l_2304, l_2310, l_2316, l_2388, l_2394, l_2406, l_2418, l_2430, l_2558, l_2686, l_2814, l_2942, l_3070, l_3390, l_3394, l_3395, l_3396, l_3397, n_leT, n_leF, n_ltT, n_ltF, n_eqT, n_eqF, nI_add, pk_mul, n_sub, z_ldn, z_san, z_bs, z_b2s, z_b3s, z_ocN, z_ocS, z_oxL, z_oxR, z_scL, z_scR, ↓reduceIte, Nat.zero_add, Nat.add_zero, Nat.zero_lt_succ, true_and, and_true, eq_self, cSn_ok hR.2.2.1 (I_num hI) hb hs h1, z_gdp (kd1_sn hs), cPl_ok hf hi, cBo hp, hT, q, cVal0]
  · rw [if_neg (by omega), ← (hR.2.2.2.1 _ (show S (768 + 128 * s + (16 * f + i)) - 1 < 128 by omega)).2.1]
    unfold fX6_readSnapshot
    simp (disch := first | omega | assumption) only [l_0, l_1, l_2, l_3, l_4, l_5, l_6, l_7, l_8, l_11, l_12, l_15, l_16, l_31, l_32, l_66, l_80, l_100, l_127, l_128, l_768, l_2304, l_2310, l_2316, l_2388, l_2394, l_2406, l_2418, l_2430, l_2558, l_2686, l_2814, l_2942, l_3070, l_3390, l_3394, l_3395, l_3396, l_3397, n_leT, n_leF, n_ltT, n_ltF, n_eqT, n_eqF, nI_add, pk_mul, n_sub, z_ldn, z_san, z_bs, z_b2s, z_b3s, z_ocN, z_ocS, z_oxL, z_oxR, z_scL, z_scR, ↓reduceIte, Nat.zero_add, Nat.add_zero, Nat.zero_lt_succ, true_and, and_true, eq_self, cSn_ok hR.2.2.1 (I_num hI) hb hs h1, z_gdp (kd1_sn hs), cPl_ok hf hi, cBo hp, hT, cVal]
theorem k_blockS {n : Nat} (hn : n < 512) {M : zM} {N : Nat → Int32} {S : Nat → Nat} (hR : z_R1 1 M N S) (hI : z_I n S) {s : Nat} (hs : s < 12) (h1 : S (2394 + s) ≠ 0) {f i : Nat} (hf : f < 8) (hi : i < 16) : fX6_blockInSnapshot 0 (nI (S (2394 + s) - 1)) (nI f) (nI i) M = some (.inr (nI (S (768 + 128 * s + (16 * f + i))) - nI 1)) := by
  have hb := hb30 hI hn
  have hp : 16 * f + i < 128 := by omega
  have hT := z_sn_tab hR.1 hs hp
  unfold fX6_blockInSnapshot
  simp (disch := first | omega | assumption) only [l_0, l_1, l_2, l_3, l_4, l_5, l_6, l_7, l_8, l_11, l_12, l_15, l_16, l_31, l_32, l_66, l_80, l_100, l_127, l_128, l_768, l_2304, l_2310, l_2316, l_2388, l_2394, l_2406, l_2418, l_2430, l_2558, l_2686, l_2814, l_2942, l_3070, l_3390, l_3394, l_3395, l_3396, l_3397, n_leT, n_leF, n_ltT, n_ltF, n_eqT, n_eqF, nI_add, pk_mul, n_sub, z_ldn, z_san, z_bs, z_b2s, z_b3s, z_ocN, z_ocS, z_oxL, z_oxR, z_scL, z_scR, ↓reduceIte, Nat.zero_add, Nat.add_zero, Nat.zero_lt_succ, true_and, and_true, eq_self, cSn_ok hR.2.2.1 (I_num hI) hb hs h1, z_gdp (kd1_sn hs), cPl_ok hf hi, cBo hp, hT]
theorem k_tran {n : Nat} (hn : n < 512) {M : zM} {N : Nat → Int32} {S : Nat → Nat} (hR : z_R1 1 M N S) (hI : z_I n S) {s : Nat} (hs : s < 12) (h1 : S (2394 + s) ≠ 0) : fX6_transactionOf 0 (nI (S (2394 + s) - 1)) M = some (.inr (nI (S (2406 + s)))) := by
  have hb := hb30 hI hn
  unfold fX6_transactionOf
  simp (disch := first | omega | assumption) only [l_0, l_1, l_2, l_3, l_4, l_5, l_6, l_7, l_8, l_11, l_12, l_15, l_16, l_31, l_32, l_66, l_80, l_100, l_127, l_128, l_768, l_2304, l_2310, l_2316, l_2388, l_2394, l_2406, l_2418, l_2430, l_2558, l_2686, l_2814, l_2942, l_3070, l_3390, l_3394, l_3395, l_3396, l_3397, n_leT, n_leF, n_ltT, n_ltF, n_eqT, n_eqF, nI_add, pk_mul, n_sub, z_ldn, z_san, z_bs, z_b2s, z_b3s, z_ocN, z_ocS, z_oxL, z_oxR, z_scL, z_scR, ↓reduceIte, Nat.zero_add, Nat.add_zero, Nat.zero_lt_succ, true_and, and_true, eq_self, cSn_ok hR.2.2.1 (I_num hI) hb hs h1, z_gdp (kd1_sn hs), ((hR.2.2.1 s hs).2 h1).2.2.1]
theorem k_dsOf {n : Nat} (hn : n < 512) {M : zM} {N : Nat → Int32} {S : Nat → Nat} (hR : z_R1 1 M N S) (hI : z_I n S) {s : Nat} (hs : s < 12) (h1 : S (2394 + s) ≠ 0) : fX6_datasetOf 0 (nI (S (2394 + s) - 1)) M = some (.inr (nI (S (2418 + s)))) := by
  have hb := hb30 hI hn
  unfold fX6_datasetOf
  simp (disch := first | omega | assumption) only [l_0, l_1, l_2, l_3, l_4, l_5, l_6, l_7, l_8, l_11, l_12, l_15, l_16, l_31, l_32, l_66, l_80, l_100, l_127, l_128, l_768, l_2304, l_2310, l_2316, l_2388, l_2394, l_2406, l_2418, l_2430, l_2558, l_2686, l_2814, l_2942, l_3070, l_3390, l_3394, l_3395, l_3396, l_3397, n_leT, n_leF, n_ltT, n_ltF, n_eqT, n_eqF, nI_add, pk_mul, n_sub, z_ldn, z_san, z_bs, z_b2s, z_b3s, z_ocN, z_ocS, z_oxL, z_oxR, z_scL, z_scR, ↓reduceIte, Nat.zero_add, Nat.add_zero, Nat.zero_lt_succ, true_and, and_true, eq_self, cSn_ok hR.2.2.1 (I_num hI) hb hs h1, z_gdp (kd1_sn hs), ((hR.2.2.1 s hs).2 h1).2.1]
theorem k_snaps {n : Nat} {M : zM} {N : Nat → Int32} {S : Nat → Nat} (hR : z_R1 1 M N S) (hI : z_I n S) {d : Nat} (hd : d < 6) (h1 : S (2304 + d) = 1) : fX6_snapshots 0 (nI d) M = some (.inr (nI (S (2388 + d)))) := by
  unfold fX6_snapshots
  simp (disch := first | omega | assumption) only [l_0, l_1, l_2, l_3, l_4, l_5, l_6, l_7, l_8, l_11, l_12, l_15, l_16, l_31, l_32, l_66, l_80, l_100, l_127, l_128, l_768, l_2304, l_2310, l_2316, l_2388, l_2394, l_2406, l_2418, l_2430, l_2558, l_2686, l_2814, l_2942, l_3070, l_3390, l_3394, l_3395, l_3396, l_3397, n_leT, n_leF, n_ltT, n_ltF, n_eqT, n_eqF, nI_add, pk_mul, n_sub, z_ldn, z_san, z_bs, z_b2s, z_b3s, z_ocN, z_ocS, z_oxL, z_oxR, z_scL, z_scR, ↓reduceIte, Nat.zero_add, Nat.add_zero, Nat.zero_lt_succ, true_and, and_true, eq_self, cDs_ok hR.2.1 hd h1, z_gdp (kd1_ds hd), cSo hR.2.2.1 hI hd]
theorem k_snapAt {n : Nat} (hn : n < 512) {M : zM} {N : Nat → Int32} {S : Nat → Nat} (hR : z_R1 1 M N S) (hI : z_I n S) {d : Nat} (hd : d < 6) (h1 : S (2304 + d) = 1) {r : Nat} (hr : r < S (2388 + d)) : fX6_snapshotAt 0 (nI d) (nI r) M = some (.inr (nI (S (2394 + z_ord S d r) - 1))) := by
  have hk12 := (I_ord hI d hd).1
  have ho := (I_ord hI d hd).2 r hr
  have hnb := I_nb hI _ ho.1
  have hsr := hR.2.2.1 _ ho.1
  unfold fX6_snapshotAt fX5_snapshotOfRank
  simp (disch := first | omega | assumption) only [l_0, l_1, l_2, l_3, l_4, l_5, l_6, l_7, l_8, l_11, l_12, l_15, l_16, l_31, l_32, l_66, l_80, l_100, l_127, l_128, l_768, l_2304, l_2310, l_2316, l_2388, l_2394, l_2406, l_2418, l_2430, l_2558, l_2686, l_2814, l_2942, l_3070, l_3390, l_3394, l_3395, l_3396, l_3397, n_leT, n_leF, n_ltT, n_ltF, n_eqT, n_eqF, nI_add, pk_mul, n_sub, z_ldn, z_san, z_bs, z_b2s, z_b3s, z_ocN, z_ocS, z_oxL, z_oxR, z_scL, z_scR, ↓reduceIte, Nat.zero_add, Nat.add_zero, Nat.zero_lt_succ, true_and, and_true, eq_self, cDs_ok hR.2.1 hd h1, z_gdp (kd1_ds hd)]
  rcases z_loopW (f := fun s9 => fX5_snapshotOfRank_L1 1 (nI d) (nI r) M s9) (fun i => i = z_ord S d r) (fun i => Sum.inr (some (1 + 27 + 3 * i))) (Sum.inl ()) 0 12 (by decide) (s := nI 0) rfl (fun i _ => Classical.em _) (fun i hi12 hne => by
    have hq := cBel hR.2.2.1 (I_own6 hI) hd hi12
    by_cases ha : S (2394 + i) ≠ 0 ∧ S (2418 + i) = d
    · obtain ⟨_, _, _, r2, b1, b2, b3⟩ := (hR.2.2.1 i hi12).2 ha.1
      rw [ha.2] at b2 b3
      have hne2 : r2 ≠ r := fun q => hne (by rw [← q, b3])
      simp (disch := first | omega | assumption) only [l_0, l_1, l_2, l_3, l_4, l_5, l_6, l_7, l_8, l_11, l_12, l_15, l_16, l_31, l_32, l_66, l_80, l_100, l_127, l_128, l_768, l_2304, l_2310, l_2316, l_2388, l_2394, l_2406, l_2418, l_2430, l_2558, l_2686, l_2814, l_2942, l_3070, l_3390, l_3394, l_3395, l_3396, l_3397, n_leT, n_leF, n_ltT, n_ltF, n_eqT, n_eqF, nI_add, pk_mul, n_sub, z_ldn, z_san, z_bs, z_b2s, z_b3s, z_ocN, z_ocS, z_oxL, z_oxR, z_scL, z_scR, ↓reduceIte, Nat.zero_add, Nat.add_zero, Nat.zero_lt_succ, true_and, and_true, eq_self, fX5_snapshotOfRank_L1, z_lq12, hq, z_own, if_pos ha, b1]
    · simp (disch := first | omega | assumption) only [l_0, l_1, l_2, l_3, l_4, l_5, l_6, l_7, l_8, l_11, l_12, l_15, l_16, l_31, l_32, l_66, l_80, l_100, l_127, l_128, l_768, l_2304, l_2310, l_2316, l_2388, l_2394, l_2406, l_2418, l_2430, l_2558, l_2686, l_2814, l_2942, l_3070, l_3390, l_3394, l_3395, l_3396, l_3397, n_leT, n_leF, n_ltT, n_ltF, n_eqT, n_eqF, nI_add, pk_mul, n_sub, z_ldn, z_san, z_bs, z_b2s, z_b3s, z_ocN, z_ocS, z_oxL, z_oxR, z_scL, z_scR, ↓reduceIte, Nat.zero_add, Nat.add_zero, Nat.zero_lt_succ, true_and, and_true, eq_self, fX5_snapshotOfRank_L1, z_lq12, hq, z_own, if_neg ha]) (fun i hi12 hie => by
    have hq := cBel hR.2.2.1 (I_own6 hI) hd hi12
    subst hie
    obtain ⟨_, _, _, r2, b1, b2, b3⟩ := hsr.2 ho.2.1
    rw [ho.2.2] at b2 b3
    have hr2 : r2 = r := I_inj2 hI hd b2 hr b3
    simp (disch := first | omega | assumption) only [l_0, l_1, l_2, l_3, l_4, l_5, l_6, l_7, l_8, l_11, l_12, l_15, l_16, l_31, l_32, l_66, l_80, l_100, l_127, l_128, l_768, l_2304, l_2310, l_2316, l_2388, l_2394, l_2406, l_2418, l_2430, l_2558, l_2686, l_2814, l_2942, l_3070, l_3390, l_3394, l_3395, l_3396, l_3397, n_leT, n_leF, n_ltT, n_ltF, n_eqT, n_eqF, nI_add, pk_mul, n_sub, z_ldn, z_san, z_bs, z_b2s, z_b3s, z_ocN, z_ocS, z_oxL, z_oxR, z_scL, z_scR, ↓reduceIte, Nat.zero_add, Nat.add_zero, Nat.zero_lt_succ, true_and, and_true, eq_self, fX5_snapshotOfRank_L1, z_lq12, hq, z_own, if_pos ho.2, b1, hr2]) (by simp (disch := first | omega | assumption) only [l_0, l_1, l_2, l_3, l_4, l_5, l_6, l_7, l_8, l_11, l_12, l_15, l_16, l_31, l_32, l_66, l_80, l_100, l_127, l_128, l_768, l_2304, l_2310, l_2316, l_2388, l_2394, l_2406, l_2418, l_2430, l_2558, l_2686, l_2814, l_2942, l_3070, l_3390, l_3394, l_3395, l_3396, l_3397, n_leT, n_leF, n_ltT, n_ltF, n_eqT, n_eqF, nI_add, pk_mul, n_sub, z_ldn, z_san, z_bs, z_b2s, z_b3s, z_ocN, z_ocS, z_oxL, z_oxR, z_scL, z_scR, ↓reduceIte, Nat.zero_add, Nat.add_zero, Nat.zero_lt_succ, true_and, and_true, eq_self, fX5_snapshotOfRank_L1]) with ⟨i, q1, q2, q3, q4⟩ | ⟨q1, q2⟩
  · have e : S (2394 + z_ord S d r) - 1 + 0 = S (2394 + z_ord S d r) - 1 := rfl
    rw [q4, q2]
    simp (disch := first | omega | assumption) only [l_0, l_1, l_2, l_3, l_4, l_5, l_6, l_7, l_8, l_11, l_12, l_15, l_16, l_31, l_32, l_66, l_80, l_100, l_127, l_128, l_768, l_2304, l_2310, l_2316, l_2388, l_2394, l_2406, l_2418, l_2430, l_2558, l_2686, l_2814, l_2942, l_3070, l_3390, l_3394, l_3395, l_3396, l_3397, n_leT, n_leF, n_ltT, n_ltF, n_eqT, n_eqF, nI_add, pk_mul, n_sub, z_ldn, z_san, z_bs, z_b2s, z_b3s, z_ocN, z_ocS, z_oxL, z_oxR, z_scL, z_scR, ↓reduceIte, Nat.zero_add, Nat.add_zero, Nat.zero_lt_succ, true_and, and_true, eq_self, z_gdp (kd1_sn ho.1), (hsr.2 ho.2.1).1]
  · exact absurd rfl (q1 _ ho.1)
theorem k_changed {n : Nat} (hn : n < 512) {M : zM} {N : Nat → Int32} {S : Nat → Nat} (hR : z_R1 1 M N S) (hI : z_I n S) {s : Nat} (hs : s < 12) (h1 : S (2394 + s) ≠ 0) {d : Nat} (hd : d < 6) (h2 : S (2304 + d) = 1) : fX6_changed 0 (nI (S (2394 + s) - 1)) (nI d) M = some (.inr (nI (sumN (fun p => if S (128 * d + p) = S (768 + 128 * s + p) then 0 else 1) 128))) := by
  have hb := hb30 hI hn
  have e1 : 1 + 27 + 3 * s = 1 + 9 + 3 * (6 + s) := by omega
  have hT := hR.1 d (by omega)
  have hT2 := hR.1 (6 + s) (by omega)
  rw [← e1] at hT2
  have hx1 := fun p (hp : p < 128) => I_tab hI (128 * d + p) (by omega)
  have hx2 := fun p (hp : p < 128) => I_tab hI (768 + 128 * s + p) (by omega)
  unfold fX6_changed
  simp (disch := first | omega | assumption) only [l_0, l_1, l_2, l_3, l_4, l_5, l_6, l_7, l_8, l_11, l_12, l_15, l_16, l_31, l_32, l_66, l_80, l_100, l_127, l_128, l_768, l_2304, l_2310, l_2316, l_2388, l_2394, l_2406, l_2418, l_2430, l_2558, l_2686, l_2814, l_2942, l_3070, l_3390, l_3394, l_3395, l_3396, l_3397, n_leT, n_leF, n_ltT, n_ltF, n_eqT, n_eqF, nI_add, pk_mul, n_sub, z_ldn, z_san, z_bs, z_b2s, z_b3s, z_ocN, z_ocS, z_oxL, z_oxR, z_scL, z_scR, ↓reduceIte, Nat.zero_add, Nat.add_zero, Nat.zero_lt_succ, true_and, and_true, eq_self, cSn_ok hR.2.2.1 (I_num hI) hb hs h1, z_gdp (kd1_sn hs), cDs_ok hR.2.1 hd h2, z_gdp (kd1_ds hd)]
  rw [z_loopS (f := fun s9 : Int32 × Int32 => fX6_changed_L1 M (1 + 27 + 3 * s) (1 + 9 + 3 * d) s9.1 s9.2) (fun p => if S (128 * d + p) = S (768 + 128 * s + p) then 0 else 1) 0 128 (by decide) (s := (nI 0, nI 0)) rfl (fun p x hp => by
    have q1 := hx1 p hp
    have q2 := hx2 p hp
    have e2 : 128 * (6 + s) + p = 768 + 128 * s + p := by omega
    have hT2' := hT2 p hp
    rw [e2] at hT2'
    by_cases q : S (128 * d + p) = S (768 + 128 * s + p)
    · simp (disch := first | omega | assumption) only [l_0, l_1, l_2, l_3, l_4, l_5, l_6, l_7, l_8, l_11, l_12, l_15, l_16, l_31, l_32, l_66, l_80, l_100, l_127, l_128, l_768, l_2304, l_2310, l_2316, l_2388, l_2394, l_2406, l_2418, l_2430, l_2558, l_2686, l_2814, l_2942, l_3070, l_3390, l_3394, l_3395, l_3396, l_3397, n_leT, n_leF, n_ltT, n_ltF, n_eqT, n_eqF, nI_add, pk_mul, n_sub, z_ldn, z_san, z_bs, z_b2s, z_b3s, z_ocN, z_ocS, z_oxL, z_oxR, z_scL, z_scR, ↓reduceIte, Nat.zero_add, Nat.add_zero, Nat.zero_lt_succ, true_and, and_true, eq_self, fX6_changed_L1, cBo, hT p hp, hT2', q]
    · have q3 : (nI (S (768 + 128 * s + p)) - nI 1 = nI (S (128 * d + p)) - nI 1) = False := eq_false (fun e => q ((n_sub_eq (by omega) (by omega)).mp e).symm)
      simp (disch := first | omega | assumption) only [l_0, l_1, l_2, l_3, l_4, l_5, l_6, l_7, l_8, l_11, l_12, l_15, l_16, l_31, l_32, l_66, l_80, l_100, l_127, l_128, l_768, l_2304, l_2310, l_2316, l_2388, l_2394, l_2406, l_2418, l_2430, l_2558, l_2686, l_2814, l_2942, l_3070, l_3390, l_3394, l_3395, l_3396, l_3397, n_leT, n_leF, n_ltT, n_ltF, n_eqT, n_eqF, nI_add, pk_mul, n_sub, z_ldn, z_san, z_bs, z_b2s, z_b3s, z_ocN, z_ocS, z_oxL, z_oxR, z_scL, z_scR, ↓reduceIte, Nat.zero_add, Nat.add_zero, Nat.zero_lt_succ, true_and, and_true, eq_self, fX6_changed_L1, cBo, hT p hp, hT2', q3, if_neg q]) (fun x => by simp (disch := first | omega | assumption) only [l_0, l_1, l_2, l_3, l_4, l_5, l_6, l_7, l_8, l_11, l_12, l_15, l_16, l_31, l_32, l_66, l_80, l_100, l_127, l_128, l_768, l_2304, l_2310, l_2316, l_2388, l_2394, l_2406, l_2418, l_2430, l_2558, l_2686, l_2814, l_2942, l_3070, l_3390, l_3394, l_3395, l_3396, l_3397, n_leT, n_leF, n_ltT, n_ltF, n_eqT, n_eqF, nI_add, pk_mul, n_sub, z_ldn, z_san, z_bs, z_b2s, z_b3s, z_ocN, z_ocS, z_oxL, z_oxR, z_scL, z_scR, ↓reduceIte, Nat.zero_add, Nat.add_zero, Nat.zero_lt_succ, true_and, and_true, eq_self, fX6_changed_L1])]
  simp (disch := first | omega | assumption) only [l_0, l_1, l_2, l_3, l_4, l_5, l_6, l_7, l_8, l_11, l_12, l_15, l_16, l_31, l_32, l_66, l_80, l_100, l_127, l_128, l_768, l_2304, l_2310, l_2316, l_2388, l_2394, l_2406, l_2418, l_2430, l_2558, l_2686, l_2814, l_2942, l_3070, l_3390, l_3394, l_3395, l_3396, l_3397, n_leT, n_leF, n_ltT, n_ltF, n_eqT, n_eqF, nI_add, pk_mul, n_sub, z_ldn, z_san, z_bs, z_b2s, z_b3s, z_ocN, z_ocS, z_oxL, z_oxR, z_scL, z_scR, ↓reduceIte, Nat.zero_add, Nat.add_zero, Nat.zero_lt_succ, true_and, and_true, eq_self]
theorem k_refd {n : Nat} {M : zM} {N : Nat → Int32} {S : Nat → Nat} (hR : z_R1 1 M N S) (hI : z_I n S) {d : Nat} (hd : d < 6) (h1 : S (2304 + d) = 1) : ∃ M2, fX6_referenced 0 (nI d) M = some (.inr (nI (sumN (fun b => if z_in1 S (128 * d) b = 0 then 0 else 1) 128)), M2) ∧ ∀ a, a ≠ 168 → M2 a = M a := by
  have hx := fun p (hp : p < 128) => I_tab hI (128 * d + p) (by omega)
  obtain ⟨M2, e1, e2, e3⟩ := cCu (M := M) (S := S) (T := 1 + 9 + 3 * d + 1) (k := 128 * d) (hR.1 d (by omega)) hx (by omega)
  refine ⟨M2, ?_, e2⟩
  unfold fX6_referenced
  simp (disch := first | omega | assumption) only [l_0, l_1, l_2, l_3, l_4, l_5, l_6, l_7, l_8, l_11, l_12, l_15, l_16, l_31, l_32, l_66, l_80, l_100, l_127, l_128, l_768, l_2304, l_2310, l_2316, l_2388, l_2394, l_2406, l_2418, l_2430, l_2558, l_2686, l_2814, l_2942, l_3070, l_3390, l_3394, l_3395, l_3396, l_3397, n_leT, n_leF, n_ltT, n_ltF, n_eqT, n_eqF, nI_add, pk_mul, n_sub, z_ldn, z_san, z_bs, z_b2s, z_b3s, z_ocN, z_ocS, z_oxL, z_oxR, z_scL, z_scR, ↓reduceIte, Nat.zero_add, Nat.add_zero, Nat.zero_lt_succ, true_and, and_true, eq_self, cDs_ok hR.2.1 hd h1, z_gdp (kd1_ds hd), e1]
  rw [z_loopS (f := fun s : Int32 × Int32 => fX6_referenced_L1 0 M2 s.1 s.2) (fun b => if z_in1 S (128 * d) b = 0 then 0 else 1) 0 128 (by decide) (s := (nI 0, nI 0)) rfl (fun b x hb => by
    have hz := z_in1_le (S := S) (k := 128 * d) (b := b)
    by_cases q : z_in1 S (128 * d) b = 0
    · simp (disch := first | omega | assumption) only [l_0, l_1, l_2, l_3, l_4, l_5, l_6, l_7, l_8, l_11, l_12, l_15, l_16, l_31, l_32, l_66, l_80, l_100, l_127, l_128, l_768, l_2304, l_2310, l_2316, l_2388, l_2394, l_2406, l_2418, l_2430, l_2558, l_2686, l_2814, l_2942, l_3070, l_3390, l_3394, l_3395, l_3396, l_3397, n_leT, n_leF, n_ltT, n_ltF, n_eqT, n_eqF, nI_add, pk_mul, n_sub, z_ldn, z_san, z_bs, z_b2s, z_b3s, z_ocN, z_ocS, z_oxL, z_oxR, z_scL, z_scR, ↓reduceIte, Nat.zero_add, Nat.add_zero, Nat.zero_lt_succ, true_and, and_true, eq_self, fX6_referenced_L1, e3, q]
    · simp (disch := first | omega | assumption) only [l_0, l_1, l_2, l_3, l_4, l_5, l_6, l_7, l_8, l_11, l_12, l_15, l_16, l_31, l_32, l_66, l_80, l_100, l_127, l_128, l_768, l_2304, l_2310, l_2316, l_2388, l_2394, l_2406, l_2418, l_2430, l_2558, l_2686, l_2814, l_2942, l_3070, l_3390, l_3394, l_3395, l_3396, l_3397, n_leT, n_leF, n_ltT, n_ltF, n_eqT, n_eqF, nI_add, pk_mul, n_sub, z_ldn, z_san, z_bs, z_b2s, z_b3s, z_ocN, z_ocS, z_oxL, z_oxR, z_scL, z_scR, ↓reduceIte, Nat.zero_add, Nat.add_zero, Nat.zero_lt_succ, true_and, and_true, eq_self, fX6_referenced_L1, e3, if_neg q]) (fun x => by simp (disch := first | omega | assumption) only [l_0, l_1, l_2, l_3, l_4, l_5, l_6, l_7, l_8, l_11, l_12, l_15, l_16, l_31, l_32, l_66, l_80, l_100, l_127, l_128, l_768, l_2304, l_2310, l_2316, l_2388, l_2394, l_2406, l_2418, l_2430, l_2558, l_2686, l_2814, l_2942, l_3070, l_3390, l_3394, l_3395, l_3396, l_3397, n_leT, n_leF, n_ltT, n_ltF, n_eqT, n_eqF, nI_add, pk_mul, n_sub, z_ldn, z_san, z_bs, z_b2s, z_b3s, z_ocN, z_ocS, z_oxL, z_oxR, z_scL, z_scR, ↓reduceIte, Nat.zero_add, Nat.add_zero, Nat.zero_lt_succ, true_and, and_true, eq_self, fX6_referenced_L1])]
  simp (disch := first | omega | assumption) only [l_0, l_1, l_2, l_3, l_4, l_5, l_6, l_7, l_8, l_11, l_12, l_15, l_16, l_31, l_32, l_66, l_80, l_100, l_127, l_128, l_768, l_2304, l_2310, l_2316, l_2388, l_2394, l_2406, l_2418, l_2430, l_2558, l_2686, l_2814, l_2942, l_3070, l_3390, l_3394, l_3395, l_3396, l_3397, n_leT, n_leF, n_ltT, n_ltF, n_eqT, n_eqF, nI_add, pk_mul, n_sub, z_ldn, z_san, z_bs, z_b2s, z_b3s, z_ocN, z_ocS, z_oxL, z_oxR, z_scL, z_scR, ↓reduceIte, Nat.zero_add, Nat.add_zero, Nat.zero_lt_succ, true_and, and_true, eq_self]
theorem k_uniq {n : Nat} {M : zM} {N : Nat → Int32} {S : Nat → Nat} (hR : z_R1 1 M N S) (hI : z_I n S) {d : Nat} (hd : d < 6) (h1 : S (2304 + d) = 1) : ∃ M2, fX6_unique 0 (nI d) M = some (.inr (nI (sumN (fun b => if z_in1 S (128 * d) b = 0 then 0 else if z_in1 S (128 * d) b = S (2814 + b) then 1 else 0) 128)), M2) ∧ ∀ a, a ≠ 168 → M2 a = M a := by
  have hx := fun p (hp : p < 128) => I_tab hI (128 * d + p) (by omega)
  obtain ⟨M2, e1, e2⟩ := cOw (M := M) (S := S) (T := 1 + 9 + 3 * d + 1) (k := 128 * d) (hR.1 d (by omega)) hx (by omega) (fun b hb => (hR.2.2.2.1 b hb).2.2.2) (I_r2304 hI)
  refine ⟨M2, ?_, e2⟩
  unfold fX6_unique
  simp (disch := first | omega | assumption) only [l_0, l_1, l_2, l_3, l_4, l_5, l_6, l_7, l_8, l_11, l_12, l_15, l_16, l_31, l_32, l_66, l_80, l_100, l_127, l_128, l_768, l_2304, l_2310, l_2316, l_2388, l_2394, l_2406, l_2418, l_2430, l_2558, l_2686, l_2814, l_2942, l_3070, l_3390, l_3394, l_3395, l_3396, l_3397, n_leT, n_leF, n_ltT, n_ltF, n_eqT, n_eqF, nI_add, pk_mul, n_sub, z_ldn, z_san, z_bs, z_b2s, z_b3s, z_ocN, z_ocS, z_oxL, z_oxR, z_scL, z_scR, ↓reduceIte, Nat.zero_add, Nat.add_zero, Nat.zero_lt_succ, true_and, and_true, eq_self, cDs_ok hR.2.1 hd h1, z_gdp (kd1_ds hd), e1]
theorem k_uniqS {n : Nat} (hn : n < 512) {M : zM} {N : Nat → Int32} {S : Nat → Nat} (hR : z_R1 1 M N S) (hI : z_I n S) {s : Nat} (hs : s < 12) (h1 : S (2394 + s) ≠ 0) : ∃ M2, fX6_uniqueOfSnapshot 0 (nI (S (2394 + s) - 1)) M = some (.inr (nI (sumN (fun b => if z_in1 S (768 + 128 * s) b = 0 then 0 else if z_in1 S (768 + 128 * s) b = S (2814 + b) then 1 else 0) 128)), M2) ∧ ∀ a, a ≠ 168 → M2 a = M a := by
  have hb := hb30 hI hn
  have hx := fun p (hp : p < 128) => I_tab hI (768 + 128 * s + p) (by omega)
  obtain ⟨M2, e1, e2⟩ := cOw (M := M) (S := S) (T := 1 + 27 + 3 * s + 1) (k := 768 + 128 * s) (fun p hp => z_sn_tab hR.1 hs hp) hx (by omega) (fun b hb => (hR.2.2.2.1 b hb).2.2.2) (I_r2304 hI)
  refine ⟨M2, ?_, e2⟩
  unfold fX6_uniqueOfSnapshot
  simp (disch := first | omega | assumption) only [l_0, l_1, l_2, l_3, l_4, l_5, l_6, l_7, l_8, l_11, l_12, l_15, l_16, l_31, l_32, l_66, l_80, l_100, l_127, l_128, l_768, l_2304, l_2310, l_2316, l_2388, l_2394, l_2406, l_2418, l_2430, l_2558, l_2686, l_2814, l_2942, l_3070, l_3390, l_3394, l_3395, l_3396, l_3397, n_leT, n_leF, n_ltT, n_ltF, n_eqT, n_eqF, nI_add, pk_mul, n_sub, z_ldn, z_san, z_bs, z_b2s, z_b3s, z_ocN, z_ocS, z_oxL, z_oxR, z_scL, z_scR, ↓reduceIte, Nat.zero_add, Nat.add_zero, Nat.zero_lt_succ, true_and, and_true, eq_self, cSn_ok hR.2.2.1 (I_num hI) hb hs h1, z_gdp (kd1_sn hs), e1]
theorem k_newer {n : Nat} {M : zM} {N : Nat → Int32} {S : Nat → Nat} (hR : z_R1 1 M N S) (hI : z_I n S) {d : Nat} (hd : d < 6) (h1 : S (2304 + d) = 1) (a2 : Int32) : fX6_newer 0 (nI d) a2 M = some (.inr (nI (sumN (fun p => if S (128 * d + p) = 0 then 0 else if nI (S (2558 + (S (128 * d + p) - 1))) ≤ a2 then 0 else 1) 128))) := by
  have hx := fun p (hp : p < 128) => I_tab hI (128 * d + p) (by omega)
  have hT := hR.1 d (by omega)
  unfold fX6_newer
  simp (disch := first | omega | assumption) only [l_0, l_1, l_2, l_3, l_4, l_5, l_6, l_7, l_8, l_11, l_12, l_15, l_16, l_31, l_32, l_66, l_80, l_100, l_127, l_128, l_768, l_2304, l_2310, l_2316, l_2388, l_2394, l_2406, l_2418, l_2430, l_2558, l_2686, l_2814, l_2942, l_3070, l_3390, l_3394, l_3395, l_3396, l_3397, n_leT, n_leF, n_ltT, n_ltF, n_eqT, n_eqF, nI_add, pk_mul, n_sub, z_ldn, z_san, z_bs, z_b2s, z_b3s, z_ocN, z_ocS, z_oxL, z_oxR, z_scL, z_scR, ↓reduceIte, Nat.zero_add, Nat.add_zero, Nat.zero_lt_succ, true_and, and_true, eq_self, cDs_ok hR.2.1 hd h1, z_gdp (kd1_ds hd)]
  rw [z_loopS (f := fun s : Int32 × Int32 => fX6_newer_L1 0 a2 M (1 + 9 + 3 * d) s.1 s.2) (fun p => if S (128 * d + p) = 0 then 0 else if nI (S (2558 + (S (128 * d + p) - 1))) ≤ a2 then 0 else 1) 0 128 (by decide) (s := (nI 0, nI 0)) rfl (fun p x hp => by
    have hx1 := hx p hp
    by_cases q : S (128 * d + p) = 0
    · simp (disch := first | omega | assumption) only [l_0, l_1, l_2, l_3, l_4, l_5, l_6, l_7, l_8, l_11, l_12, l_15, l_16, l_31, l_32, l_66, l_80, l_100, l_127, l_128, l_768, l_2304, l_2310, l_2316, l_2388, l_2394, l_2406, l_2418, l_2430, l_2558, l_2686, l_2814, l_2942, l_3070, l_3390, l_3394, l_3395, l_3396, l_3397, n_leT, n_leF, n_ltT, n_ltF, n_eqT, n_eqF, nI_add, pk_mul, n_sub, z_ldn, z_san, z_bs, z_b2s, z_b3s, z_ocN, z_ocS, z_oxL, z_oxR, z_scL, z_scR, ↓reduceIte, Nat.zero_add, Nat.add_zero, Nat.zero_lt_succ, true_and, and_true, eq_self, fX6_newer_L1, cBo, hT p hp, q, n_m0b]
    · have hbi := (hR.2.2.2.1 (S (128 * d + p) - 1) (by omega)).2.2.1
      by_cases q2 : nI (S (2558 + (S (128 * d + p) - 1))) ≤ a2
      · simp (disch := first | omega | assumption) only [l_0, l_1, l_2, l_3, l_4, l_5, l_6, l_7, l_8, l_11, l_12, l_15, l_16, l_31, l_32, l_66, l_80, l_100, l_127, l_128, l_768, l_2304, l_2310, l_2316, l_2388, l_2394, l_2406, l_2418, l_2430, l_2558, l_2686, l_2814, l_2942, l_3070, l_3390, l_3394, l_3395, l_3396, l_3397, n_leT, n_leF, n_ltT, n_ltF, n_eqT, n_eqF, nI_add, pk_mul, n_sub, z_ldn, z_san, z_bs, z_b2s, z_b3s, z_ocN, z_ocS, z_oxL, z_oxR, z_scL, z_scR, ↓reduceIte, Nat.zero_add, Nat.add_zero, Nat.zero_lt_succ, true_and, and_true, eq_self, fX6_newer_L1, cBo, hT p hp, n_m1c, fX3_birthOf, cIb, hbi, if_neg q, if_pos q2]
      · simp (disch := first | omega | assumption) only [l_0, l_1, l_2, l_3, l_4, l_5, l_6, l_7, l_8, l_11, l_12, l_15, l_16, l_31, l_32, l_66, l_80, l_100, l_127, l_128, l_768, l_2304, l_2310, l_2316, l_2388, l_2394, l_2406, l_2418, l_2430, l_2558, l_2686, l_2814, l_2942, l_3070, l_3390, l_3394, l_3395, l_3396, l_3397, n_leT, n_leF, n_ltT, n_ltF, n_eqT, n_eqF, nI_add, pk_mul, n_sub, z_ldn, z_san, z_bs, z_b2s, z_b3s, z_ocN, z_ocS, z_oxL, z_oxR, z_scL, z_scR, ↓reduceIte, Nat.zero_add, Nat.add_zero, Nat.zero_lt_succ, true_and, and_true, eq_self, fX6_newer_L1, cBo, hT p hp, n_m1c, fX3_birthOf, cIb, hbi, if_neg q, if_neg q2]) (fun x => by simp (disch := first | omega | assumption) only [l_0, l_1, l_2, l_3, l_4, l_5, l_6, l_7, l_8, l_11, l_12, l_15, l_16, l_31, l_32, l_66, l_80, l_100, l_127, l_128, l_768, l_2304, l_2310, l_2316, l_2388, l_2394, l_2406, l_2418, l_2430, l_2558, l_2686, l_2814, l_2942, l_3070, l_3390, l_3394, l_3395, l_3396, l_3397, n_leT, n_leF, n_ltT, n_ltF, n_eqT, n_eqF, nI_add, pk_mul, n_sub, z_ldn, z_san, z_bs, z_b2s, z_b3s, z_ocN, z_ocS, z_oxL, z_oxR, z_scL, z_scR, ↓reduceIte, Nat.zero_add, Nat.add_zero, Nat.zero_lt_succ, true_and, and_true, eq_self, fX6_newer_L1])]
  simp (disch := first | omega | assumption) only [l_0, l_1, l_2, l_3, l_4, l_5, l_6, l_7, l_8, l_11, l_12, l_15, l_16, l_31, l_32, l_66, l_80, l_100, l_127, l_128, l_768, l_2304, l_2310, l_2316, l_2388, l_2394, l_2406, l_2418, l_2430, l_2558, l_2686, l_2814, l_2942, l_3070, l_3390, l_3394, l_3395, l_3396, l_3397, n_leT, n_leF, n_ltT, n_ltF, n_eqT, n_eqF, nI_add, pk_mul, n_sub, z_ldn, z_san, z_bs, z_b2s, z_b3s, z_ocN, z_ocS, z_oxL, z_oxR, z_scL, z_scR, ↓reduceIte, Nat.zero_add, Nat.add_zero, Nat.zero_lt_succ, true_and, and_true, eq_self]
theorem k_birth {n : Nat} {M : zM} {N : Nat → Int32} {S : Nat → Nat} (hR : z_R1 1 M N S) (hI : z_I n S) {b : Nat} (hb : b < 128) (q : S (2814 + b) ≠ 0) : fX6_birth 0 (nI b) M = some (.inr (nI (S (2558 + b)))) := by
  have e := cAl (I_st hR.2.2.2.1) hb
  unfold fX6_birth fX3_birthOf
  rw [if_neg q] at e
  simp (disch := first | omega | assumption) only [l_0, l_1, l_2, l_3, l_4, l_5, l_6, l_7, l_8, l_11, l_12, l_15, l_16, l_31, l_32, l_66, l_80, l_100, l_127, l_128, l_768, l_2304, l_2310, l_2316, l_2388, l_2394, l_2406, l_2418, l_2430, l_2558, l_2686, l_2814, l_2942, l_3070, l_3390, l_3394, l_3395, l_3396, l_3397, n_leT, n_leF, n_ltT, n_ltF, n_eqT, n_eqF, nI_add, pk_mul, n_sub, z_ldn, z_san, z_bs, z_b2s, z_b3s, z_ocN, z_ocS, z_oxL, z_oxR, z_scL, z_scR, ↓reduceIte, Nat.zero_add, Nat.add_zero, Nat.zero_lt_succ, true_and, and_true, eq_self, cBl_ok hb, e, cIb, (hR.2.2.2.1 b hb).2.2.1]
theorem k_refs {n : Nat} {M : zM} {N : Nat → Int32} {S : Nat → Nat} (hR : z_R1 1 M N S) (hI : z_I n S) {b : Nat} (hb : b < 128) : fX6_references 0 (nI b) M = some (.inr (nI (S (2814 + b)))) := by
  unfold fX6_references fX3_usesOf
  simp (disch := first | omega | assumption) only [l_0, l_1, l_2, l_3, l_4, l_5, l_6, l_7, l_8, l_11, l_12, l_15, l_16, l_31, l_32, l_66, l_80, l_100, l_127, l_128, l_768, l_2304, l_2310, l_2316, l_2388, l_2394, l_2406, l_2418, l_2430, l_2558, l_2686, l_2814, l_2942, l_3070, l_3390, l_3394, l_3395, l_3396, l_3397, n_leT, n_leF, n_ltT, n_ltF, n_eqT, n_eqF, nI_add, pk_mul, n_sub, z_ldn, z_san, z_bs, z_b2s, z_b3s, z_ocN, z_ocS, z_oxL, z_oxR, z_scL, z_scR, ↓reduceIte, Nat.zero_add, Nat.add_zero, Nat.zero_lt_succ, true_and, and_true, eq_self, cBl_ok hb, cIb, (hR.2.2.2.1 b hb).2.2.2]
theorem k_free {n : Nat} {M : zM} {N : Nat → Int32} {S : Nat → Nat} (hR : z_R1 1 M N S) (hI : z_I n S) : fX6_free 0 M = some (nI (sumN (fun i => if z_sta S (0 + i) = 0 then 1 else 0) 128)) := by
  unfold fX6_free
  have e := cCt (sp := 0 + 1 + 3) (c := 0) (lo := 0) (e := 128) (I_st hR.2.2.2.1) (fun b _ => z_sta2) (by decide) (by decide)
  rw [show fX3_count (0 + 1 + 3) 0 0 128 M = _ from e]
  rfl
theorem k_pend {n : Nat} {M : zM} {N : Nat → Int32} {S : Nat → Nat} (hR : z_R1 1 M N S) (hI : z_I n S) : fX6_pending 0 M = some (nI (sumN (fun i => if z_sta S (0 + i) = 2 then 1 else 0) 128)) := by
  unfold fX6_pending
  have e := cCt (sp := 0 + 1 + 3) (c := 2) (lo := 0) (e := 128) (I_st hR.2.2.2.1) (fun b _ => z_sta2) (by decide) (by decide)
  rw [show fX3_count (0 + 1 + 3) 2 0 128 M = _ from e]
  rfl
theorem k_freeIn {n : Nat} {M : zM} {N : Nat → Int32} {S : Nat → Nat} (hR : z_R1 1 M N S) (hI : z_I n S) {r : Nat} (hr : r < 4) : fX6_freeIn 0 (nI r) M = some (.inr (nI (sumN (fun i => if z_sta S (32 * r + i) = 0 then 1 else 0) 32))) := by
  unfold fX6_freeIn fX3_freeInRegion
  have e := cCt (sp := 1 + 3) (c := 0) (lo := 32 * r) (e := 32) (I_st hR.2.2.2.1) (fun b _ => z_sta2) (by decide) (by omega)
  simp (disch := first | omega | assumption) only [l_0, l_1, l_2, l_3, l_4, l_5, l_6, l_7, l_8, l_11, l_12, l_15, l_16, l_31, l_32, l_66, l_80, l_100, l_127, l_128, l_768, l_2304, l_2310, l_2316, l_2388, l_2394, l_2406, l_2418, l_2430, l_2558, l_2686, l_2814, l_2942, l_3070, l_3390, l_3394, l_3395, l_3396, l_3397, n_leT, n_leF, n_ltT, n_ltF, n_eqT, n_eqF, nI_add, pk_mul, n_sub, z_ldn, z_san, z_bs, z_b2s, z_b3s, z_ocN, z_ocS, z_oxL, z_oxR, z_scL, z_scR, ↓reduceIte, Nat.zero_add, Nat.add_zero, Nat.zero_lt_succ, true_and, and_true, eq_self, cRe_ok hr, Nat.mul_comm r 32, e]
theorem k_logE {n : Nat} {M : zM} {N : Nat → Int32} {S : Nat → Nat} (hR : z_R1 1 M N S) (hI : z_I n S) {r : Nat} (hr : r < 4) : fX6_logEntries 0 (nI r) M = some (.inr (nI (S (3390 + r)))) := by
  unfold fX6_logEntries
  simp (disch := first | omega | assumption) only [l_0, l_1, l_2, l_3, l_4, l_5, l_6, l_7, l_8, l_11, l_12, l_15, l_16, l_31, l_32, l_66, l_80, l_100, l_127, l_128, l_768, l_2304, l_2310, l_2316, l_2388, l_2394, l_2406, l_2418, l_2430, l_2558, l_2686, l_2814, l_2942, l_3070, l_3390, l_3394, l_3395, l_3396, l_3397, n_leT, n_leF, n_ltT, n_ltF, n_eqT, n_eqF, nI_add, pk_mul, n_sub, z_ldn, z_san, z_bs, z_b2s, z_b3s, z_ocN, z_ocS, z_oxL, z_oxR, z_scL, z_scR, ↓reduceIte, Nat.zero_add, Nat.add_zero, Nat.zero_lt_succ, true_and, and_true, eq_self, cLo_ok hr, z_gdp (kd1_lg hr), (hR.2.2.2.2.1 r hr).2.1]
theorem k_trans {n : Nat} {M : zM} {N : Nat → Int32} {S : Nat → Nat} (hR : z_R1 1 M N S) (hI : z_I n S) : fX6_transaction 0 M = some (nI (S 3395)) := by
  unfold fX6_transaction
  simp (disch := first | omega | assumption) only [l_0, l_1, l_2, l_3, l_4, l_5, l_6, l_7, l_8, l_11, l_12, l_15, l_16, l_31, l_32, l_66, l_80, l_100, l_127, l_128, l_768, l_2304, l_2310, l_2316, l_2388, l_2394, l_2406, l_2418, l_2430, l_2558, l_2686, l_2814, l_2942, l_3070, l_3390, l_3394, l_3395, l_3396, l_3397, n_leT, n_leF, n_ltT, n_ltF, n_eqT, n_eqF, nI_add, pk_mul, n_sub, z_ldn, z_san, z_bs, z_b2s, z_b3s, z_ocN, z_ocS, z_oxL, z_oxR, z_scL, z_scR, ↓reduceIte, Nat.zero_add, Nat.add_zero, Nat.zero_lt_succ, true_and, and_true, eq_self, hR.2.2.2.2.2.1]
theorem k_cond {n : Nat} {M : zM} {N : Nat → Int32} {S : Nat → Nat} (hR : z_R1 1 M N S) (hI : z_I n S) : fX6_condensed 0 M = some (nI (S 3396)) := by
  unfold fX6_condensed
  simp (disch := first | omega | assumption) only [l_0, l_1, l_2, l_3, l_4, l_5, l_6, l_7, l_8, l_11, l_12, l_15, l_16, l_31, l_32, l_66, l_80, l_100, l_127, l_128, l_768, l_2304, l_2310, l_2316, l_2388, l_2394, l_2406, l_2418, l_2430, l_2558, l_2686, l_2814, l_2942, l_3070, l_3390, l_3394, l_3395, l_3396, l_3397, n_leT, n_leF, n_ltT, n_ltF, n_eqT, n_eqF, nI_add, pk_mul, n_sub, z_ldn, z_san, z_bs, z_b2s, z_b3s, z_ocN, z_ocS, z_oxL, z_oxR, z_scL, z_scR, ↓reduceIte, Nat.zero_add, Nat.add_zero, Nat.zero_lt_succ, true_and, and_true, eq_self, hR.2.2.2.2.2.2.2]
theorem k_dss {n : Nat} {M : zM} {N : Nat → Int32} {S : Nat → Nat} (hR : z_R1 1 M N S) (hI : z_I n S) : fX6_datasets 0 M = some (nI (sumN (fun d => S (2304 + d)) 6)) := by
  have hx := I_ex hI
  unfold fX6_datasets
  rw [show fX5_countDatasets (0 + 1) M = _ from cCd hR.2.1 hx]
  rfl
/-- an entry of a log, by its number in N -/
theorem z_entry_inj {x : Int32} {f l f2 l2 m2 : Nat} {m : Int32} (h1 : z_entry x f l m) (h2 : z_entry x f2 l2 (nI m2)) (hf : f ≤ 128) (hl : 1 ≤ l) (hl2 : l ≤ 32) (hf2 : f2 ≤ 128) (hk : 1 ≤ l2) (hk2 : l2 ≤ 32) : f = f2 ∧ l = l2 ∧ m = nI m2 := by
  have neg : ∀ a b : Nat, a < 2 ^ 20 → 1 ≤ b → b < 2 ^ 20 → nI a ≠ -nI b := fun a b ha hb hb2 q => by
    have q2 : (nI a).toInt = (-nI b).toInt := by rw [q]
    rw [nI_toInt (by omega), show -nI b = nI 0 - nI b from (Int32.zero_sub _).symm, pk_sub_toInt (by decide) (by omega)] at q2
    omega
  have inj : ∀ a b : Nat, a < 2 ^ 20 → b < 2 ^ 20 → -nI a = -nI b → a = b := fun a b ha hb q => (nI_eq (by omega) (by omega)).mp (by rw [← n_nn (x := a), q, n_nn])
  rcases h1 with ⟨a1, a2⟩ | ⟨a1, a2⟩ <;> rcases h2 with ⟨b1, b2⟩ | ⟨b1, b2⟩
  · have := (nI_eq (by omega) (by omega)).mp (a2.symm.trans b2)
    exact ⟨by omega, by omega, by rw [a1, b1]⟩
  · exact absurd (a2.symm.trans b2) (neg _ _ (by omega) (by omega) (by omega))
  · exact absurd (b2.symm.trans a2) (neg _ _ (by omega) (by omega) (by omega))
  · have := inj _ _ (by omega) (by omega) (a2.symm.trans b2)
    exact ⟨by omega, by omega, by rw [a1, b1]⟩
theorem k_runAt {n : Nat} {M : zM} {N : Nat → Int32} {S : Nat → Nat} (hR : z_R1 1 M N S) (hI : z_I n S) {r j f l m : Nat} (hr : r < 4) (hj : j < S (3390 + r)) (hf : f ≤ 128) (hl : 1 ≤ l) (hl2 : l ≤ 32) (he : z_entry (N (3070 + 80 * r + j)) f l (nI m)) : fX6_runAt 0 (nI r) (nI j) M = some (.inr (nI (100 * f + l))) := by
  have hl9 := I_log hI r hr
  obtain ⟨f9, l9, b1, b2, b3, b4, b5, b6⟩ := (hR.2.2.2.2.1 r hr).2.2 j hj
  obtain ⟨rfl, rfl, -⟩ := z_entry_inj b6 he (by omega) b1 (by omega) hf hl hl2
  unfold fX6_runAt fX1_firstOf fX1_blocksOf fX1_isEntry
  simp (disch := first | omega | assumption) only [l_0, l_1, l_2, l_3, l_4, l_5, l_6, l_7, l_8, l_11, l_12, l_15, l_16, l_31, l_32, l_66, l_80, l_100, l_127, l_128, l_768, l_2304, l_2310, l_2316, l_2388, l_2394, l_2406, l_2418, l_2430, l_2558, l_2686, l_2814, l_2942, l_3070, l_3390, l_3394, l_3395, l_3396, l_3397, n_leT, n_leF, n_ltT, n_ltF, n_eqT, n_eqF, nI_add, pk_mul, n_sub, z_ldn, z_san, z_bs, z_b2s, z_b3s, z_ocN, z_ocS, z_oxL, z_oxR, z_scL, z_scR, ↓reduceIte, Nat.zero_add, Nat.add_zero, Nat.zero_lt_succ, true_and, and_true, eq_self, cEn_ok (I_log hI) hr hj (hR.2.2.2.2.1 r hr).2.1, z_gdp (kd1_lg hr), b4, b5]
theorem k_alloc {n : Nat} {M : zM} {N : Nat → Int32} {S : Nat → Nat} (hR : z_R1 1 M N S) (hI : z_I n S) {r j f l m : Nat} (hr : r < 4) (hj : j < S (3390 + r)) (hf : f ≤ 128) (hl : 1 ≤ l) (hl2 : l ≤ 32) (hm : m ≤ 1) (he : z_entry (N (3070 + 80 * r + j)) f l (nI m)) : fX6_allocates 0 (nI r) (nI j) M = some (.inr (nI m)) := by
  have hl9 := I_log hI r hr
  obtain ⟨f9, l9, b1, b2, b3, b4, b5, b6⟩ := (hR.2.2.2.2.1 r hr).2.2 j hj
  obtain ⟨rfl, rfl, e⟩ := z_entry_inj b6 he (by omega) b1 (by omega) hf hl hl2
  have hm2 : m = 0 ∨ m = 1 := by omega
  unfold fX6_allocates fX1_isAllocation fX1_isEntry
  rcases hm2 with rfl | rfl
  · simp (disch := first | omega | assumption) only [l_0, l_1, l_2, l_3, l_4, l_5, l_6, l_7, l_8, l_11, l_12, l_15, l_16, l_31, l_32, l_66, l_80, l_100, l_127, l_128, l_768, l_2304, l_2310, l_2316, l_2388, l_2394, l_2406, l_2418, l_2430, l_2558, l_2686, l_2814, l_2942, l_3070, l_3390, l_3394, l_3395, l_3396, l_3397, n_leT, n_leF, n_ltT, n_ltF, n_eqT, n_eqF, nI_add, pk_mul, n_sub, z_ldn, z_san, z_bs, z_b2s, z_b3s, z_ocN, z_ocS, z_oxL, z_oxR, z_scL, z_scR, ↓reduceIte, Nat.zero_add, Nat.add_zero, Nat.zero_lt_succ, true_and, and_true, eq_self, cEn_ok (I_log hI) hr hj (hR.2.2.2.2.1 r hr).2.1, z_gdp (kd1_lg hr), e, z_bz0]
  · simp (disch := first | omega | assumption) only [l_0, l_1, l_2, l_3, l_4, l_5, l_6, l_7, l_8, l_11, l_12, l_15, l_16, l_31, l_32, l_66, l_80, l_100, l_127, l_128, l_768, l_2304, l_2310, l_2316, l_2388, l_2394, l_2406, l_2418, l_2430, l_2558, l_2686, l_2814, l_2942, l_3070, l_3390, l_3394, l_3395, l_3396, l_3397, n_leT, n_leF, n_ltT, n_ltF, n_eqT, n_eqF, nI_add, pk_mul, n_sub, z_ldn, z_san, z_bs, z_b2s, z_b3s, z_ocN, z_ocS, z_oxL, z_oxR, z_scL, z_scR, ↓reduceIte, Nat.zero_add, Nat.add_zero, Nat.zero_lt_succ, true_and, and_true, eq_self, cEn_ok (I_log hI) hr hj (hR.2.2.2.2.1 r hr).2.1, z_gdp (kd1_lg hr), e, z_bz1]
/-- what a log tells: its entries, and what they leave marked -/
def y_lr (N : Nat → Int32) (S : Nat → Nat) (r : Nat) : Prop := ∃ F : Nat → Nat × Nat × Nat, (∀ j, (F j).2.2 ≤ 1) ∧ (∀ j, j < S (3390 + r) → 1 ≤ (F j).2.1 ∧ (F j).1 + (F j).2.1 ≤ 32 ∧ z_entry (N (3070 + 80 * r + j)) (32 * r + (F j).1) (F j).2.1 (nI (F j).2.2)) ∧ ∀ p, p < 32 → repN F (S (3390 + r)) p = S (2942 + 32 * r + p)
theorem k_replay {n : Nat} {M : zM} {N : Nat → Int32} {S : Nat → Nat} (hR : z_R1 1 M N S) (hI : z_I n S) {r : Nat} (hr : r < 4) (hL : y_lr N S r) : ∃ M2, fX6_replay 0 (nI r) M = some (.inr (nI (sumN (fun p => S (2942 + 32 * r + p)) 32)), M2) ∧ ∀ a, a ≠ 68 + 5 * r → M2 a = M a := by
  have hl := I_log hI r hr
  obtain ⟨F, g1, g2, g3⟩ := hL
  obtain ⟨M2, c1, c2⟩ := cRp (X := 1 + 63 + 5 * r) (M := M) (k := S (3390 + r)) (F := F) (by omega) hr g1 (fun j hj => by
    obtain ⟨k1, k2, k3⟩ := g2 j hj
    obtain ⟨f9, l9, b1, b2, b3, b4, b5, b6⟩ := (hR.2.2.2.2.1 r hr).2.2 j hj
    obtain ⟨e1, e2, e3⟩ := z_entry_inj b6 k3 (by omega) b1 (by omega) (by omega) k1 (by omega)
    exact ⟨k2, by rw [b4, e1], by rw [b5, e2], e3⟩) (hR.2.2.2.2.1 r hr).1 (hR.2.2.2.2.1 r hr).2.1
  refine ⟨M2, ?_, fun a ha => c2 a (by omega)⟩
  rw [← sumN_cg (fun p hp => g3 p hp)]
  unfold fX6_replay
  simp (disch := first | omega | assumption) only [l_0, l_1, l_2, l_3, l_4, l_5, l_6, l_7, l_8, l_11, l_12, l_15, l_16, l_31, l_32, l_66, l_80, l_100, l_127, l_128, l_768, l_2304, l_2310, l_2316, l_2388, l_2394, l_2406, l_2418, l_2430, l_2558, l_2686, l_2814, l_2942, l_3070, l_3390, l_3394, l_3395, l_3396, l_3397, n_leT, n_leF, n_ltT, n_ltF, n_eqT, n_eqF, nI_add, pk_mul, n_sub, z_ldn, z_san, z_bs, z_b2s, z_b3s, z_ocN, z_ocS, z_oxL, z_oxR, z_scL, z_scR, ↓reduceIte, Nat.zero_add, Nat.add_zero, Nat.zero_lt_succ, true_and, and_true, eq_self, cLo_ok hr, z_gdp (kd1_lg hr), c1]
