/-! ===== what the law asks of the class: a dataset ===== -/
/-- what a question may change: rows of marks -/
def y_same (M M' : zM) : Prop := ∀ a, a ≠ 167 → a ≠ 168 → (∀ r, r < 4 → a ≠ 68 + 5 * r) → M' a = M a
theorem sm_r {M : zM} : y_same M M := fun a _ _ _ => rfl
theorem sm_t {M M' M2 : zM} (h : y_same M M') (h2 : y_same M' M2) : y_same M M2 := fun a q1 q2 q3 => (h2 a q1 q2 q3).trans (h a q1 q2 q3)
theorem sm_8 {M M' : zM} (h : ∀ a, a ≠ 168 → M' a = M a) : y_same M M' := fun a _ q _ => h a q
theorem sm_R {M M' : zM} {N : Nat → Int32} {S : Nat → Nat} (hs : y_same M M') (h : z_R1 1 M N S) : z_R1 1 M' N S := z_R1_cg h (fun k q1 q2 q3 => hs k (by omega) (by omega) (fun r hr => by have := q3 r hr; omega))
theorem sm_R84 {M M' : zM} {N : Nat → Int32} {S : Nat → Nat} (hs : y_same M M') (h : z_R1 84 M N S) : z_R1 84 M' N S := z_R1_cg h (fun k q1 q2 q3 => hs k (by omega) (by omega) (fun r hr => by omega))
theorem sm_c {M M' : zM} (hs : y_same M M') {a : Nat} (ha : 169 ≤ a) : M' a = M a := hs a (by omega) (by omega) (fun r hr => by omega)
def Q_R (n : Nat) (M : zM) (N : Nat → Int32) (S : Nat → Nat) : Prop := z_R1 1 M N S ∧ z_I n S ∧ q_sm S ∧ L_x 169 M S ∧ L_b 170 M N S ∧ L_m 171 M S
theorem sm_Q {n : Nat} {M M' : zM} {N : Nat → Int32} {S : Nat → Nat} (hs : y_same M M') (h : Q_R n M N S) : Q_R n M' N S := ⟨sm_R hs h.1, h.2.1, h.2.2.1, L_x_cg h.2.2.2.1 (sm_c hs (by decide)), L_b_cg h.2.2.2.2.1 (sm_c hs (by decide)), L_m_cg h.2.2.2.2.2 (sm_c hs (by decide))⟩
theorem lenN_0 {g : Nat → Nat} {a : Nat} : ∀ {n : Nat}, (∀ i, i < n → g (a + i) = 0) → lenN g (a + n) = lenN g a
  | 0, _ => rfl
  | n + 1, h => by
    show (if g (a + n) = 0 then lenN g (a + n) else a + n + 1) = lenN g a
    rw [if_pos (h n (by omega))]
    exact lenN_0 (fun i hi => h i (by omega))
theorem len_2 {g : Nat → Nat} (h : ∀ i, 2 ≤ i → i < 16 → g i = 0) : lenN g 16 = if g 1 = 0 then (if g 0 = 0 then 0 else 1) else 2 := by
  have e : lenN g (2 + 14) = lenN g 2 := lenN_0 (fun i hi => h _ (by omega) (by omega))
  exact e
/-- what is newer among a dataset's places -/
def q_nw (S : Nat → Nat) (d : Nat) (a : Int32) (p : Nat) : Nat := if S (128 * d + p) = 0 then 0 else if nI (S (2558 + (S (128 * d + p) - 1))) ≤ a then 0 else 1
theorem nw_1 {S : Nat → Nat} {d p : Nat} {a : Int32} : q_nw S d a p ≤ 1 := by
  unfold q_nw
  split
  · decide
  · split <;> decide
theorem at_y {S : Nat → Nat} {d p : Nat} (h : p < S (2388 + d)) : q_at S d p = nI (S (2394 + z_ord S d p) - 1) := if_pos h
theorem at_n {S : Nat → Nat} {d p : Nat} (h : ¬ p < S (2388 + d)) : q_at S d p = -nI 1 := if_neg h
set_option maxHeartbeats 1000000 in
theorem f_set1 {n : Nat} {M : zM} {N : Nat → Int32} {S : Nat → Nat} (hn : n < 512) (hQ : Q_R n M N S) {d : Nat} (hd : d < 3) (h1 : S (2304 + d) = 1) : z_loop (fun s : Int32 × Int32 × Int32 => fL_isSet_L1 0 169 170 171 (nI d) M s.1 s.2.1 s.2.2) z_FU (nI 0, nI 1, nI 0) = some (nI (sumN (fun k => q_nw S d (nI (S 3395) - nI 2) (q_pl k)) 4), nI 1) := by
  obtain ⟨hR, hI, hs, hX, hB, hC⟩ := hQ
  have hm0 := hC.1.1
  refine z_loopC (f := fun s : Int32 × Int32 × Int32 => fL_isSet_L1 0 169 170 171 (nI d) M s.1 s.2.1 s.2.2) (fun i => (nI (sumN (fun k => q_nw S d (nI (S 3395) - nI 2) (q_pl k)) i), nI 1, nI i)) 4 _ (by omega) (fun k hk => ?_) (by simp (disch := first | omega | assumption) only [l_0, l_1, l_2, l_3, l_4, l_5, l_6, l_7, l_8, l_11, l_12, l_15, l_16, l_31, l_32, l_66, l_80, l_100, l_127, l_128, l_768, l_2304, l_2310, l_2316, l_2388, l_2394, l_2406, l_2418, l_2430, l_2558, l_2686, l_2814, l_2942, l_3070, l_3390, l_3394, l_3395, l_3396, l_3397, n_leT, n_leF, n_ltT, n_ltF, n_eqT, n_eqF, nI_add, pk_mul, n_sub, z_ldn, z_san, z_bs, z_b2s, z_b3s, z_ocN, z_ocS, z_oxL, z_oxR, z_scL, z_scR, ↓reduceIte, Nat.zero_add, Nat.add_zero, Nat.zero_lt_succ, true_and, and_true, eq_self, n_div, n_mod, z_ldJn, z_saJn, f_blk, f_plc, l_9, l_10, l_13, l_14, l_17, l_18, l_19, l_20, l_21, l_22, l_24, l_28, l_60, l_61, l_62, l_64, l_98, l_99, fL_isSet_L1])
  show fL_isSet_L1 0 169 170 171 (nI d) M _ _ _ = some (.inl (nI (sumN (fun k => q_nw S d (nI (S 3395) - nI 2) (q_pl k)) k + q_nw S d (nI (S 3395) - nI 2) (q_pl k)), nI 1, nI (k + 1)))
  generalize sumN (fun k => q_nw S d (nI (S 3395) - nI 2) (q_pl k)) k = W
  have ep := ps_d hd hk
  have gx := hX (4 * d + k) (by omega)
  rw [ep] at gx
  have hpl := pl_128 hk
  have epl : q_pl k = 16 * (k / 2) + k % 2 := rfl
  have bT := I_tab hI (128 * d + q_pl k) (by omega)
  have gv := f_value hB (x := S (128 * d + q_pl k)) (fun q => blk_of hI hs (by omega) q)
  have ga := k_blockAt hR hI (by omega) h1 (f := k / 2) (i := k % 2) (by omega) (by omega)
  have gr := k_read hR hI (by omega) h1 (f := k / 2) (i := k % 2) (by omega) (by omega)
  have gl := k_length hR hI (by omega) h1 (f := k / 2) (by omega)
  rw [← epl] at ga gr
  rw [len_2 (fun i h2 h16 => off_d hs hd _ (by omega) (fun j hj => by unfold q_pl; omega))] at gl
  rw [show 128 * d + (16 * (k / 2) + 0) = 128 * d + 16 * (k / 2) from rfl] at gl
  have g1 := hX (4 * d + (k / 2 * 2 + 1)) (by omega)
  rw [ps_d hd (by omega), show q_pl (k / 2 * 2 + 1) = 16 * (k / 2) + 1 by unfold q_pl; omega] at g1
  have g0 := hX (4 * d + k / 2 * 2) (by omega)
  rw [ps_d hd (by omega), show q_pl (k / 2 * 2) = 16 * (k / 2) by unfold q_pl; omega] at g0
  have e1 : 4 * d + k / 2 * 2 + 1 = 4 * d + (k / 2 * 2 + 1) := by omega
  have b1 := I_tab hI (128 * d + (16 * (k / 2) + 1)) (by omega)
  have b0 := I_tab hI (128 * d + 16 * (k / 2)) (by omega)
  have key : (S (128 * d + (16 * (k / 2) + 1)) ≠ 0 ∧ fX6_length 0 (nI d) (nI (k / 2)) M = some (.inr (nI 2))) ∨ (S (128 * d + (16 * (k / 2) + 1)) = 0 ∧ S (128 * d + 16 * (k / 2)) ≠ 0 ∧ fX6_length 0 (nI d) (nI (k / 2)) M = some (.inr (nI 1))) ∨ (S (128 * d + (16 * (k / 2) + 1)) = 0 ∧ S (128 * d + 16 * (k / 2)) = 0 ∧ fX6_length 0 (nI d) (nI (k / 2)) M = some (.inr (nI 0))) := by
    by_cases c1 : S (128 * d + (16 * (k / 2) + 1)) = 0
    · rw [if_pos c1] at gl
      by_cases c0 : S (128 * d + 16 * (k / 2)) = 0
      · rw [if_pos c0] at gl
        exact Or.inr (Or.inr ⟨c1, c0, gl⟩)
      · rw [if_neg c0] at gl
        exact Or.inr (Or.inl ⟨c1, c0, gl⟩)
    · rw [if_neg c1] at gl
      exact Or.inl ⟨c1, gl⟩
  clear gl
  rcases key with ⟨c1, gl⟩ | ⟨c1, c0, gl⟩ | ⟨c1, c0, gl⟩
  all_goals
    by_cases c : S (128 * d + q_pl k) = 0
    · have e : q_nw S d (nI (S 3395) - nI 2) (q_pl k) = 0 := if_pos c
      rw [e]
      rw [c] at gx ga gr gv
      simp (disch := first | omega | assumption) only [l_0, l_1, l_2, l_3, l_4, l_5, l_6, l_7, l_8, l_11, l_12, l_15, l_16, l_31, l_32, l_66, l_80, l_100, l_127, l_128, l_768, l_2304, l_2310, l_2316, l_2388, l_2394, l_2406, l_2418, l_2430, l_2558, l_2686, l_2814, l_2942, l_3070, l_3390, l_3394, l_3395, l_3396, l_3397, n_leT, n_leF, n_ltT, n_ltF, n_eqT, n_eqF, nI_add, pk_mul, n_sub, z_ldn, z_san, z_bs, z_b2s, z_b3s, z_ocN, z_ocS, z_oxL, z_oxR, z_scL, z_scR, ↓reduceIte, Nat.zero_add, Nat.add_zero, Nat.zero_lt_succ, true_and, and_true, eq_self, n_div, n_mod, z_ldJn, z_saJn, f_blk, f_plc, l_9, l_10, l_13, l_14, l_17, l_18, l_19, l_20, l_21, l_22, l_24, l_28, l_60, l_61, l_62, l_64, l_98, l_99, z_ntR, z_ntwR, z_bz0, z_bz1, fL_isSet_L1, gx, ga, gr, gv, gl, e1, g1, g0]
    · obtain ⟨i, hi, hbi⟩ := blk_of hI hs (k := 128 * d + q_pl k) (by omega) c
      have gb := f_birth hi (hB i hi)
      have hq := bl_128 hi
      have e : q_nw S d (nI (S 3395) - nI 2) (q_pl k) = if nI (S (2558 + q_bl i)) ≤ nI (S 3395) - nI 2 then 0 else 1 := by
        unfold q_nw
        rw [if_neg c, hbi, Nat.add_sub_cancel]
      rw [e]
      rw [hbi] at gx ga gr gv
      have hbo := I_bir hI _ hq
      by_cases c2 : nI (S (2558 + q_bl i)) ≤ nI (S 3395) - nI 2
      · rw [if_pos c2]
        simp (disch := first | omega | assumption) only [l_0, l_1, l_2, l_3, l_4, l_5, l_6, l_7, l_8, l_11, l_12, l_15, l_16, l_31, l_32, l_66, l_80, l_100, l_127, l_128, l_768, l_2304, l_2310, l_2316, l_2388, l_2394, l_2406, l_2418, l_2430, l_2558, l_2686, l_2814, l_2942, l_3070, l_3390, l_3394, l_3395, l_3396, l_3397, n_leT, n_leF, n_ltT, n_ltF, n_eqT, n_eqF, nI_add, pk_mul, n_sub, z_ldn, z_san, z_bs, z_b2s, z_b3s, z_ocN, z_ocS, z_oxL, z_oxR, z_scL, z_scR, ↓reduceIte, Nat.zero_add, Nat.add_zero, Nat.zero_lt_succ, true_and, and_true, eq_self, n_div, n_mod, z_ldJn, z_saJn, f_blk, f_plc, l_9, l_10, l_13, l_14, l_17, l_18, l_19, l_20, l_21, l_22, l_24, l_28, l_60, l_61, l_62, l_64, l_98, l_99, z_ntR, z_ntwR, z_bz0, z_bz1, fL_isSet_L1, gx, ga, gr, gv, gl, e1, g1, g0, gb, hm0, Nat.add_sub_cancel, eq_true c2]
      · rw [if_neg c2]
        simp (disch := first | omega | assumption) only [l_0, l_1, l_2, l_3, l_4, l_5, l_6, l_7, l_8, l_11, l_12, l_15, l_16, l_31, l_32, l_66, l_80, l_100, l_127, l_128, l_768, l_2304, l_2310, l_2316, l_2388, l_2394, l_2406, l_2418, l_2430, l_2558, l_2686, l_2814, l_2942, l_3070, l_3390, l_3394, l_3395, l_3396, l_3397, n_leT, n_leF, n_ltT, n_ltF, n_eqT, n_eqF, nI_add, pk_mul, n_sub, z_ldn, z_san, z_bs, z_b2s, z_b3s, z_ocN, z_ocS, z_oxL, z_oxR, z_scL, z_scR, ↓reduceIte, Nat.zero_add, Nat.add_zero, Nat.zero_lt_succ, true_and, and_true, eq_self, n_div, n_mod, z_ldJn, z_saJn, f_blk, f_plc, l_9, l_10, l_13, l_14, l_17, l_18, l_19, l_20, l_21, l_22, l_24, l_28, l_60, l_61, l_62, l_64, l_98, l_99, z_ntR, z_ntwR, z_bz0, z_bz1, fL_isSet_L1, gx, ga, gr, gv, gl, e1, g1, g0, gb, hm0, Nat.add_sub_cancel, eq_false c2]
theorem f_set2 {n : Nat} {M : zM} {N : Nat → Int32} {S : Nat → Nat} (hn : n < 512) (hQ : Q_R n M N S) {d : Nat} (hd : d < 3) (h1 : S (2304 + d) = 1) : z_loop (fun s : Int32 × Int32 × Int32 => fL_isSet_L2 0 171 (nI d) M s.1 s.2.1 s.2.2) z_FU (nI 1, nI 0, q_at S d 0) = some (nI 1, nI (S (2388 + d))) := by
  obtain ⟨hR, hI, hs, hX, hB, hC⟩ := hQ
  have hc := (I_ord hI d (by omega)).1
  refine z_loopC (f := fun s : Int32 × Int32 × Int32 => fL_isSet_L2 0 171 (nI d) M s.1 s.2.1 s.2.2) (fun i => (nI 1, nI i, q_at S d i)) (S (2388 + d)) _ (by omega) (fun k hk => ?_) ?_
  · show fL_isSet_L2 0 171 (nI d) M _ _ _ = some (.inl (nI 1, nI (k + 1), q_at S d (k + 1)))
    have g := k_snapAt hn hR hI (by omega) h1 hk
    have g2 := f_numAt hC hI hn hs (d := d) (p := k + 1) (by omega) (by omega)
    have hb := I_nb hI (z_ord S d k) ((I_ord hI d (by omega)).2 k hk).1
    rw [at_y hk]
    simp (disch := first | omega | assumption) only [l_0, l_1, l_2, l_3, l_4, l_5, l_6, l_7, l_8, l_11, l_12, l_15, l_16, l_31, l_32, l_66, l_80, l_100, l_127, l_128, l_768, l_2304, l_2310, l_2316, l_2388, l_2394, l_2406, l_2418, l_2430, l_2558, l_2686, l_2814, l_2942, l_3070, l_3390, l_3394, l_3395, l_3396, l_3397, n_leT, n_leF, n_ltT, n_ltF, n_eqT, n_eqF, nI_add, pk_mul, n_sub, z_ldn, z_san, z_bs, z_b2s, z_b3s, z_ocN, z_ocS, z_oxL, z_oxR, z_scL, z_scR, ↓reduceIte, Nat.zero_add, Nat.add_zero, Nat.zero_lt_succ, true_and, and_true, eq_self, n_div, n_mod, z_ldJn, z_saJn, f_blk, f_plc, l_9, l_10, l_13, l_14, l_17, l_18, l_19, l_20, l_21, l_22, l_24, l_28, l_60, l_61, l_62, l_64, l_98, l_99, z_ntR, z_ntwR, z_bz0, z_bz1, fL_isSet_L2, g, g2]
  · show fL_isSet_L2 0 171 (nI d) M _ _ _ = _
    rw [at_n (Nat.lt_irrefl _)]
    have e : (-nI 1 < nI 0) = True := n_mlt (by decide)
    simp (disch := first | omega | assumption) only [l_0, l_1, l_2, l_3, l_4, l_5, l_6, l_7, l_8, l_11, l_12, l_15, l_16, l_31, l_32, l_66, l_80, l_100, l_127, l_128, l_768, l_2304, l_2310, l_2316, l_2388, l_2394, l_2406, l_2418, l_2430, l_2558, l_2686, l_2814, l_2942, l_3070, l_3390, l_3394, l_3395, l_3396, l_3397, n_leT, n_leF, n_ltT, n_ltF, n_eqT, n_eqF, nI_add, pk_mul, n_sub, z_ldn, z_san, z_bs, z_b2s, z_b3s, z_ocN, z_ocS, z_oxL, z_oxR, z_scL, z_scR, ↓reduceIte, Nat.zero_add, Nat.add_zero, Nat.zero_lt_succ, true_and, and_true, eq_self, n_div, n_mod, z_ldJn, z_saJn, f_blk, f_plc, l_9, l_10, l_13, l_14, l_17, l_18, l_19, l_20, l_21, l_22, l_24, l_28, l_60, l_61, l_62, l_64, l_98, l_99, z_ntR, z_ntwR, z_bz0, z_bz1, fL_isSet_L2, e]
set_option maxHeartbeats 1000000 in
theorem f_isSet {n : Nat} {M : zM} {N : Nat → Int32} {S : Nat → Nat} (hn : n < 512) (hQ : Q_R n M N S) {d : Nat} (hd : d < 3) (h1 : S (2304 + d) = 1) : ∃ M', fL_isSet 0 169 170 171 (nI d) M = some (nI 1, M') ∧ y_same M M' := by
  have hR := hQ.1
  have hI := hQ.2.1
  have hs := hQ.2.2.1
  have hC := hQ.2.2.2.2.2
  have ho := k_origin hR hI (d := d) (by omega) h1
  have hm := (hC.2.1 d hd).2
  obtain ⟨M1, r1, r2⟩ := k_refd hR hI (d := d) (by omega) h1
  have hQ1 := sm_Q (sm_8 r2) hQ
  obtain ⟨M2, u1, u2⟩ := k_uniq hQ1.1 hI (d := d) (by omega) h1
  have hQ2 := sm_Q (sm_8 u2) hQ1
  have hps : ∀ j, j < 4 → q_ps (4 * d + j) = 128 * d + q_pl j := fun j hj => ps_d hd hj
  rw [D_ref hps (off_d hs hd)] at r1
  rw [D_unq hI hs hps (off_d hs hd)] at u1
  have b1 := f_blocks hQ1.2.2.2.1 (I_tab hI) (lo := 4 * d) (al := 0) (by omega) (by omega)
  have b2 := f_blocks hQ2.2.2.2.1 (I_tab hI) (lo := 4 * d) (al := 1) (by omega) (by omega)
  have l1 := f_set1 hn hQ2 hd h1
  have l2 := f_set2 hn hQ2 hd h1
  have a0 := f_numAt hQ2.2.2.2.2.2 hI hn hs (d := d) (p := 0) (by omega) (by omega)
  have s1 := k_snaps hQ2.1 hI (d := d) (by omega) h1
  have n1 := k_newer hQ2.1 hI (d := d) (by omega) h1 (nI (S 3395) - nI 2)
  have hm2 := hQ2.2.2.2.2.2.1.1
  have e : sumN (fun p => if S (128 * d + p) = 0 then 0 else if nI (S (2558 + (S (128 * d + p) - 1))) ≤ nI (S 3395) - nI 2 then 0 else 1) 128 = sumN (fun k => q_nw S d (nI (S 3395) - nI 2) (q_pl k)) 4 := sum_128 (h := q_nw S d (nI (S 3395) - nI 2)) (fun p hp hq => if_pos (off_d hs hd p hp hq))
  rw [e] at n1
  have w1 := sumN_le (g := fun k => q_nw S d (nI (S 3395) - nI 2) (q_pl k)) (c := 1) (n := 4) (fun i hi => nw_1)
  have hc := (I_ord hI d (by omega)).1
  refine ⟨M2, ?_, sm_t (sm_8 r2) (sm_8 u2)⟩
  unfold fL_isSet
  generalize sumN (fun k => q_nw S d (nI (S 3395) - nI 2) (q_pl k)) 4 = W at *
  simp (disch := first | omega | assumption) only [l_0, l_1, l_2, l_3, l_4, l_5, l_6, l_7, l_8, l_11, l_12, l_15, l_16, l_31, l_32, l_66, l_80, l_100, l_127, l_128, l_768, l_2304, l_2310, l_2316, l_2388, l_2394, l_2406, l_2418, l_2430, l_2558, l_2686, l_2814, l_2942, l_3070, l_3390, l_3394, l_3395, l_3396, l_3397, n_leT, n_leF, n_ltT, n_ltF, n_eqT, n_eqF, nI_add, pk_mul, n_sub, z_ldn, z_san, z_bs, z_b2s, z_b3s, z_ocN, z_ocS, z_oxL, z_oxR, z_scL, z_scR, ↓reduceIte, Nat.zero_add, Nat.add_zero, Nat.zero_lt_succ, true_and, and_true, eq_self, n_div, n_mod, z_ldJn, z_saJn, f_blk, f_plc, l_9, l_10, l_13, l_14, l_17, l_18, l_19, l_20, l_21, l_22, l_24, l_28, l_60, l_61, l_62, l_64, l_98, l_99, z_ntR, z_ntwR, z_bz0, z_bz1, ho, hm, r1, b1, u1, b2, l1, a0, l2, s1, hm2, n1]
