/-! ===== what the law asks of the class: snapshots, all ===== -/
theorem n_01 : (nI 0 - nI 1 < nI 0) = True := eq_true (by decide)
/-- what a snapshot has other than a dataset -/
def q_ch (S : Nat → Nat) (d s p : Nat) : Nat := if S (128 * d + p) = S (768 + 128 * s + p) then 0 else 1
theorem ch_1 {S : Nat → Nat} {d s p : Nat} : q_ch S d s p ≤ 1 := by
  unfold q_ch
  split <;> decide
theorem f_sh2 {n : Nat} {M : zM} {N : Nat → Int32} {S : Nat → Nat} (hn : n < 512) (hQ : Q_R n M N S) {s : Nat} (hs4 : s < 4) (h0 : S (2394 + s) ≠ 0) : z_loop (fun q : Int32 × Int32 => fL_areShots_L2 0 169 170 171 (nI s) M (nI (S (2394 + s))) q.1 q.2) z_FU (nI 1, nI 0) = some (nI 1) := by
  obtain ⟨hR, hI, hs, hX, hB, hC⟩ := hQ
  refine z_loopC (f := fun q : Int32 × Int32 => fL_areShots_L2 0 169 170 171 (nI s) M (nI (S (2394 + s))) q.1 q.2) (fun i => (nI 1, nI i)) 4 _ (by omega) (fun k hk => ?_) (by simp (disch := first | omega | assumption) only [l_0, l_1, l_2, l_3, l_4, l_5, l_6, l_7, l_8, l_11, l_12, l_15, l_16, l_31, l_32, l_66, l_80, l_100, l_127, l_128, l_768, l_2304, l_2310, l_2316, l_2388, l_2394, l_2406, l_2418, l_2430, l_2558, l_2686, l_2814, l_2942, l_3070, l_3390, l_3394, l_3395, l_3396, l_3397, n_leT, n_leF, n_ltT, n_ltF, n_eqT, n_eqF, nI_add, pk_mul, n_sub, z_ldn, z_san, z_bs, z_b2s, z_b3s, z_ocN, z_ocS, z_oxL, z_oxR, z_scL, z_scR, ↓reduceIte, Nat.zero_add, Nat.add_zero, Nat.zero_lt_succ, true_and, and_true, eq_self, n_div, n_mod, z_ldJn, z_saJn, f_blk, f_plc, l_9, l_10, l_13, l_14, l_17, l_18, l_19, l_20, l_21, l_22, l_24, l_28, l_60, l_61, l_62, l_64, l_98, l_99, fL_areShots_L2])
  show fL_areShots_L2 0 169 170 171 (nI s) M _ _ _ = some (.inl (nI 1, nI (k + 1)))
  have ep := ps_s (s := s) hk
  have gx := hX (12 + 4 * s + k) (by omega)
  rw [ep] at gx
  have hpl := pl_128 hk
  have epl : q_pl k = 16 * (k / 2) + k % 2 := rfl
  have bT := I_tab hI (768 + 128 * s + q_pl k) (by omega)
  have gv := f_value hB (x := S (768 + 128 * s + q_pl k)) (fun q => blk_of hI hs (by omega) q)
  have ga := k_blockS hn hR hI (s := s) (by omega) h0 (f := k / 2) (i := k % 2) (by omega) (by omega)
  have gr := k_readS hn hR hI (s := s) (by omega) h0 (f := k / 2) (i := k % 2) (by omega) (by omega)
  rw [← epl] at ga gr
  have gt := k_tran hn hR hI (s := s) (by omega) h0
  have gd := k_dsOf hn hR hI (s := s) (by omega) h0
  have hb := I_nb hI s (by omega)
  obtain ⟨m1, m2⟩ := (hC.2.2 s hs4).2 h0
  have e1 : 1 ≤ S (2394 + s) := by omega
  simp (disch := first | omega | assumption) only [l_0, l_1, l_2, l_3, l_4, l_5, l_6, l_7, l_8, l_11, l_12, l_15, l_16, l_31, l_32, l_66, l_80, l_100, l_127, l_128, l_768, l_2304, l_2310, l_2316, l_2388, l_2394, l_2406, l_2418, l_2430, l_2558, l_2686, l_2814, l_2942, l_3070, l_3390, l_3394, l_3395, l_3396, l_3397, n_leT, n_leF, n_ltT, n_ltF, n_eqT, n_eqF, nI_add, pk_mul, n_sub, z_ldn, z_san, z_bs, z_b2s, z_b3s, z_ocN, z_ocS, z_oxL, z_oxR, z_scL, z_scR, ↓reduceIte, Nat.zero_add, Nat.add_zero, Nat.zero_lt_succ, true_and, and_true, eq_self, n_div, n_mod, z_ldJn, z_saJn, f_blk, f_plc, l_9, l_10, l_13, l_14, l_17, l_18, l_19, l_20, l_21, l_22, l_24, l_28, l_60, l_61, l_62, l_64, l_98, l_99, z_ntR, z_ntwR, z_bz0, z_bz1, fL_areShots_L2, gx, ga, gr, gv, gt, gd, m1, m2]
theorem f_sh4 {M : zM} {S : Nat → Nat} (hX : L_x 169 M S) (hT : ∀ k, k < 2304 → S k ≤ 128) {s d : Nat} (hs4 : s < 4) (hd : d < 3) : z_loop (fun q : Int32 × Int32 => fL_areShots_L4 169 (nI s) M (nI d) q.1 q.2) z_FU (nI 0, nI 0) = some (nI (sumN (fun k => q_ch S d s (q_pl k)) 4)) := by
  exact z_loopS (f := fun q : Int32 × Int32 => fL_areShots_L4 169 (nI s) M (nI d) q.1 q.2) (fun k => q_ch S d s (q_pl k)) 0 4 (by omega) (s := (nI 0, nI 0)) rfl (fun k x hk => by
    rw [Nat.zero_add]
    have g1 := hX (12 + 4 * s + k) (by omega)
    rw [ps_s hk] at g1
    have g2 := hX (4 * d + k) (by omega)
    rw [ps_d hd hk] at g2
    have hpl := pl_128 hk
    have b1 := hT (128 * d + q_pl k) (by omega)
    have b2 := hT (768 + 128 * s + q_pl k) (by omega)
    by_cases c : S (128 * d + q_pl k) = S (768 + 128 * s + q_pl k)
    · have e : q_ch S d s (q_pl k) = 0 := if_pos c
      rw [e]
      rw [c] at g2
      simp (disch := first | omega | assumption) only [l_0, l_1, l_2, l_3, l_4, l_5, l_6, l_7, l_8, l_11, l_12, l_15, l_16, l_31, l_32, l_66, l_80, l_100, l_127, l_128, l_768, l_2304, l_2310, l_2316, l_2388, l_2394, l_2406, l_2418, l_2430, l_2558, l_2686, l_2814, l_2942, l_3070, l_3390, l_3394, l_3395, l_3396, l_3397, n_leT, n_leF, n_ltT, n_ltF, n_eqT, n_eqF, nI_add, pk_mul, n_sub, z_ldn, z_san, z_bs, z_b2s, z_b3s, z_ocN, z_ocS, z_oxL, z_oxR, z_scL, z_scR, ↓reduceIte, Nat.zero_add, Nat.add_zero, Nat.zero_lt_succ, true_and, and_true, eq_self, n_div, n_mod, z_ldJn, z_saJn, f_blk, f_plc, l_9, l_10, l_13, l_14, l_17, l_18, l_19, l_20, l_21, l_22, l_24, l_28, l_60, l_61, l_62, l_64, l_98, l_99, z_ntR, z_ntwR, z_bz0, z_bz1, fL_areShots_L4, g1, g2]
    · have e : q_ch S d s (q_pl k) = 1 := if_neg c
      rw [e]
      simp (disch := first | omega | assumption) only [l_0, l_1, l_2, l_3, l_4, l_5, l_6, l_7, l_8, l_11, l_12, l_15, l_16, l_31, l_32, l_66, l_80, l_100, l_127, l_128, l_768, l_2304, l_2310, l_2316, l_2388, l_2394, l_2406, l_2418, l_2430, l_2558, l_2686, l_2814, l_2942, l_3070, l_3390, l_3394, l_3395, l_3396, l_3397, n_leT, n_leF, n_ltT, n_ltF, n_eqT, n_eqF, nI_add, pk_mul, n_sub, z_ldn, z_san, z_bs, z_b2s, z_b3s, z_ocN, z_ocS, z_oxL, z_oxR, z_scL, z_scR, ↓reduceIte, Nat.zero_add, Nat.add_zero, Nat.zero_lt_succ, true_and, and_true, eq_self, n_div, n_mod, z_ldJn, z_saJn, f_blk, f_plc, l_9, l_10, l_13, l_14, l_17, l_18, l_19, l_20, l_21, l_22, l_24, l_28, l_60, l_61, l_62, l_64, l_98, l_99, z_ntR, z_ntwR, z_bz0, z_bz1, fL_areShots_L4, g1, g2]) (fun x => by simp (disch := first | omega | assumption) only [l_0, l_1, l_2, l_3, l_4, l_5, l_6, l_7, l_8, l_11, l_12, l_15, l_16, l_31, l_32, l_66, l_80, l_100, l_127, l_128, l_768, l_2304, l_2310, l_2316, l_2388, l_2394, l_2406, l_2418, l_2430, l_2558, l_2686, l_2814, l_2942, l_3070, l_3390, l_3394, l_3395, l_3396, l_3397, n_leT, n_leF, n_ltT, n_ltF, n_eqT, n_eqF, nI_add, pk_mul, n_sub, z_ldn, z_san, z_bs, z_b2s, z_b3s, z_ocN, z_ocS, z_oxL, z_oxR, z_scL, z_scR, ↓reduceIte, Nat.zero_add, Nat.add_zero, Nat.zero_lt_succ, true_and, and_true, eq_self, n_div, n_mod, z_ldJn, z_saJn, f_blk, f_plc, l_9, l_10, l_13, l_14, l_17, l_18, l_19, l_20, l_21, l_22, l_24, l_28, l_60, l_61, l_62, l_64, l_98, l_99, fL_areShots_L4])
theorem f_sh3 {n : Nat} {M : zM} {N : Nat → Int32} {S : Nat → Nat} (hn : n < 512) (hQ : Q_R n M N S) {s : Nat} (hs4 : s < 4) (h0 : S (2394 + s) ≠ 0) : z_loop (fun q : Int32 × Int32 => fL_areShots_L3 0 169 171 (nI s) (nI (S (2394 + s))) M q.1 q.2) z_FU (nI 1, nI 0) = some (nI 1) := by
  obtain ⟨hR, hI, hs, hX, hB, hC⟩ := hQ
  refine z_loopC (f := fun q : Int32 × Int32 => fL_areShots_L3 0 169 171 (nI s) (nI (S (2394 + s))) M q.1 q.2) (fun i => (nI 1, nI i)) 3 _ (by omega) (fun d hd => ?_) (by simp (disch := first | omega | assumption) only [l_0, l_1, l_2, l_3, l_4, l_5, l_6, l_7, l_8, l_11, l_12, l_15, l_16, l_31, l_32, l_66, l_80, l_100, l_127, l_128, l_768, l_2304, l_2310, l_2316, l_2388, l_2394, l_2406, l_2418, l_2430, l_2558, l_2686, l_2814, l_2942, l_3070, l_3390, l_3394, l_3395, l_3396, l_3397, n_leT, n_leF, n_ltT, n_ltF, n_eqT, n_eqF, nI_add, pk_mul, n_sub, z_ldn, z_san, z_bs, z_b2s, z_b3s, z_ocN, z_ocS, z_oxL, z_oxR, z_scL, z_scR, ↓reduceIte, Nat.zero_add, Nat.add_zero, Nat.zero_lt_succ, true_and, and_true, eq_self, n_div, n_mod, z_ldJn, z_saJn, f_blk, f_plc, l_9, l_10, l_13, l_14, l_17, l_18, l_19, l_20, l_21, l_22, l_24, l_28, l_60, l_61, l_62, l_64, l_98, l_99, fL_areShots_L3])
  show fL_areShots_L3 0 169 171 (nI s) (nI (S (2394 + s))) M _ _ = some (.inl (nI 1, nI (d + 1)))
  have l4 := f_sh4 hX (I_tab hI) hs4 hd
  have hb := I_nb hI s (by omega)
  have m1 := (hC.2.1 d hd).1
  have e1 : 1 ≤ S (2394 + s) := by omega
  have ex := I_ex hI d (by omega)
  have b4 := sumN_le (g := fun k => q_ch S d s (q_pl k)) (c := 1) (n := 4) (fun i hi => ch_1)
  by_cases c : S (2304 + d) = 0
  · simp (disch := first | omega | assumption) only [l_0, l_1, l_2, l_3, l_4, l_5, l_6, l_7, l_8, l_11, l_12, l_15, l_16, l_31, l_32, l_66, l_80, l_100, l_127, l_128, l_768, l_2304, l_2310, l_2316, l_2388, l_2394, l_2406, l_2418, l_2430, l_2558, l_2686, l_2814, l_2942, l_3070, l_3390, l_3394, l_3395, l_3396, l_3397, n_leT, n_leF, n_ltT, n_ltF, n_eqT, n_eqF, nI_add, pk_mul, n_sub, z_ldn, z_san, z_bs, z_b2s, z_b3s, z_ocN, z_ocS, z_oxL, z_oxR, z_scL, z_scR, ↓reduceIte, Nat.zero_add, Nat.add_zero, Nat.zero_lt_succ, true_and, and_true, eq_self, n_div, n_mod, z_ldJn, z_saJn, f_blk, f_plc, l_9, l_10, l_13, l_14, l_17, l_18, l_19, l_20, l_21, l_22, l_24, l_28, l_60, l_61, l_62, l_64, l_98, l_99, z_ntR, z_ntwR, z_bz0, z_bz1, fL_areShots_L3, l4, m1]
  · have c1 : S (2304 + d) = 1 := by omega
    have gc := k_changed hn hR hI (s := s) (by omega) h0 (d := d) (by omega) c1
    have e : sumN (fun p => if S (128 * d + p) = S (768 + 128 * s + p) then 0 else 1) 128 = sumN (fun k => q_ch S d s (q_pl k)) 4 := sum_128 (h := q_ch S d s) (fun p hp hq => if_pos (by rw [off_d hs hd p hp hq, off_s hs hs4 p hp hq]))
    rw [e] at gc
    simp (disch := first | omega | assumption) only [l_0, l_1, l_2, l_3, l_4, l_5, l_6, l_7, l_8, l_11, l_12, l_15, l_16, l_31, l_32, l_66, l_80, l_100, l_127, l_128, l_768, l_2304, l_2310, l_2316, l_2388, l_2394, l_2406, l_2418, l_2430, l_2558, l_2686, l_2814, l_2942, l_3070, l_3390, l_3394, l_3395, l_3396, l_3397, n_leT, n_leF, n_ltT, n_ltF, n_eqT, n_eqF, nI_add, pk_mul, n_sub, z_ldn, z_san, z_bs, z_b2s, z_b3s, z_ocN, z_ocS, z_oxL, z_oxR, z_scL, z_scR, ↓reduceIte, Nat.zero_add, Nat.add_zero, Nat.zero_lt_succ, true_and, and_true, eq_self, n_div, n_mod, z_ldJn, z_saJn, f_blk, f_plc, l_9, l_10, l_13, l_14, l_17, l_18, l_19, l_20, l_21, l_22, l_24, l_28, l_60, l_61, l_62, l_64, l_98, l_99, z_ntR, z_ntwR, z_bz0, z_bz1, fL_areShots_L3, l4, m1, gc]
theorem f_shots {n : Nat} {M : zM} {N : Nat → Int32} {S : Nat → Nat} (hn : n < 512) (hQ : Q_R n M N S) : ∃ M', fL_areShots 0 169 170 171 M = some (nI 1, M') ∧ y_same M M' := by
  obtain ⟨⟨r1, r2⟩, q1, q2, q3⟩ := z_loopA (f := fun q : Int32 × Int32 × zM => fL_areShots_L1 0 169 170 171 q.1 q.2.1 q.2.2) (fun i x M' => x = nI 1 ∧ y_same M M') (fun r => r.1 = nI 1 ∧ y_same M r.2) 0 4 (by omega) (x := nI 1) (s := nI 0) (M := M) rfl ⟨rfl, sm_r⟩ (fun s x M1 hs4 hh => by
    obtain ⟨hx, hsm⟩ := hh
    subst hx
    rw [Nat.zero_add]
    have hQ1 := sm_Q hsm hQ
    have m1 := (hQ1.2.2.2.2.2.2.2 s hs4).1
    have hI := hQ.2.1
    have hb := I_nb hI s (by omega)
    by_cases c : S (2394 + s) = 0
    · rw [c] at m1
      have l2 : z_loop (fun q : Int32 × Int32 => fL_areShots_L2 0 169 170 171 (nI s) M1 (nI 0) q.1 q.2) z_FU (nI 1, nI 0) = some (nI 1) := z_loopC (f := fun q : Int32 × Int32 => fL_areShots_L2 0 169 170 171 (nI s) M1 (nI 0) q.1 q.2) (fun i => (nI 1, nI i)) 0 _ (by omega) (fun k hk => by omega) (by simp (disch := first | omega | assumption) only [l_0, l_1, l_2, l_3, l_4, l_5, l_6, l_7, l_8, l_11, l_12, l_15, l_16, l_31, l_32, l_66, l_80, l_100, l_127, l_128, l_768, l_2304, l_2310, l_2316, l_2388, l_2394, l_2406, l_2418, l_2430, l_2558, l_2686, l_2814, l_2942, l_3070, l_3390, l_3394, l_3395, l_3396, l_3397, n_leT, n_leF, n_ltT, n_ltF, n_eqT, n_eqF, nI_add, pk_mul, n_sub, z_ldn, z_san, z_bs, z_b2s, z_b3s, z_ocN, z_ocS, z_oxL, z_oxR, z_scL, z_scR, ↓reduceIte, Nat.zero_add, Nat.add_zero, Nat.zero_lt_succ, true_and, and_true, eq_self, n_div, n_mod, z_ldJn, z_saJn, f_blk, f_plc, l_9, l_10, l_13, l_14, l_17, l_18, l_19, l_20, l_21, l_22, l_24, l_28, l_60, l_61, l_62, l_64, l_98, l_99, z_ntR, z_ntwR, z_bz0, z_bz1, fL_areShots_L2, n_01])
      have l3 : z_loop (fun q : Int32 × Int32 => fL_areShots_L3 0 169 171 (nI s) (nI 0) M1 q.1 q.2) z_FU (nI 1, nI 0) = some (nI 1) := z_loopC (f := fun q : Int32 × Int32 => fL_areShots_L3 0 169 171 (nI s) (nI 0) M1 q.1 q.2) (fun i => (nI 1, nI i)) 0 _ (by omega) (fun k hk => by omega) (by simp (disch := first | omega | assumption) only [l_0, l_1, l_2, l_3, l_4, l_5, l_6, l_7, l_8, l_11, l_12, l_15, l_16, l_31, l_32, l_66, l_80, l_100, l_127, l_128, l_768, l_2304, l_2310, l_2316, l_2388, l_2394, l_2406, l_2418, l_2430, l_2558, l_2686, l_2814, l_2942, l_3070, l_3390, l_3394, l_3395, l_3396, l_3397, n_leT, n_leF, n_ltT, n_ltF, n_eqT, n_eqF, nI_add, pk_mul, n_sub, z_ldn, z_san, z_bs, z_b2s, z_b3s, z_ocN, z_ocS, z_oxL, z_oxR, z_scL, z_scR, ↓reduceIte, Nat.zero_add, Nat.add_zero, Nat.zero_lt_succ, true_and, and_true, eq_self, n_div, n_mod, z_ldJn, z_saJn, f_blk, f_plc, l_9, l_10, l_13, l_14, l_17, l_18, l_19, l_20, l_21, l_22, l_24, l_28, l_60, l_61, l_62, l_64, l_98, l_99, z_ntR, z_ntwR, z_bz0, z_bz1, fL_areShots_L3, n_01])
      refine ⟨nI 1, M1, ?_, rfl, hsm⟩
      simp (disch := first | omega | assumption) only [l_0, l_1, l_2, l_3, l_4, l_5, l_6, l_7, l_8, l_11, l_12, l_15, l_16, l_31, l_32, l_66, l_80, l_100, l_127, l_128, l_768, l_2304, l_2310, l_2316, l_2388, l_2394, l_2406, l_2418, l_2430, l_2558, l_2686, l_2814, l_2942, l_3070, l_3390, l_3394, l_3395, l_3396, l_3397, n_leT, n_leF, n_ltT, n_ltF, n_eqT, n_eqF, nI_add, pk_mul, n_sub, z_ldn, z_san, z_bs, z_b2s, z_b3s, z_ocN, z_ocS, z_oxL, z_oxR, z_scL, z_scR, ↓reduceIte, Nat.zero_add, Nat.add_zero, Nat.zero_lt_succ, true_and, and_true, eq_self, n_div, n_mod, z_ldJn, z_saJn, f_blk, f_plc, l_9, l_10, l_13, l_14, l_17, l_18, l_19, l_20, l_21, l_22, l_24, l_28, l_60, l_61, l_62, l_64, l_98, l_99, z_ntR, z_ntwR, z_bz0, z_bz1, fL_areShots_L1, m1, l2, l3, n_01]
    · have hR := hQ1.1
      have hsmm := hQ.2.2.1
      obtain ⟨M2, u1, u2⟩ := k_uniqS hn hR hI (s := s) (by omega) c
      rw [D_unq hI hsmm (lo := 12 + 4 * s) (fun j hj => ps_s hj) (off_s hsmm hs4)] at u1
      have hQ2 := sm_Q (sm_8 u2) hQ1
      have b1 := f_blocks hQ2.2.2.2.1 (I_tab hI) (lo := 12 + 4 * s) (al := 1) (by omega) (by omega)
      have l2 := f_sh2 hn hQ1 hs4 c
      have l3 := f_sh3 hn hQ2 hs4 c
      have e1 : 1 ≤ S (2394 + s) := by omega
      refine ⟨nI 1, M2, ?_, rfl, sm_t hsm (sm_8 u2)⟩
      simp (disch := first | omega | assumption) only [l_0, l_1, l_2, l_3, l_4, l_5, l_6, l_7, l_8, l_11, l_12, l_15, l_16, l_31, l_32, l_66, l_80, l_100, l_127, l_128, l_768, l_2304, l_2310, l_2316, l_2388, l_2394, l_2406, l_2418, l_2430, l_2558, l_2686, l_2814, l_2942, l_3070, l_3390, l_3394, l_3395, l_3396, l_3397, n_leT, n_leF, n_ltT, n_ltF, n_eqT, n_eqF, nI_add, pk_mul, n_sub, z_ldn, z_san, z_bs, z_b2s, z_b3s, z_ocN, z_ocS, z_oxL, z_oxR, z_scL, z_scR, ↓reduceIte, Nat.zero_add, Nat.add_zero, Nat.zero_lt_succ, true_and, and_true, eq_self, n_div, n_mod, z_ldJn, z_saJn, f_blk, f_plc, l_9, l_10, l_13, l_14, l_17, l_18, l_19, l_20, l_21, l_22, l_24, l_28, l_60, l_61, l_62, l_64, l_98, l_99, z_ntR, z_ntwR, z_bz0, z_bz1, fL_areShots_L1, m1, l2, u1, b1, l3]) (fun x M1 hh => by
    obtain ⟨hx, hsm⟩ := hh
    subst hx
    exact ⟨(nI 1, M1), by simp (disch := first | omega | assumption) only [l_0, l_1, l_2, l_3, l_4, l_5, l_6, l_7, l_8, l_11, l_12, l_15, l_16, l_31, l_32, l_66, l_80, l_100, l_127, l_128, l_768, l_2304, l_2310, l_2316, l_2388, l_2394, l_2406, l_2418, l_2430, l_2558, l_2686, l_2814, l_2942, l_3070, l_3390, l_3394, l_3395, l_3396, l_3397, n_leT, n_leF, n_ltT, n_ltF, n_eqT, n_eqF, nI_add, pk_mul, n_sub, z_ldn, z_san, z_bs, z_b2s, z_b3s, z_ocN, z_ocS, z_oxL, z_oxR, z_scL, z_scR, ↓reduceIte, Nat.zero_add, Nat.add_zero, Nat.zero_lt_succ, true_and, and_true, eq_self, n_div, n_mod, z_ldJn, z_saJn, f_blk, f_plc, l_9, l_10, l_13, l_14, l_17, l_18, l_19, l_20, l_21, l_22, l_24, l_28, l_60, l_61, l_62, l_64, l_98, l_99, fL_areShots_L1], rfl, hsm⟩)
  have q2 : r1 = nI 1 := q2
  subst q2
  refine ⟨r2, ?_, q3⟩
  unfold fL_areShots
  simp (disch := first | omega | assumption) only [l_0, l_1, l_2, l_3, l_4, l_5, l_6, l_7, l_8, l_11, l_12, l_15, l_16, l_31, l_32, l_66, l_80, l_100, l_127, l_128, l_768, l_2304, l_2310, l_2316, l_2388, l_2394, l_2406, l_2418, l_2430, l_2558, l_2686, l_2814, l_2942, l_3070, l_3390, l_3394, l_3395, l_3396, l_3397, n_leT, n_leF, n_ltT, n_ltF, n_eqT, n_eqF, nI_add, pk_mul, n_sub, z_ldn, z_san, z_bs, z_b2s, z_b3s, z_ocN, z_ocS, z_oxL, z_oxR, z_scL, z_scR, ↓reduceIte, Nat.zero_add, Nat.add_zero, Nat.zero_lt_succ, true_and, and_true, eq_self, n_div, n_mod, z_ldJn, z_saJn, f_blk, f_plc, l_9, l_10, l_13, l_14, l_17, l_18, l_19, l_20, l_21, l_22, l_24, l_28, l_60, l_61, l_62, l_64, l_98, l_99, z_ntR, z_ntwR, z_bz0, z_bz1, q1]
theorem f_told {n : Nat} {M : zM} {N : Nat → Int32} {S : Nat → Nat} (hn : n < 512) (hQ : Q_R n M N S) : ∃ M', fL_isTold 0 169 170 171 M = some (nI 1, M') ∧ y_same M M' := by
  have hI := hQ.2.1
  have hs := hQ.2.2.1
  have a1 := f_areB hn hQ.1 hI hs hQ.2.2.2.1 hQ.2.2.2.2.1 hQ.2.2.2.2.2.1.1
  obtain ⟨M1, s1, s2⟩ := f_shots hn hQ
  have hQ1 := sm_Q s2 hQ
  have d1 := k_dss hQ1.1 hI
  have hds : sumN (fun d => S (2304 + d)) 6 = S 2304 + S 2305 + S 2306 := by
    have h3 := hs.2.1 3 (by decide) (by decide)
    have h4 := hs.2.1 4 (by decide) (by decide)
    have h5 := hs.2.1 5 (by decide) (by decide)
    show 0 + S 2304 + S 2305 + S 2306 + S (2304 + 3) + S (2304 + 4) + S (2304 + 5) = _
    rw [h3, h4, h5]
    omega
  rw [hds] at d1
  have m4 : M1 171 4 = nI (S 2304) := (hQ1.2.2.2.2.2.2.1 0 (by decide)).1
  have m5 : M1 171 5 = nI (S 2305) := (hQ1.2.2.2.2.2.2.1 1 (by decide)).1
  have m6 : M1 171 6 = nI (S 2306) := (hQ1.2.2.2.2.2.2.1 2 (by decide)).1
  obtain ⟨⟨r1, r2⟩, q1, q2, q3⟩ := z_loopA (f := fun q : Int32 × Int32 × zM => fL_isTold_L1 0 169 170 171 q.1 q.2.1 q.2.2) (fun i x M' => x = nI 1 ∧ y_same M M') (fun r => r.1 = nI 1 ∧ y_same M r.2) 0 3 (by omega) (x := nI 1) (s := nI 0) (M := M1) rfl ⟨rfl, s2⟩ (fun d x M2 hd hh => by
    obtain ⟨hx, hsm⟩ := hh
    subst hx
    rw [Nat.zero_add]
    have hQ2 := sm_Q hsm hQ
    have m1 := (hQ2.2.2.2.2.2.2.1 d hd).1
    have ex := I_ex hI d (by omega)
    by_cases c : S (2304 + d) = 0
    · refine ⟨nI 1, M2, ?_, rfl, hsm⟩
      simp (disch := first | omega | assumption) only [l_0, l_1, l_2, l_3, l_4, l_5, l_6, l_7, l_8, l_11, l_12, l_15, l_16, l_31, l_32, l_66, l_80, l_100, l_127, l_128, l_768, l_2304, l_2310, l_2316, l_2388, l_2394, l_2406, l_2418, l_2430, l_2558, l_2686, l_2814, l_2942, l_3070, l_3390, l_3394, l_3395, l_3396, l_3397, n_leT, n_leF, n_ltT, n_ltF, n_eqT, n_eqF, nI_add, pk_mul, n_sub, z_ldn, z_san, z_bs, z_b2s, z_b3s, z_ocN, z_ocS, z_oxL, z_oxR, z_scL, z_scR, ↓reduceIte, Nat.zero_add, Nat.add_zero, Nat.zero_lt_succ, true_and, and_true, eq_self, n_div, n_mod, z_ldJn, z_saJn, f_blk, f_plc, l_9, l_10, l_13, l_14, l_17, l_18, l_19, l_20, l_21, l_22, l_24, l_28, l_60, l_61, l_62, l_64, l_98, l_99, z_ntR, z_ntwR, z_bz0, z_bz1, fL_isTold_L1, m1]
    · have c1 : S (2304 + d) = 1 := by omega
      obtain ⟨M3, t1, t2⟩ := f_isSet hn hQ2 hd c1
      refine ⟨nI 1, M3, ?_, rfl, sm_t hsm t2⟩
      simp (disch := first | omega | assumption) only [l_0, l_1, l_2, l_3, l_4, l_5, l_6, l_7, l_8, l_11, l_12, l_15, l_16, l_31, l_32, l_66, l_80, l_100, l_127, l_128, l_768, l_2304, l_2310, l_2316, l_2388, l_2394, l_2406, l_2418, l_2430, l_2558, l_2686, l_2814, l_2942, l_3070, l_3390, l_3394, l_3395, l_3396, l_3397, n_leT, n_leF, n_ltT, n_ltF, n_eqT, n_eqF, nI_add, pk_mul, n_sub, z_ldn, z_san, z_bs, z_b2s, z_b3s, z_ocN, z_ocS, z_oxL, z_oxR, z_scL, z_scR, ↓reduceIte, Nat.zero_add, Nat.add_zero, Nat.zero_lt_succ, true_and, and_true, eq_self, n_div, n_mod, z_ldJn, z_saJn, f_blk, f_plc, l_9, l_10, l_13, l_14, l_17, l_18, l_19, l_20, l_21, l_22, l_24, l_28, l_60, l_61, l_62, l_64, l_98, l_99, z_ntR, z_ntwR, z_bz0, z_bz1, fL_isTold_L1, m1, t1]) (fun x M1 hh => by
    obtain ⟨hx, hsm⟩ := hh
    subst hx
    exact ⟨(nI 1, M1), by simp (disch := first | omega | assumption) only [l_0, l_1, l_2, l_3, l_4, l_5, l_6, l_7, l_8, l_11, l_12, l_15, l_16, l_31, l_32, l_66, l_80, l_100, l_127, l_128, l_768, l_2304, l_2310, l_2316, l_2388, l_2394, l_2406, l_2418, l_2430, l_2558, l_2686, l_2814, l_2942, l_3070, l_3390, l_3394, l_3395, l_3396, l_3397, n_leT, n_leF, n_ltT, n_ltF, n_eqT, n_eqF, nI_add, pk_mul, n_sub, z_ldn, z_san, z_bs, z_b2s, z_b3s, z_ocN, z_ocS, z_oxL, z_oxR, z_scL, z_scR, ↓reduceIte, Nat.zero_add, Nat.add_zero, Nat.zero_lt_succ, true_and, and_true, eq_self, n_div, n_mod, z_ldJn, z_saJn, f_blk, f_plc, l_9, l_10, l_13, l_14, l_17, l_18, l_19, l_20, l_21, l_22, l_24, l_28, l_60, l_61, l_62, l_64, l_98, l_99, fL_isTold_L1], rfl, hsm⟩)
  have q2 : r1 = nI 1 := q2
  subst q2
  refine ⟨r2, ?_, q3⟩
  unfold fL_isTold
  simp (disch := first | omega | assumption) only [l_0, l_1, l_2, l_3, l_4, l_5, l_6, l_7, l_8, l_11, l_12, l_15, l_16, l_31, l_32, l_66, l_80, l_100, l_127, l_128, l_768, l_2304, l_2310, l_2316, l_2388, l_2394, l_2406, l_2418, l_2430, l_2558, l_2686, l_2814, l_2942, l_3070, l_3390, l_3394, l_3395, l_3396, l_3397, n_leT, n_leF, n_ltT, n_ltF, n_eqT, n_eqF, nI_add, pk_mul, n_sub, z_ldn, z_san, z_bs, z_b2s, z_b3s, z_ocN, z_ocS, z_oxL, z_oxR, z_scL, z_scR, ↓reduceIte, Nat.zero_add, Nat.add_zero, Nat.zero_lt_succ, true_and, and_true, eq_self, n_div, n_mod, z_ldJn, z_saJn, f_blk, f_plc, l_9, l_10, l_13, l_14, l_17, l_18, l_19, l_20, l_21, l_22, l_24, l_28, l_60, l_61, l_62, l_64, l_98, l_99, z_ntR, z_ntwR, z_bz0, z_bz1, a1, s1, d1, m4, m5, m6, q1]
