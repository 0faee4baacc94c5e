/-! ===== the law's snapshots: rollback, whole ===== -/
set_option maxHeartbeats 2000000 in
theorem f_roll_n {n : Nat} {M : zM} {N N0 : Nat → Int32} {S S0 : Nat → Nat} (hn : n < 512) (hQ : Q_st n M N N0 S S0) {s wy : Nat} (hs4 : s < 4) (h0 : S (2394 + s) ≠ 0) (hw : 12 ≤ wy) (hw2 : wy < 14) (cn : ¬ q_cn S (S (2418 + s)) s 4 = 1) : ∃ M3 S1, fL_snapshots 0 169 170 171 (nI wy) (nI s) M = some (nI 1, M3) ∧ Q_st n M3 N N0 S1 S0 := by
  have hR := hQ.1.1
  have hI := hQ.1.2.1
  have hs := hQ.1.2.2.1
  obtain ⟨hX, hB, hM⟩ := hQ.2.1
  have g1 := (hM.2.2 s hs4).1
  have g2 := ((hM.2.2 s hs4).2 h0).1
  obtain ⟨_, hd6, hdx, _⟩ := I_liv hI s (by omega) h0
  obtain ⟨d, hdd⟩ : ∃ d, S (2418 + s) = d := ⟨_, rfl⟩
  rw [hdd] at g2 hd6 hdx cn
  have hd : d < 3 := Classical.byContradiction (fun x => by
    have := hs.2.1 d (by omega) hd6
    omega)
  have hb := I_nb hI s (by omega)
  have e1 : 1 ≤ S (2394 + s) := by omega
  have ho := (I_bnd hI).2.1
  have l2 := f_ro2 hM hI hn hs hd hs4 h0
  have h1 := cn_1 (S := S) (d := d) (s := s) (k := 4)
  have cn0 : q_cn S d s 4 = 0 := by omega
  obtain ⟨rk, p, c, k1, k2, k3, k4, k5, k6, k7⟩ := k_roll hn hR hI (d := d) (s := s) hd6 hdx (by omega) h0 hdd
  have k8 := k6 (fun x => cn ((cn_oB hI hs hd6 k2 k3 k4).mpr x))
  have l3 : z_loop (fun q : Int32 × zM => fL_snapshots_L3 169 171 (nI s) (nI (S (2394 + s))) (nI d) (nI 0) q.1 q.2) z_FU (nI 0, M) = some M := by
    obtain ⟨r, q1, q2⟩ := z_loopM (f := fun q : Int32 × zM => fL_snapshots_L3 169 171 (nI s) (nI (S (2394 + s))) (nI d) (nI 0) q.1 q.2) (fun _ M' => M' = M) (fun M' => M' = M) 0 0 (by omega) rfl rfl (fun k M' hk => by omega) (fun M' hh => ⟨M', by simp (disch := first | omega | assumption) only [l_0, l_1, l_2, l_3, l_4, l_5, l_6, l_7, l_8, l_11, l_12, l_15, l_16, l_31, l_32, l_66, l_80, l_100, l_127, l_128, l_768, l_2304, l_2310, l_2316, l_2388, l_2394, l_2406, l_2418, l_2430, l_2558, l_2686, l_2814, l_2942, l_3070, l_3390, l_3394, l_3395, l_3396, l_3397, n_leT, n_leF, n_ltT, n_ltF, n_eqT, n_eqF, nI_add, pk_mul, n_sub, z_ldn, z_san, z_bs, z_b2s, z_b3s, z_ocN, z_ocS, z_oxL, z_oxR, z_scL, z_scR, ↓reduceIte, Nat.zero_add, Nat.add_zero, Nat.zero_lt_succ, true_and, and_true, eq_self, n_div, n_mod, z_ldJn, z_saJn, f_blk, f_plc, l_9, l_10, l_13, l_14, l_17, l_18, l_19, l_20, l_21, l_22, l_24, l_28, l_60, l_61, l_62, l_64, l_98, l_99, z_ntR, z_ntwR, z_bz0, z_bz1, fL_snapshots_L3], hh⟩)
    rw [q1, q2]
  obtain ⟨M44, w1, w2, w3⟩ := f_settle (C := 171) hX hs.1 (I_tab hI) hB hM.1.1 (by omega) (fun b hb q => (hs.2.2.2 b hb q).1) (by decide) (by decide)
  have hst : Q_st n M44 N N0 (y_mk S) S0 := st_mk2 hQ (R1_fr (by rw [y_mk_id hI]; exact hR) (fun a ha => w3 a (by omega))) (by rw [y_mk_id hI]; exact hI) (fun a q1 q2 => w3 a (by omega)) (fun a q1 q2 => w3 a (by omega)) (L_x_cg hX (w3 169 (by decide))) w2 hs.1 (fun k _ => rfl) (fun k hk => Or.inr ⟨k, hk, rfl⟩)
  refine ⟨M44, y_mk S, ?_, hst⟩
  have hlb := lost_b (S := S)
  have hb4 := sumN_le (g := fun t => if q_be S d s t then 1 else 0) (c := 1) (n := 4) (fun t ht => by
    show (if q_be S d s t then 1 else 0) ≤ 1
    split <;> decide)
  rw [cn0] at l2
  have q1 : z_ld M 171 32 (12 + nI s) = some (nI (S (2394 + s))) := by simp (disch := first | omega | assumption) only [l_0, l_1, l_2, l_3, l_4, l_5, l_6, l_7, l_8, l_11, l_12, l_15, l_16, l_31, l_32, l_66, l_80, l_100, l_127, l_128, l_768, l_2304, l_2310, l_2316, l_2388, l_2394, l_2406, l_2418, l_2430, l_2558, l_2686, l_2814, l_2942, l_3070, l_3390, l_3394, l_3395, l_3396, l_3397, n_leT, n_leF, n_ltT, n_ltF, n_eqT, n_eqF, nI_add, pk_mul, n_sub, z_ldn, z_san, z_bs, z_b2s, z_b3s, z_ocN, z_ocS, z_oxL, z_oxR, z_scL, z_scR, ↓reduceIte, Nat.zero_add, Nat.add_zero, Nat.zero_lt_succ, true_and, and_true, eq_self, l_12, g1]
  have q2 : z_ld M 171 32 (16 + nI s) = some (nI d) := by simp (disch := first | omega | assumption) only [l_0, l_1, l_2, l_3, l_4, l_5, l_6, l_7, l_8, l_11, l_12, l_15, l_16, l_31, l_32, l_66, l_80, l_100, l_127, l_128, l_768, l_2304, l_2310, l_2316, l_2388, l_2394, l_2406, l_2418, l_2430, l_2558, l_2686, l_2814, l_2942, l_3070, l_3390, l_3394, l_3395, l_3396, l_3397, n_leT, n_leF, n_ltT, n_ltF, n_eqT, n_eqF, nI_add, pk_mul, n_sub, z_ldn, z_san, z_bs, z_b2s, z_b3s, z_ocN, z_ocS, z_oxL, z_oxR, z_scL, z_scR, ↓reduceIte, Nat.zero_add, Nat.add_zero, Nat.zero_lt_succ, true_and, and_true, eq_self, l_16, g2]
  obtain ⟨W, hW⟩ : ∃ W, sumN (fun t => if q_be S d s t then 1 else 0) 4 = W := ⟨_, rfl⟩
  rw [hW] at l2
  have l2 : z_loop (fun q : Int32 × Int32 × Int32 => fL_snapshots_L2 171 M (nI (S (2394 + s))) (nI d) q.1 q.2.1 q.2.2) z_FU (0, 1, 0) = some (nI W, nI 0) := l2
  have l3 : z_loop (fun q : Int32 × zM => fL_snapshots_L3 169 171 (nI s) (nI (S (2394 + s))) (nI d) (nI 0) q.1 q.2) z_FU (0, M) = some M := l3
  have q3 : fL_rolled 0 (nI d) (nI (S (2394 + s)) - 1) M = some (-2, M) := by
    unfold fL_rolled
    simp (disch := first | omega | assumption) only [l_0, l_1, l_2, l_3, l_4, l_5, l_6, l_7, l_8, l_11, l_12, l_15, l_16, l_31, l_32, l_66, l_80, l_100, l_127, l_128, l_768, l_2304, l_2310, l_2316, l_2388, l_2394, l_2406, l_2418, l_2430, l_2558, l_2686, l_2814, l_2942, l_3070, l_3390, l_3394, l_3395, l_3396, l_3397, n_leT, n_leF, n_ltT, n_ltF, n_eqT, n_eqF, nI_add, pk_mul, n_sub, z_ldn, z_san, z_bs, z_b2s, z_b3s, z_ocN, z_ocS, z_oxL, z_oxR, z_scL, z_scR, ↓reduceIte, Nat.zero_add, Nat.add_zero, Nat.zero_lt_succ, true_and, and_true, eq_self, n_div, n_mod, z_ldJn, z_saJn, f_blk, f_plc, l_9, l_10, l_13, l_14, l_17, l_18, l_19, l_20, l_21, l_22, l_24, l_28, l_60, l_61, l_62, l_64, l_98, l_99, z_ntR, z_ntwR, z_bz0, z_bz1, k8]
  have q4 : ((if nI 0 = 0 then some (-2) else some (nI W)) : Option Int32) = some (-2) := if_pos rfl
  have q5 : ¬ (nI (sumN (lostN S) 128) : Int32) < 0 := fun x => by
    rw [show (0 : Int32) = nI 0 from rfl, n_ltF (by omega) (by omega) (by omega)] at x
    exact x
  have q6 : (12 : Int32) ≤ nI wy := by
    rw [show (12 : Int32) = nI 12 from rfl, n_leT (by omega) (by omega) (by omega)]
    trivial
  have q7 : ¬ (14 : Int32) ≤ nI wy := fun x => by
    rw [show (14 : Int32) = nI 14 from rfl, n_leF (by omega) (by omega) (by omega)] at x
    exact x
  unfold fL_snapshots
  rw [q1, z_bs, q2, z_bs, if_pos q6, if_neg q7, l2, z_b2s, l3, z_bs, q3, z_b2s, q4, z_bs, if_pos rfl, w1, z_b2s, if_neg q5]
  rfl
