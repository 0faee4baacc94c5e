/-! ===== the law's snapshots: rollback, done ===== -/
set_option maxHeartbeats 2000000 in
theorem f_roll_y {n : Nat} {M : zM} {N N0 : Nat → Int32} {S S0 : Nat → Nat} (hn : n < 512) (hQ : Q_st n M N N0 S S0) {s wy : Nat} (hs4 : s < 4) (h0 : S (2394 + s) ≠ 0) (hw : 12 ≤ wy) (hw2 : wy < 14) (cn : q_cn S (S (2418 + s)) s 4 = 1) : ∃ M3 S1, fL_snapshots 0 169 170 171 (nI wy) (nI s) M = some (nI 1, M3) ∧ Q_st n M3 N N0 S1 S0 := by
  have hR := hQ.1.1
  have hI := hQ.1.2.1
  have hs := hQ.1.2.2.1
  obtain ⟨hX, hB, hM⟩ := hQ.2.1
  have g1 := (hM.2.2 s hs4).1
  have g2 := ((hM.2.2 s hs4).2 h0).1
  obtain ⟨_, hd6, hdx, _⟩ := I_liv hI s (by omega) h0
  obtain ⟨d, hdd⟩ : ∃ d, S (2418 + s) = d := ⟨_, rfl⟩
  rw [hdd] at g2 hd6 hdx cn
  have hd : d < 3 := Classical.byContradiction (fun x => by
    have := hs.2.1 d (by omega) hd6
    omega)
  have hb := I_nb hI s (by omega)
  have e1 : 1 ≤ S (2394 + s) := by omega
  have ho := (I_bnd hI).2.1
  have l2 := f_ro2 hM hI hn hs hd hs4 h0
  obtain ⟨M36, l3, a1, a2, a3⟩ := f_ro3 hM hI hn hs hd hs4 h0
  obtain ⟨rk, p, c, k1, k2, k3, k4, k5, k6, k7⟩ := k_roll hn (R1_fr hR (fun a ha => a1 a (by omega) (by omega))) hI (d := d) (s := s) hd6 hdx (by omega) h0 hdd
  obtain ⟨k8, M39, k9, k10, k11, k12⟩ := k7 ((cn_oB hI hs hd6 k2 k3 k4).mp cn)
  obtain ⟨v1, v2, v3⟩ := rb_facts (s := s) hd6 k8
  obtain ⟨S1, hS1⟩ : ∃ S1, rbS S d p s c = S1 := ⟨_, rfl⟩
  rw [hS1] at v1 v2 v3 k10 k11
  obtain ⟨t1, t2, t3, t4, t5, t6, t7, t8, t9, t10, t11⟩ := k8
  have hbh : ∀ t, t < 12 → (z_bh S rk d p (c - 1 - p) t ↔ q_be S d s t) := fun t ht => be_bh hI hd6 k2 k3 k4 ht k5
  have v5 : ∀ t, t < 12 → S1 (2394 + t) = if q_be S d s t then 0 else S (2394 + t) := fun t ht => by
    rw [v3 _ (by omega), t5 t ht]
    by_cases x : q_be S d s t
    · rw [if_pos x, if_pos ((hbh t ht).mpr x)]
    · rw [if_neg x, if_neg (fun y => x ((hbh t ht).mp y))]
  have v6 : ∀ k, 2304 ≤ k → k < 2316 → S1 k = S k := fun k q1 q2 => by rw [v3 k q1]; exact t8 k q1 q2
  have v7 : ∀ k, 2406 ≤ k → S1 k = S k := fun k q1 => by rw [v3 k (by omega)]; exact t9 k q1
  have v8 : ∀ t x, t < 12 → x < 128 → S1 (768 + 128 * t + x) = if q_be S d s t then 0 else S (768 + 128 * t + x) := fun t x ht hx => by
    rw [v2 t x ht hx]
    by_cases y : q_be S d s t
    · rw [if_pos y, if_pos ((hbh t ht).mpr y)]
    · rw [if_neg y, if_neg (fun z => y ((hbh t ht).mp z))]
  have hX1 : L_x 169 M39 S1 := fun q hq => by
    have hpl := pl_128 (k := q % 4) (by omega)
    rw [k12 169 (by decide), a3 q hq]
    by_cases z : 4 * d ≤ q ∧ q < 4 * d + 4
    · have e : q = 4 * d + (q - 4 * d) := by omega
      have e2 : q_ps q = 128 * d + q_pl (q - 4 * d) := by rw [e, ps_d hd (by omega), ← e]
      have hp2 := pl_128 (k := q - 4 * d) (by omega)
      rw [if_pos z, hX _ (by omega), ps_s (by omega), e2, v1 _ (by omega), if_pos ⟨by omega, by omega⟩, Nat.add_sub_cancel_left]
    · rw [if_neg z]
      by_cases z2 : q < 12
      · have e2 : q_ps q = 128 * (q / 4) + q_pl (q % 4) := by rw [kp_ps, kp_d (by omega)]
        rw [if_neg (by omega), hX q hq, e2, v1 _ (by omega), if_neg (by omega)]
      · have e2 : q_ps q = 768 + 128 * ((q - 12) / 4) + q_pl (q % 4) := by
          rw [kp_ps, show q / 4 = 3 + (q - 12) / 4 by omega, kp_s]
        rw [e2, v8 _ _ (by omega) hpl]
        by_cases z3 : q_be S d s ((q - 12) / 4)
        · rw [if_pos z3, if_pos ⟨by omega, by omega, z3⟩]
        · rw [if_neg z3, if_neg (fun x => z3 x.2.2), hX q hq, e2]
  have r39 : ∀ i, M39 171 i = if 12 ≤ i ∧ i < 12 + 4 ∧ q_be S d s (i - 12) then nI 0 else M 171 i := fun i => by rw [k12 171 (by decide)]; exact a2 i
  have hM1 : L_m 171 M39 S1 := by
    obtain ⟨⟨m1, m2, m3⟩, m4, m5⟩ := hM
    refine ⟨⟨?_, ?_, ?_⟩, fun e he => ?_, fun t ht => ?_⟩
    · rw [r39, if_neg (by omega), v7 _ (by omega)]; exact m1
    · rw [r39, if_neg (by omega), v7 _ (by omega)]; exact m2
    · rw [r39, if_neg (by omega), v7 _ (by omega)]; exact m3
    · have ez : z_onum S1 e = z_onum S e := by
        have h7 := I_ori hI e (by omega)
        unfold z_onum
        rw [v6 (2310 + e) (by omega) (by omega)]
        by_cases z : S (2310 + e) = 0
        · rw [if_pos z, if_pos z]
        · have nb : ¬ q_be S d s (S (2310 + e) - 1) := fun x => by
            have h8 := cn_0.mp cn (S (2310 + e) - 1) (Classical.byContradiction (fun y => by
              have := hs.2.2.1 (S (2310 + e) - 1) (by omega) (by omega)
              have h9 := x.1
              omega)) x
            exact orN_0.mp h8 e (by omega) (by omega)
          rw [if_neg z, if_neg z, v5 _ (by omega), if_neg nb]
      rw [r39, if_neg (by omega), r39, if_neg (by omega), ez, v6 _ (by omega) (by omega)]
      exact m4 e he
    · rw [r39, r39, if_neg (c := 12 ≤ 16 + t ∧ 16 + t < 12 + 4 ∧ _) (by omega), r39, if_neg (c := 12 ≤ 20 + t ∧ 20 + t < 12 + 4 ∧ _) (by omega), v5 t (by omega), v7 (2418 + t) (by omega), v7 (2406 + t) (by omega), Nat.add_sub_cancel_left]
      by_cases z : q_be S d s t
      · rw [if_pos z, if_pos ⟨by omega, by omega, z⟩]
        exact ⟨rfl, fun x => absurd rfl x⟩
      · rw [if_neg z, if_neg (fun x => z x.2.2)]
        exact m5 t ht
  have hle : ∀ k, k < 2304 → S1 k = 0 ∨ ∃ j, j < 2304 ∧ S j = S1 k := fun k hk => by
    by_cases z : k < 768
    · rw [v1 k z]
      split
      · exact Or.inr ⟨_, by omega, rfl⟩
      · exact Or.inr ⟨k, hk, rfl⟩
    · have e := v8 ((k - 768) / 128) ((k - 768) % 128) (by omega) (by omega)
      rw [show 768 + 128 * ((k - 768) / 128) + (k - 768) % 128 = k by omega] at e
      rw [e]
      split
      · exact Or.inl rfl
      · exact Or.inr ⟨k, hk, rfl⟩
  have hoff : q_off S1 := fun k hk hno => by
    by_cases z : k < 768
    · rw [v1 k z]
      split
      · exact off_s hs hs4 _ (by omega) (fun j hj e => hno (4 * d + j) (by omega) (by rw [ps_d hd hj, e]; omega))
      · exact hs.1 k hk hno
    · have e := v8 ((k - 768) / 128) ((k - 768) % 128) (by omega) (by omega)
      rw [show 768 + 128 * ((k - 768) / 128) + (k - 768) % 128 = k by omega] at e
      rw [e]
      split
      · rfl
      · exact hs.1 k hk hno
  have hB1 : L_b 170 M39 N S1 := fun i hi => by
    rw [v7 _ (by omega), v7 _ (by omega), v7 _ (by omega), v7 _ (by omega)]
    exact L_b_cg hB (by rw [k12 170 (by decide), a1 170 (by decide) (by decide)]) i hi
  obtain ⟨M44, w1, w2, w3⟩ := f_settle (C := 171) hX1 hoff (fun k hk => by
    rcases hle k hk with q | ⟨j, q1, q2⟩
    · omega
    · rw [← q2]
      exact I_tab hI j q1) hB1 hM1.1.1 (by rw [v7 _ (by omega)]; omega) (fun b hb q => by rw [v7 _ (by omega)]; exact (hs.2.2.2 b hb q).1) (by decide) (by decide)
  have hst : Q_st n M44 N N0 (y_mk S1) S0 := st_mk hQ (R1_fr k10 (fun a ha => w3 a (by omega))) k11 (fun a q1 q2 => by rw [w3 a (by omega), k12 a q1]; exact a1 a (by omega) (by omega)) (fun a q1 q2 => by rw [w3 a (by omega), k12 a (by omega)]; exact a1 a (by omega) (by omega)) (L_x_cg hX1 (w3 169 (by decide))) w2 (L_m_cg hM1 (w3 171 (by decide))) hoff (fun e q1 q2 => by rw [v6 _ (by omega) (by omega)]; exact hs.2.1 e q1 q2) (fun t q1 q2 => by
      have := hs.2.2.1 t q1 q2
      rw [v5 t (by omega)]
      split
      · rfl
      · exact this) (fun b hb => Or.inl (v7 _ (by omega))) (fun k q1 q2 => v7 k (by omega)) (fun k q1 q2 => v7 k (by omega)) (v7 _ (by omega)) (fun k _ => rfl) (fun k hk => by
    rcases hle k hk with q | q
    · exact Or.inl q
    · exact Or.inr (Or.inl q))
  refine ⟨M44, y_mk S1, ?_, hst⟩
  have hlb := lost_b (S := S1)
  rw [cn, ← be_4 hs, be_cnt hI hd6 k2 k3 k4] at l2
  have hc12 := (I_ord hI d hd6).1
  have q1 : z_ld M 171 32 (12 + nI s) = some (nI (S (2394 + s))) := by simp (disch := first | omega | assumption) only [l_0, l_1, l_2, l_3, l_4, l_5, l_6, l_7, l_8, l_11, l_12, l_15, l_16, l_31, l_32, l_66, l_80, l_100, l_127, l_128, l_768, l_2304, l_2310, l_2316, l_2388, l_2394, l_2406, l_2418, l_2430, l_2558, l_2686, l_2814, l_2942, l_3070, l_3390, l_3394, l_3395, l_3396, l_3397, n_leT, n_leF, n_ltT, n_ltF, n_eqT, n_eqF, nI_add, pk_mul, n_sub, z_ldn, z_san, z_bs, z_b2s, z_b3s, z_ocN, z_ocS, z_oxL, z_oxR, z_scL, z_scR, ↓reduceIte, Nat.zero_add, Nat.add_zero, Nat.zero_lt_succ, true_and, and_true, eq_self, l_12, g1]
  have q2 : z_ld M 171 32 (16 + nI s) = some (nI d) := by simp (disch := first | omega | assumption) only [l_0, l_1, l_2, l_3, l_4, l_5, l_6, l_7, l_8, l_11, l_12, l_15, l_16, l_31, l_32, l_66, l_80, l_100, l_127, l_128, l_768, l_2304, l_2310, l_2316, l_2388, l_2394, l_2406, l_2418, l_2430, l_2558, l_2686, l_2814, l_2942, l_3070, l_3390, l_3394, l_3395, l_3396, l_3397, n_leT, n_leF, n_ltT, n_ltF, n_eqT, n_eqF, nI_add, pk_mul, n_sub, z_ldn, z_san, z_bs, z_b2s, z_b3s, z_ocN, z_ocS, z_oxL, z_oxR, z_scL, z_scR, ↓reduceIte, Nat.zero_add, Nat.add_zero, Nat.zero_lt_succ, true_and, and_true, eq_self, l_16, g2]
  have l2 : z_loop (fun q : Int32 × Int32 × Int32 => fL_snapshots_L2 171 M (nI (S (2394 + s))) (nI d) q.1 q.2.1 q.2.2) z_FU (0, 1, 0) = some (nI (c - 1 - p), nI 1) := l2
  have l3 : z_loop (fun q : Int32 × zM => fL_snapshots_L3 169 171 (nI s) (nI (S (2394 + s))) (nI d) (nI 1) q.1 q.2) z_FU (0, M) = some M36 := l3
  have q3 : fL_rolled 0 (nI d) (nI (S (2394 + s)) - 1) M36 = some (nI (c - 1 - p), M39) := by
    unfold fL_rolled
    simp (disch := first | omega | assumption) only [l_0, l_1, l_2, l_3, l_4, l_5, l_6, l_7, l_8, l_11, l_12, l_15, l_16, l_31, l_32, l_66, l_80, l_100, l_127, l_128, l_768, l_2304, l_2310, l_2316, l_2388, l_2394, l_2406, l_2418, l_2430, l_2558, l_2686, l_2814, l_2942, l_3070, l_3390, l_3394, l_3395, l_3396, l_3397, n_leT, n_leF, n_ltT, n_ltF, n_eqT, n_eqF, nI_add, pk_mul, n_sub, z_ldn, z_san, z_bs, z_b2s, z_b3s, z_ocN, z_ocS, z_oxL, z_oxR, z_scL, z_scR, ↓reduceIte, Nat.zero_add, Nat.add_zero, Nat.zero_lt_succ, true_and, and_true, eq_self, n_div, n_mod, z_ldJn, z_saJn, f_blk, f_plc, l_9, l_10, l_13, l_14, l_17, l_18, l_19, l_20, l_21, l_22, l_24, l_28, l_60, l_61, l_62, l_64, l_98, l_99, z_ntR, z_ntwR, z_bz0, z_bz1, k9]
  have q4 : ((if nI 1 = 0 then some (-2) else some (nI (c - 1 - p))) : Option Int32) = some (nI (c - 1 - p)) := if_neg (by decide)
  have q5 : ¬ (nI (sumN (lostN S1) 128) : Int32) < 0 := fun x => by
    rw [show (0 : Int32) = nI 0 from rfl, n_ltF (by omega) (by omega) (by omega)] at x
    exact x
  have q6 : (12 : Int32) ≤ nI wy := by
    rw [show (12 : Int32) = nI 12 from rfl, n_leT (by omega) (by omega) (by omega)]
    trivial
  have q7 : ¬ (14 : Int32) ≤ nI wy := fun x => by
    rw [show (14 : Int32) = nI 14 from rfl, n_leF (by omega) (by omega) (by omega)] at x
    exact x
  unfold fL_snapshots
  rw [q1, z_bs, q2, z_bs, if_pos q6, if_neg q7, l2, z_b2s, l3, z_bs, q3, z_b2s, q4, z_bs, if_pos rfl, w1, z_b2s, if_neg q5]
  rfl
theorem f_roll {n : Nat} {M : zM} {N N0 : Nat → Int32} {S S0 : Nat → Nat} (hn : n < 512) (hQ : Q_st n M N N0 S S0) {s wy : Nat} (hs4 : s < 4) (h0 : S (2394 + s) ≠ 0) (hw : 12 ≤ wy) (hw2 : wy < 14) : ∃ M3 S1, fL_snapshots 0 169 170 171 (nI wy) (nI s) M = some (nI 1, M3) ∧ Q_st n M3 N N0 S1 S0 := by
  by_cases cn : q_cn S (S (2418 + s)) s 4 = 1
  · exact f_roll_y hn hQ hs4 h0 hw hw2 cn
  · exact f_roll_n hn hQ hs4 h0 hw hw2 cn
