/-! ===== commit and snapshot in the law ===== -/
theorem sn_f {S : Nat → Nat} {d s c : Nat} (hd : d < 6) (hs : s < 12) (hc : c ≤ 11) : (∀ k, k < 2304 → snS S d s c k = if 768 + 128 * s ≤ k ∧ k < 768 + 128 * s + 128 then S (128 * d + (k - (768 + 128 * s))) else S k) ∧ (∀ k, (2304 ≤ k ∧ k < 2316) ∨ (2430 ≤ k ∧ k ≠ 3394) → snS S d s c k = S k) ∧ (∀ t, t < 12 → snS S d s c (2394 + t) = if t = s then S 3394 + 1 else S (2394 + t)) ∧ (∀ t, t < 12 → snS S d s c (2406 + t) = if t = s then S 3395 else S (2406 + t)) ∧ (∀ t, t < 12 → snS S d s c (2418 + t) = if t = s then d else S (2418 + t)) ∧ snS S d s c 3394 = S 3394 + 1 := by
  unfold snS
  refine ⟨fun k hk => ?_, fun k hk => ?_, fun t ht => ?_, fun t ht => ?_, fun t ht => ?_, ?_⟩
  · by_cases z : 768 + 128 * s ≤ k ∧ k < 768 + 128 * s + 128
    · rw [if_pos z, rng_in z.1 z.2]
    · rw [if_neg z, rng_out (by omega), upN_n (by omega), upN_n (by omega), upN_n (by omega), upN_n (by omega), upN_n (by omega), upN_n (by omega)]
  · rw [rng_out (by omega), upN_n (by omega), upN_n (by omega), upN_n (by omega), upN_n (by omega), upN_n (by omega), upN_n (by omega)]
  · rw [rng_out (by omega), upN_n (by omega), upN_n (by omega), upN_n (by omega), upN_n (by omega)]
    by_cases z : t = s
    · rw [if_pos z, z, upN_s]
    · rw [if_neg z, upN_n (by omega), upN_n (by omega)]
  · rw [rng_out (by omega), upN_n (by omega), upN_n (by omega), upN_n (by omega)]
    by_cases z : t = s
    · rw [if_pos z, z, upN_s]
    · rw [if_neg z, upN_n (by omega), upN_n (by omega), upN_n (by omega)]
  · rw [rng_out (by omega), upN_n (by omega), upN_n (by omega)]
    by_cases z : t = s
    · rw [if_pos z, z, upN_s]
    · rw [if_neg z, upN_n (by omega), upN_n (by omega), upN_n (by omega), upN_n (by omega)]
  · rw [rng_out (by omega), upN_n (by omega), upN_n (by omega), upN_n (by omega), upN_n (by omega), upN_n (by omega), upN_s]
theorem f_had {n : Nat} {M : zM} {N : Nat → Int32} {S : Nat → Nat} (hR : z_R1 1 M N S) (hI : z_I n S) : ∃ M18, z_loop (fun q : Int32 × zM => fL_way_L1 q.1 q.2) z_FU (nI 0, M) = some M18 ∧ (∀ a, a ≠ 175 → M18 a = M a) ∧ ∀ r, r < 4 → M18 175 r = nI (S (3390 + r)) := by
  refine z_loopM (f := fun q : Int32 × zM => fL_way_L1 q.1 q.2) (fun i M' => (∀ a, a ≠ 175 → M' a = M a) ∧ ∀ r, r < i → M' 175 r = nI (S (3390 + r))) (fun M' => (∀ a, a ≠ 175 → M' a = M a) ∧ ∀ r, r < 4 → M' 175 r = nI (S (3390 + r))) 0 4 (by omega) rfl ⟨fun a _ => rfl, fun r hr => absurd hr (Nat.not_lt_zero r)⟩ (fun i M' hi hh => ?_) (fun M' hh => ⟨M', by simp (disch := first | omega | assumption) only [l_0, l_1, l_2, l_3, l_4, l_5, l_6, l_7, l_8, l_11, l_12, l_15, l_16, l_31, l_32, l_66, l_80, l_100, l_127, l_128, l_768, l_2304, l_2310, l_2316, l_2388, l_2394, l_2406, l_2418, l_2430, l_2558, l_2686, l_2814, l_2942, l_3070, l_3390, l_3394, l_3395, l_3396, l_3397, n_leT, n_leF, n_ltT, n_ltF, n_eqT, n_eqF, nI_add, pk_mul, n_sub, z_ldn, z_san, z_bs, z_b2s, z_b3s, z_ocN, z_ocS, z_oxL, z_oxR, z_scL, z_scR, ↓reduceIte, Nat.zero_add, Nat.add_zero, Nat.zero_lt_succ, true_and, and_true, eq_self, n_div, n_mod, z_ldJn, z_saJn, f_blk, f_plc, l_9, l_10, l_13, l_14, l_17, l_18, l_19, l_20, l_21, l_22, l_24, l_28, l_60, l_61, l_62, l_64, l_98, l_99, z_ntR, z_ntwR, z_bz0, z_bz1, fL_way_L1], hh⟩)
  rw [Nat.zero_add]
  have hE := k_logE (R1_fr hR (fun a ha => hh.1 a (by omega))) hI hi
  refine ⟨z_st M' 175 i (nI (S (3390 + i))), by simp (disch := first | omega | assumption) only [l_0, l_1, l_2, l_3, l_4, l_5, l_6, l_7, l_8, l_11, l_12, l_15, l_16, l_31, l_32, l_66, l_80, l_100, l_127, l_128, l_768, l_2304, l_2310, l_2316, l_2388, l_2394, l_2406, l_2418, l_2430, l_2558, l_2686, l_2814, l_2942, l_3070, l_3390, l_3394, l_3395, l_3396, l_3397, n_leT, n_leF, n_ltT, n_ltF, n_eqT, n_eqF, nI_add, pk_mul, n_sub, z_ldn, z_san, z_bs, z_b2s, z_b3s, z_ocN, z_ocS, z_oxL, z_oxR, z_scL, z_scR, ↓reduceIte, Nat.zero_add, Nat.add_zero, Nat.zero_lt_succ, true_and, and_true, eq_self, n_div, n_mod, z_ldJn, z_saJn, f_blk, f_plc, l_9, l_10, l_13, l_14, l_17, l_18, l_19, l_20, l_21, l_22, l_24, l_28, l_60, l_61, l_62, l_64, l_98, l_99, z_ntR, z_ntwR, z_bz0, z_bz1, fL_way_L1, hE], fun a ha => by rw [s_n ha]; exact hh.1 a ha, fun r hr => ?_⟩
  rw [s_s]
  by_cases z : r = i
  · rw [z, u_s]
  · rw [u_n z]
    exact hh.2 r (by omega)
theorem lost_z {n : Nat} {S : Nat → Nat} (hI : z_I n S) : sumN (lostN S) 128 = 0 := lost_0 (I_ref hI) (fun _ _ _ => rfl) (fun _ _ => rfl)
theorem bf_1 {S S0 : Nat → Nat} (h : z_Bf S S0) : ∀ b, b < 128 → S (2942 + b) ≤ 1 := fun b hb => by
  rw [h b hb]
  split <;> decide
theorem f_commit {n : Nat} {M M18 : zM} {N N0 : Nat → Int32} {S S0 : Nat → Nat} (hn : n < 512) (hQ : Q_st n M N N0 S S0) (f18 : ∀ a, a ≠ 175 → M18 a = M a) (hh : ∀ r, r < 4 → M18 175 r = nI (S (3390 + r))) : ∃ M42 M36 M39 M34 N' S', fX6_commit 0 M18 = some (nI (S 3395), M42) ∧ M42 171 0 = nI (S 3395) ∧ fL_settle 169 170 171 M42 = some (nI 0, M36) ∧ fL_isLogged 0 170 171 175 M36 = some (nI 1, M39) ∧ fL_keep 169 170 171 172 173 174 M39 = some M34 ∧ Q_st (n + 1) M34 N' N' S' S' := by
  obtain ⟨⟨a1, a2, a3, a4, a5⟩, ⟨hX, hB, hM⟩, ⟨b1, b2, b3⟩, l2, f1, f2⟩ := hQ
  obtain ⟨M42, N', k1, k2, k3, k4, k5, k6⟩ := k_commit (R1_fr a1 (fun a ha => f18 a (by omega))) (z_R1_cg b1 (fun k q1 q2 _ => f18 k (by omega))) a2 f1
  have fr : ∀ a, 167 ≤ a → a ≠ 175 → M42 a = M a := fun a q1 q2 => by rw [k6 a q1, f18 a q2]
  have ho := (I_bnd a2).2.1
  have e := y_mk_id a2
  obtain ⟨M36, M39, M34, w1, w2, w3, w4⟩ := f_end (S1 := S) (L_x_cg hX (fr 169 (by decide) (by decide))) (I_tab a2) (L_b_cg hB (fr 170 (by decide) (by decide))) (L_m_cg hM (fr 171 (by decide) (by decide))) (lost_z a2) (by rw [e]; exact a3) (by rw [e]; exact bf_1 f1) (by rw [e]; exact a5) (by rw [e]; exact I_log a2) (by rw [e]; exact k1) (by rw [e]; exact k3) (by rw [e]; exact k4) (by rw [e]; exact k5) (by rw [e]; exact fun r hr => by rw [k6 175 (by decide)]; exact hh r hr) (by omega) (fun d hd => (I_ori a2 d (by omega)).1) (fun b hb q => (a3.2.2.2 b hb q).1)
  exact ⟨M42, M36, M39, M34, N', _, k2, by rw [fr 171 (by decide) (by decide)]; exact hM.1.1, w1, w2, w3, w4⟩
set_option maxHeartbeats 2000000 in
theorem f_snap {n : Nat} {M M27 : zM} {N N0 : Nat → Int32} {S S0 : Nat → Nat} (hn : n < 512) (hQ : Q_st n M N N0 S S0) {d f : Nat} (hd : d < 3) (h1 : S (2304 + d) = 1) (hf : f < 4) (h0 : S (2394 + f) = 0) (hlow : ∀ t, t < f → S (2394 + t) ≠ 0) (hfr : ∀ a, a ≠ 169 → a ≠ 171 → a ≠ 175 → M27 a = M a) (hx : ∀ p, M27 169 p = if 12 + 4 * f ≤ p ∧ p < 12 + 4 * f + 4 then M 169 (4 * d + (p - (12 + 4 * f))) else M 169 p) (hm : ∀ i, M27 171 i = if i = 12 + f then nI (S 3394 + 1) else if i = 16 + f then nI d else if i = 20 + f then nI (S 3395) else if i = 1 then nI (S 3394 + 1) else M 171 i) (hh : ∀ r, r < 4 → M27 175 r = nI (S (3390 + r))) : ∃ M42 M36 M39 M34 N' S', fX6_snapshot 0 (nI d) M27 = some (.inr (nI (S 3394)), M42) ∧ M42 171 1 = nI (S 3394 + 1) ∧ fL_settle 169 170 171 M42 = some (nI 0, M36) ∧ fL_isLogged 0 170 171 175 M36 = some (nI 1, M39) ∧ fL_keep 169 170 171 172 173 174 M39 = some M34 ∧ Q_st (n + 1) M34 N' N' S' S' := by
  obtain ⟨⟨a1, a2, a3, a4, a5⟩, ⟨hX, hB, hM⟩, ⟨b1, b2, b3⟩, l2, f1, f2⟩ := hQ
  obtain ⟨M42, N', c11, k0, k1, k2, k3, k4, k5, k6⟩ := k_snap hn (R1_fr a1 (fun a ha => hfr a (by omega) (by omega) (by omega))) (z_R1_cg b1 (fun k q1 q2 _ => hfr k (by omega) (by omega) (by omega))) a2 f1 (d := d) (s := f) (c := S (2388 + d)) (by omega) h1 (by omega) h0 hlow rfl
  obtain ⟨v1, v2, v3, v4, v5, v6⟩ := sn_f (S := S) (d := d) (s := f) (c := S (2388 + d)) (by omega) (by omega) c11
  obtain ⟨S1, hS1⟩ : ∃ S1, snS S d f (S (2388 + d)) = S1 := ⟨_, rfl⟩
  rw [hS1] at v1 v2 v3 v4 v5 v6 k0 k1 k3 k4 k5
  have fr : ∀ a, 167 ≤ a → M42 a = M27 a := fun a q1 => k6 a q1
  have ho := (I_bnd a2).2.1
  have hX1 : L_x 169 M42 S1 := L_x_cg (L_x_tb (u := 3 + f) (h := fun p => S (128 * d + p)) (g := fun j => M 169 (4 * d + j)) hX (by omega) (fun p => by rw [show 4 * (3 + f) = 12 + 4 * f by omega]; exact hx p) (by rw [kp_s]; exact v1) (fun j hj => by rw [hX _ (by omega), ps_d hd hj])) (fr 169 (by decide))
  have hle : ∀ k, k < 2304 → ∃ j, j < 2304 ∧ S j = S1 k := fun k hk => by
    rw [v1 k hk]
    split
    · exact ⟨_, by omega, rfl⟩
    · exact ⟨k, hk, rfl⟩
  have hoff : q_off S1 := off_tb (u := 3 + f) (h := fun p => S (128 * d + p)) a3.1 (by omega) (by rw [kp_s]; exact v1) (off_d a3 hd)
  have hB1 : L_b 170 M42 N S1 := fun i hi => by
    have := bl_128 hi
    rw [v2 _ (by omega), v2 _ (by omega), v2 _ (by omega), v2 _ (by omega)]
    exact L_b_cg hB (by rw [fr 170 (by decide)]; exact hfr 170 (by decide) (by decide) (by decide)) i hi
  have r42 : ∀ i, M42 171 i = if i = 12 + f then nI (S 3394 + 1) else if i = 16 + f then nI d else if i = 20 + f then nI (S 3395) else if i = 1 then nI (S 3394 + 1) else M 171 i := fun i => by rw [fr 171 (by decide)]; exact hm i
  have hM1 : L_m 171 M42 S1 := by
    obtain ⟨⟨m1, m2, m3⟩, m4, m5⟩ := hM
    refine ⟨⟨?_, ?_, ?_⟩, fun e he => ?_, fun t ht => ?_⟩
    · rw [r42, if_neg (by omega), if_neg (by omega), if_neg (by omega), if_neg (by omega), v2 _ (by omega)]; exact m1
    · rw [r42, if_neg (by omega), if_neg (by omega), if_neg (by omega), if_pos rfl, v6]
    · rw [r42, if_neg (by omega), if_neg (by omega), if_neg (by omega), if_neg (by omega), v2 _ (by omega)]; exact m3
    · have ez : z_onum S1 e = z_onum S e := by
        have h7 := I_ori a2 e (by omega)
        unfold z_onum
        rw [v2 (2310 + e) (by omega)]
        by_cases z : S (2310 + e) = 0
        · rw [if_pos z, if_pos z]
        · have h8 := (h7.2 z).1
          have h9 : S (2310 + e) - 1 ≠ f := fun x => by
            rw [x] at h8
            exact h8 h0
          rw [if_neg z, if_neg z, v3 _ (by omega), if_neg h9]
      rw [r42, if_neg (by omega), if_neg (by omega), if_neg (by omega), if_neg (by omega), r42, if_neg (by omega), if_neg (by omega), if_neg (by omega), if_neg (by omega), ez, v2 _ (by omega)]
      exact m4 e he
    · rw [v3 t (by omega), v4 t (by omega), v5 t (by omega), r42 (12 + t), r42 (16 + t), r42 (20 + t)]
      by_cases z : t = f
      · rw [if_pos z, if_pos z, if_pos z, if_pos (by omega), if_neg (by omega), if_pos (by omega), if_neg (by omega), if_neg (by omega), if_pos (by omega)]
        exact ⟨rfl, fun _ => ⟨rfl, rfl⟩⟩
      · rw [if_neg z, if_neg z, if_neg z, if_neg (by omega), if_neg (by omega), if_neg (by omega), if_neg (by omega), if_neg (by omega), if_neg (by omega), if_neg (by omega), if_neg (by omega), if_neg (by omega), if_neg (by omega), if_neg (by omega), if_neg (by omega)]
        exact m5 t ht
  have hl0 : sumN (lostN S1) 128 = 0 := lost_0 (I_ref a2) (fun k hk hne => by
    rw [v1 k hk]
    by_cases c : 768 + 128 * f ≤ k ∧ k < 768 + 128 * f + 128
    · have := I_se a2 f (by omega) h0 (k - (768 + 128 * f)) (by omega)
      rw [show 768 + 128 * f + (k - (768 + 128 * f)) = k by omega] at this
      exact absurd this hne
    · rw [if_neg c]) (fun b hb => v2 _ (by omega))
  have hsm : q_sm (y_mk S1) := sm_mk (I_ref a2) a3 hoff (fun e q1 q2 => by rw [v2 _ (by omega)]; exact a3.2.1 e q1 q2) (fun t q1 q2 => by rw [v3 t (by omega), if_neg (by omega)]; exact a3.2.2.1 t q1 q2) (fun k q1 q2 => v2 k (by omega)) (fun k hk => Or.inr (hle k hk))
  have eo : ∀ k, 2942 ≤ k → k ≠ 3394 → y_mk S1 k = S k := fun k q1 q2 => by rw [y_mk_o (by omega), v2 k (by omega)]
  obtain ⟨M36, M39, M34, w1, w2, w3, w4⟩ := f_end (S1 := S1) hX1 (fun k hk => by
    obtain ⟨j, q1, q2⟩ := hle k hk
    rw [← q2]
    exact I_tab a2 j q1) hB1 hM1 hl0 hsm (fun b hb => by rw [eo _ (by omega) (by omega)]; exact bf_1 f1 b hb) (fun r hr => by
    obtain ⟨F, g1, g2, g3⟩ := a5 r hr
    refine ⟨F, g1, fun j hj => ?_, fun p hp => ?_⟩
    · rw [eo _ (by omega) (by omega)] at hj
      exact g2 j hj
    · rw [eo _ (by omega) (by omega), eo _ (by omega) (by omega)]
      exact g3 p hp) (fun r hr => by rw [eo _ (by omega) (by omega)]; exact I_log a2 r hr) k1 k3 k4 k5 (fun r hr => by rw [eo _ (by omega) (by omega), fr 175 (by decide)]; exact hh r hr) (by rw [v2 _ (by omega)]; omega) (fun e he => by rw [v2 _ (by omega)]; exact (I_ori a2 e (by omega)).1) (fun b hb q => by rw [v2 _ (by omega)]; exact (a3.2.2.2 b hb q).1)
  exact ⟨M42, M36, M39, M34, N', _, k2, by rw [r42, if_neg (by omega), if_neg (by omega), if_neg (by omega), if_pos rfl], w1, w2, w3, w4⟩
