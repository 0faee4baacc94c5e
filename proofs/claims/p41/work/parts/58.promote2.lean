/-! ===== the law's datasets: promote, all ===== -/
set_option maxHeartbeats 2000000 in
theorem f_prom {n : Nat} {M : zM} {N N0 : Nat → Int32} {S S0 : Nat → Nat} (hn : n < 512) (hQ : Q_st n M N N0 S S0) {d wy : Nat} (hd : d < 3) (h1 : S (2304 + d) = 1) (hw : wy < 18) : ∃ M3 S1, fL_datasets 0 169 170 171 (nI wy) (nI d) M = some (nI 1, M3) ∧ Q_st n M3 N N0 S1 S0 := by
  have hR := hQ.1.1
  have hI := hQ.1.2.1
  have hs := hQ.1.2.2.1
  obtain ⟨hX, hB, hM⟩ := hQ.2.1
  have q0 : ¬ (18 : Int32) ≤ nI wy := fun x => by
    rw [show (18 : Int32) = nI 18 from rfl, n_leF (by omega) (by omega) (by omega)] at x
    exact x
  have gd := (hM.2.1 d hd).2
  have q1 : z_ld M 171 32 (8 + nI d) = some (nI (z_onum S d)) := by simp (disch := first | omega | assumption) only [l_0, l_1, l_2, l_3, l_4, l_5, l_6, l_7, l_8, l_11, l_12, l_15, l_16, l_31, l_32, l_66, l_80, l_100, l_127, l_128, l_768, l_2304, l_2310, l_2316, l_2388, l_2394, l_2406, l_2418, l_2430, l_2558, l_2686, l_2814, l_2942, l_3070, l_3390, l_3394, l_3395, l_3396, l_3397, n_leT, n_leF, n_ltT, n_ltF, n_eqT, n_eqF, nI_add, pk_mul, n_sub, z_ldn, z_san, z_bs, z_b2s, z_b3s, z_ocN, z_ocS, z_oxL, z_oxR, z_scL, z_scR, ↓reduceIte, Nat.zero_add, Nat.add_zero, Nat.zero_lt_succ, true_and, and_true, eq_self, l_8, gd]
  by_cases cz : S (2310 + d) = 0
  · obtain ⟨M3, S1, k1, k2⟩ := f_ddes hn hQ hd h1
    refine ⟨M3, S1, ?_, k2⟩
    have ez : z_onum S d = 0 := if_pos cz
    rw [ez] at q1
    unfold fL_datasets
    rw [if_neg q0, q1, z_bs, if_pos (by decide)]
    exact k1
  · have hor := I_ori hI d (by omega)
    obtain ⟨s, hsd⟩ : ∃ s, S (2310 + d) = s + 1 := ⟨S (2310 + d) - 1, by omega⟩
    have h0 : S (2394 + s) ≠ 0 := by
      have := (hor.2 cz).1
      rw [hsd, Nat.add_sub_cancel] at this
      exact this
    have hs12 : s < 12 := by omega
    have hs4 : s < 4 := Classical.byContradiction (fun x => h0 (hs.2.2.1 s (by omega) hs12))
    have ez : z_onum S d = S (2394 + s) := by
      unfold z_onum
      rw [if_neg cz, hsd, Nat.add_sub_cancel]
    rw [ez] at q1
    have hb := I_nb hI s hs12
    obtain ⟨_, ho6, hox, _⟩ := I_liv hI s hs12 h0
    obtain ⟨o, hoo⟩ : ∃ o, S (2418 + s) = o := ⟨_, rfl⟩
    rw [hoo] at ho6 hox
    have ho : o < 3 := Classical.byContradiction (fun x => by
      have := hs.2.1 o (by omega) ho6
      omega)
    have gs := f_slot_y hM (s := s) (num := S (2394 + s) - 1) hs4 (by omega) (I_num hI) (hb30 hI hn)
    have q2 : fL_slot 171 (nI (S (2394 + s)) - 1) M = some (nI s) := by
      rw [show (1 : Int32) = nI 1 from rfl, n_sub (by omega)]
      exact gs
    have g16 := ((hM.2.2 s hs4).2 h0).1
    rw [hoo] at g16
    have q3 : z_ld M 171 32 (16 + nI s) = some (nI o) := by simp (disch := first | omega | assumption) only [l_0, l_1, l_2, l_3, l_4, l_5, l_6, l_7, l_8, l_11, l_12, l_15, l_16, l_31, l_32, l_66, l_80, l_100, l_127, l_128, l_768, l_2304, l_2310, l_2316, l_2388, l_2394, l_2406, l_2418, l_2430, l_2558, l_2686, l_2814, l_2942, l_3070, l_3390, l_3394, l_3395, l_3396, l_3397, n_leT, n_leF, n_ltT, n_ltF, n_eqT, n_eqF, nI_add, pk_mul, n_sub, z_ldn, z_san, z_bs, z_b2s, z_b3s, z_ocN, z_ocS, z_oxL, z_oxR, z_scL, z_scR, ↓reduceIte, Nat.zero_add, Nat.add_zero, Nat.zero_lt_succ, true_and, and_true, eq_self, l_16, g16]
    have hdo : d ≠ o := fun x => by
      obtain ⟨_, _, _, r, y1, y2⟩ := I_liv hI s hs12 h0
      rw [hoo, ← x] at y1 y2
      have h5 := (hor.2 cz).2 r y1
      rw [hsd, Nat.add_sub_cancel, y2] at h5
      exact absurd h5 (Nat.lt_irrefl _)
    obtain ⟨M59, l1, l2, l3⟩ := f_pr3 hM hI hn hd ho hs4 h0 hdo
    obtain ⟨M63, hM63⟩ : ∃ M63, z_st (z_st M59 171 (8 + d) (nI (z_onum S o))) 171 (8 + o) (nI (S (2394 + s))) = M63 := ⟨_, rfl⟩
    have k63 : ∀ a, a ≠ 171 → M63 a = M a := fun a ha => by rw [← hM63, s_n ha, s_n ha]; exact l2 a ha
    have r63 : ∀ k, M63 171 k = if k = 8 + o then nI (S (2394 + s)) else if k = 8 + d then nI (z_onum S o) else if 16 ≤ k ∧ k < 16 + 4 ∧ q_mv S o s (k - 16) then nI d else M 171 k := fun k => by
      rw [← hM63, s_s, s_s, ← l3 k]
      rfl
    obtain ⟨S1, rk, M65, s', o', p, c, c2, v1, v2, v3, v4, v5, v6, v7, v8, v9, v10, v11, v12, v13, v14, v15, v16, v17, v18⟩ := k_promote hn (R1_fr hR (fun a ha => k63 a (by omega))) hI (d := d) (by omega) h1 (by omega)
    have es : s' = s := by omega
    subst es
    have eo : o' = o := by rw [v4]; exact hoo
    subst eo
    have T1 : ∀ k, k < 2310 ∨ (2394 ≤ k ∧ k < 2418) ∨ 2430 ≤ k → S1 k = S k := fun k hk => by rw [v14]; exact pr_T (by omega) v5 v11 v12 hk
    have O1 : ∀ e, e < 6 → S1 (2310 + e) = if e = o' then s' + 1 else if e = d then S (2310 + o') else S (2310 + e) := fun e he => by rw [v14]; exact pr_O (by omega) v5 v11 v12 he
    have W1 : ∀ t, t < 12 → S1 (2418 + t) = q_mo S d o' s' t := fun t ht => by
      rw [v14, pr_W (by omega) v5 v11 v12 ht]
      unfold q_mo
      have hw := mv_W hI v5 (by rw [← v8]; exact v9) v10 v13 ht
      by_cases y : q_mv S o' s' t
      · rw [if_pos y, if_pos (hw.mp y)]
      · rw [if_neg y, if_neg (fun z => y (hw.mpr z))]
    have C1 : S1 (2388 + d) = c + (p + 1) := by
      rw [v14, pr_C (by omega) v5 v6 v11 v12 (by omega), if_pos rfl]
    have h7 := (I_ori hI o' v5).1
    have hM1 : L_m 171 M65 S1 := by
      have r65 : ∀ k, M65 171 k = M63 171 k := fun k => by rw [v18 171 (by decide) (by decide) (by decide)]
      obtain ⟨⟨m1, m2, m3⟩, m4, m5⟩ := hM
      refine ⟨⟨?_, ?_, ?_⟩, fun e he => ?_, fun t ht => ?_⟩
      · rw [r65, r63, if_neg (by omega), if_neg (by omega), if_neg (by omega), T1 _ (by omega)]; exact m1
      · rw [r65, r63, if_neg (by omega), if_neg (by omega), if_neg (by omega), T1 _ (by omega)]; exact m2
      · rw [r65, r63, if_neg (by omega), if_neg (by omega), if_neg (by omega), T1 _ (by omega)]; exact m3
      · refine ⟨by rw [r65, r63, if_neg (by omega), if_neg (by omega), if_neg (by omega), T1 _ (by omega)]; exact (m4 e he).1, ?_⟩
        rw [r65, r63]
        by_cases z : e = o'
        · rw [if_pos (by omega)]
          have ez : z_onum S1 e = S (2394 + s') := by
            unfold z_onum
            rw [O1 e (by omega), if_pos z, if_neg (by omega), Nat.add_sub_cancel, T1 _ (by omega)]
          rw [ez]
        · rw [if_neg (by omega)]
          by_cases z2 : e = d
          · rw [if_pos (by omega)]
            have ez : z_onum S1 e = z_onum S o' := by
              unfold z_onum
              rw [O1 e (by omega), if_neg z, if_pos z2]
              by_cases z3 : S (2310 + o') = 0
              · rw [if_pos z3, if_pos z3]
              · rw [if_neg z3, if_neg z3, T1 _ (by omega)]
            rw [ez]
          · rw [if_neg (by omega), if_neg (by omega)]
            have h8 := (I_ori hI e (by omega)).1
            have ez : z_onum S1 e = z_onum S e := by
              unfold z_onum
              rw [O1 e (by omega), if_neg z, if_neg z2]
              by_cases z3 : S (2310 + e) = 0
              · rw [if_pos z3, if_pos z3]
              · rw [if_neg z3, if_neg z3, T1 _ (by omega)]
            rw [ez]
            exact (m4 e he).2
      · rw [r65, r63, if_neg (by omega), if_neg (by omega), if_neg (by omega), T1 (2394 + t) (by omega)]
        refine ⟨(m5 t ht).1, fun hne => ⟨?_, ?_⟩⟩
        · rw [r65, r63, if_neg (by omega), if_neg (by omega), Nat.add_sub_cancel_left, W1 t (by omega)]
          unfold q_mo
          by_cases y : q_mv S o' s' t
          · rw [if_pos y, if_pos ⟨by omega, by omega, y⟩]
          · rw [if_neg y, if_neg (fun x => y x.2.2)]
            exact ((m5 t ht).2 hne).1
        · rw [r65, r63, if_neg (by omega), if_neg (by omega), if_neg (by omega), T1 (2406 + t) (by omega)]
          exact ((m5 t ht).2 hne).2
    have k65 : ∀ a, 84 ≤ a → a ≠ 167 → a ≠ 168 → a ≠ 171 → M65 a = M a := fun a y1 y2 y3 y4 => by rw [v18 a y1 y2 y3]; exact k63 a y4
    have hX1 : L_x 169 M65 S1 := fun q hq => by
      rw [T1 _ (Or.inl (by have := ps_2304 hq; omega)), k65 169 (by decide) (by decide) (by decide) (by decide)]
      exact hX q hq
    have hB1 : L_b 170 M65 N S1 := fun i hi => by
      rw [T1 _ (by omega), T1 _ (by omega), T1 _ (by omega), T1 _ (by omega)]
      exact L_b_cg hB (k65 170 (by decide) (by decide) (by decide) (by decide)) i hi
    have hst : Q_st n M65 N N0 (y_mk S1) S0 := st_mk hQ (by rw [y_mk_id v17]; exact v16) (by rw [y_mk_id v17]; exact v17) (fun a y1 y2 => k65 a y1 (by omega) (by omega) (by omega)) (fun a y1 y2 => k65 a (by omega) (by omega) (by omega) (by omega)) hX1 (by rw [y_mk_id v17]; exact hB1) hM1 (fun k hk hno => by rw [T1 k (by omega)]; exact hs.1 k hk hno) (fun e y1 y2 => by rw [T1 _ (by omega)]; exact hs.2.1 e y1 y2) (fun t y1 y2 => by rw [T1 _ (by omega)]; exact hs.2.2.1 t y1 y2) (fun b hb => Or.inl (T1 _ (by omega))) (fun k y1 y2 => T1 k (by omega)) (fun k y1 y2 => T1 k (by omega)) (T1 _ (by omega)) (fun k _ => rfl) (fun k hk => Or.inr (Or.inl ⟨k, hk, (T1 k (by omega)).symm⟩))
    refine ⟨M65, y_mk S1, ?_, hst⟩
    have hcnt : sumN (fun t => if q_mc S d o' s' t then 1 else 0) 4 = c + (p + 1) := by
      have e1 := z_own_cnt v17 (d := d) (by omega)
      rw [C1] at e1
      rw [← e1]
      have e2 : sumN (z_own S1 d) (4 + 8) = sumN (z_own S1 d) 4 + sumN (fun i => z_own S1 d (4 + i)) 8 := sumN_sp
      have e3 : sumN (fun i => z_own S1 d (4 + i)) 8 = 0 := sumN_0 (fun i hi => by
        unfold z_own
        rw [if_neg (fun x => x.1 (by rw [T1 _ (by omega)]; exact hs.2.2.1 (4 + i) (by omega) (by omega)))])
      have e2 : sumN (z_own S1 d) 12 = sumN (z_own S1 d) 4 + sumN (fun i => z_own S1 d (4 + i)) 8 := e2
      rw [e2, e3, Nat.add_zero]
      refine sumN_cg (fun t ht => ?_)
      show (if q_mc S d o' s' t then 1 else 0) = z_own S1 d t
      unfold z_own
      rw [W1 t (by omega), T1 (2394 + t) (by omega)]
    rw [hcnt] at l1
    have l1 : z_loop (fun q : Int32 × Int32 × zM => fL_datasets_L3 171 (nI d) (nI (S (2394 + s'))) (nI o') q.1 q.2.1 q.2.2) z_FU (0, 0, M) = some (nI (c + (p + 1)), M59) := l1
    have q4 : z_ld M59 171 32 (8 + nI o') = some (nI (z_onum S o')) := by
      have e : M59 171 (8 + o') = nI (z_onum S o') := by
        rw [l3, if_neg (by omega)]
        exact (hM.2.1 o' ho).2
      simp (disch := first | omega | assumption) only [l_0, l_1, l_2, l_3, l_4, l_5, l_6, l_7, l_8, l_11, l_12, l_15, l_16, l_31, l_32, l_66, l_80, l_100, l_127, l_128, l_768, l_2304, l_2310, l_2316, l_2388, l_2394, l_2406, l_2418, l_2430, l_2558, l_2686, l_2814, l_2942, l_3070, l_3390, l_3394, l_3395, l_3396, l_3397, n_leT, n_leF, n_ltT, n_ltF, n_eqT, n_eqF, nI_add, pk_mul, n_sub, z_ldn, z_san, z_bs, z_b2s, z_b3s, z_ocN, z_ocS, z_oxL, z_oxR, z_scL, z_scR, ↓reduceIte, Nat.zero_add, Nat.add_zero, Nat.zero_lt_succ, true_and, and_true, eq_self, l_8, e]
    have q5 : z_sa M59 171 32 (8 + nI d) (nI (z_onum S o')) = some (z_st M59 171 (8 + d) (nI (z_onum S o'))) := by simp (disch := first | omega | assumption) only [l_0, l_1, l_2, l_3, l_4, l_5, l_6, l_7, l_8, l_11, l_12, l_15, l_16, l_31, l_32, l_66, l_80, l_100, l_127, l_128, l_768, l_2304, l_2310, l_2316, l_2388, l_2394, l_2406, l_2418, l_2430, l_2558, l_2686, l_2814, l_2942, l_3070, l_3390, l_3394, l_3395, l_3396, l_3397, n_leT, n_leF, n_ltT, n_ltF, n_eqT, n_eqF, nI_add, pk_mul, n_sub, z_ldn, z_san, z_bs, z_b2s, z_b3s, z_ocN, z_ocS, z_oxL, z_oxR, z_scL, z_scR, ↓reduceIte, Nat.zero_add, Nat.add_zero, Nat.zero_lt_succ, true_and, and_true, eq_self, l_8]
    have q6 : z_sa (z_st M59 171 (8 + d) (nI (z_onum S o'))) 171 32 (8 + nI o') ((nI (S (2394 + s')) - 1) + 1) = some M63 := by
      have e : S (2394 + s') - 1 + 1 = S (2394 + s') := by omega
      have e2 : 1 ≤ S (2394 + s') := by omega
      simp (disch := first | omega | assumption) only [l_0, l_1, l_2, l_3, l_4, l_5, l_6, l_7, l_8, l_11, l_12, l_15, l_16, l_31, l_32, l_66, l_80, l_100, l_127, l_128, l_768, l_2304, l_2310, l_2316, l_2388, l_2394, l_2406, l_2418, l_2430, l_2558, l_2686, l_2814, l_2942, l_3070, l_3390, l_3394, l_3395, l_3396, l_3397, n_leT, n_leF, n_ltT, n_ltF, n_eqT, n_eqF, nI_add, pk_mul, n_sub, z_ldn, z_san, z_bs, z_b2s, z_b3s, z_ocN, z_ocS, z_oxL, z_oxR, z_scL, z_scR, ↓reduceIte, Nat.zero_add, Nat.add_zero, Nat.zero_lt_succ, true_and, and_true, eq_self, l_8, e]
      rw [hM63]
    have q7 : (fX6_promote 0 (nI d) M63).bind z_ntw = some (nI (c + (p + 1)), M65) := by
      rw [v15]
      rfl
    have q8 : ¬ (nI (S (2394 + s')) : Int32) ≤ 0 := fun x => by
      rw [show (0 : Int32) = nI 0 from rfl, n_leF (by omega) (by omega) (by omega)] at x
      exact x
    unfold fL_datasets
    rw [if_neg q0, q1, z_bs, if_neg q8, z_bs, q2, z_bs, q3, z_bs, l1, z_b2s, q4, z_bs, q5, z_bs, q6, z_bs, q7, z_b2s, if_pos rfl]
    rfl
theorem f_dat {n : Nat} {M : zM} {N N0 : Nat → Int32} {S S0 : Nat → Nat} (hn : n < 512) (hQ : Q_st n M N N0 S S0) {d wy : Nat} (hd : d < 3) (h1 : S (2304 + d) = 1) (hw : wy < 19) : ∃ M3 S1, fL_datasets 0 169 170 171 (nI wy) (nI d) M = some (nI 1, M3) ∧ Q_st n M3 N N0 S1 S0 := by
  by_cases c : wy < 18
  · exact f_prom hn hQ hd h1 c
  · obtain ⟨M3, S1, k1, k2⟩ := f_ddes hn hQ hd h1
    refine ⟨M3, S1, ?_, k2⟩
    have q0 : (18 : Int32) ≤ nI wy := by
      rw [show (18 : Int32) = nI 18 from rfl, n_leT (by omega) (by omega) (by omega)]
      trivial
    unfold fL_datasets
    rw [if_pos q0]
    exact k1
