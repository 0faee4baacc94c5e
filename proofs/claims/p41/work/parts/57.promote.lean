/-! ===== the law's datasets: promote ===== -/
/-- what moves -/
abbrev q_mv (S : Nat → Nat) (o s t : Nat) : Prop := S (2394 + t) ≠ 0 ∧ S (2418 + t) = o ∧ S (2394 + t) ≤ S (2394 + s)
def q_mo (S : Nat → Nat) (d o s t : Nat) : Nat := if q_mv S o s t then d else S (2418 + t)
abbrev q_mc (S : Nat → Nat) (d o s t : Nat) : Prop := S (2394 + t) ≠ 0 ∧ q_mo S d o s t = d
theorem mv_W {n : Nat} {S rk : Nat → Nat} (hI : z_I n S) {o s p t : Nat} (ho : o < 6) (hp : p < S (2388 + o)) (hop : z_ord S o p = s) (hrk : ∀ t, t < 12 → S (2394 + t) ≠ 0 → rk t < S (2388 + S (2418 + t)) ∧ z_ord S (S (2418 + t)) (rk t) = t) (ht : t < 12) : q_mv S o s t ↔ prW' S rk o (p + 1) t := by
  constructor
  · intro h
    obtain ⟨h1, h2, h3⟩ := h
    obtain ⟨q1, q2⟩ := hrk t ht h1
    rw [h2] at q1 q2
    refine ⟨h1, h2, Classical.byContradiction (fun x => ?_)⟩
    have h4 := I_asc hI o ho p (rk t) (by omega) q1
    rw [q2, hop] at h4
    omega
  · intro h
    obtain ⟨h1, h2, h3⟩ := h
    obtain ⟨q1, q2⟩ := hrk t ht h1
    rw [h2] at q1 q2
    refine ⟨h1, h2, ?_⟩
    by_cases e : rk t = p
    · rw [e, hop] at q2
      rw [q2]
      exact Nat.le_refl _
    · have h4 := I_asc hI o ho (rk t) p (by omega) hp
      rw [q2, hop] at h4
      omega
set_option maxHeartbeats 2000000 in
theorem f_pr3 {n : Nat} {M : zM} {S : Nat → Nat} (hM : L_m 171 M S) (hI : z_I n S) (hn : n < 512) {d o s : Nat} (hd : d < 3) (ho : o < 3) (hs4 : s < 4) (h0 : S (2394 + s) ≠ 0) (hdo : d ≠ o) : ∃ M', z_loop (fun q : Int32 × Int32 × zM => fL_datasets_L3 171 (nI d) (nI (S (2394 + s))) (nI o) q.1 q.2.1 q.2.2) z_FU (nI 0, nI 0, M) = some (nI (sumN (fun t => if q_mc S d o s t then 1 else 0) 4), M') ∧ (∀ a, a ≠ 171 → M' a = M a) ∧ ∀ i, M' 171 i = if 16 ≤ i ∧ i < 16 + 4 ∧ q_mv S o s (i - 16) then nI d else M 171 i := by
  obtain ⟨⟨r1, r2⟩, q1, q2, q3, q4⟩ := z_loopA (f := fun q : Int32 × Int32 × zM => fL_datasets_L3 171 (nI d) (nI (S (2394 + s))) (nI o) q.1 q.2.1 q.2.2) (fun k x M' => x = nI (sumN (fun t => if q_mc S d o s t then 1 else 0) k) ∧ (∀ a, a ≠ 171 → M' a = M a) ∧ ∀ i, M' 171 i = if 16 ≤ i ∧ i < 16 + k ∧ q_mv S o s (i - 16) then nI d else M 171 i) (fun r => r.1 = nI (sumN (fun t => if q_mc S d o s t then 1 else 0) 4) ∧ (∀ a, a ≠ 171 → r.2 a = M a) ∧ ∀ i, r.2 171 i = if 16 ≤ i ∧ i < 16 + 4 ∧ q_mv S o s (i - 16) then nI d else M 171 i) 0 4 (by omega) (x := nI 0) (s := nI 0) (M := M) rfl ⟨rfl, fun a _ => rfl, fun i => by rw [if_neg (by omega)]⟩ (fun t x M' ht hh => by
    obtain ⟨b1, b2, b3⟩ := hh
    subst b1
    rw [Nat.zero_add]
    have hsum : sumN (fun t => if q_mc S d o s t then 1 else 0) (t + 1) = sumN (fun t => if q_mc S d o s t then 1 else 0) t + (if q_mc S d o s t then 1 else 0) := rfl
    rw [hsum]
    generalize sumN (fun t => if q_mc S d o s t then 1 else 0) t = W
    have g12 : M' 171 (12 + t) = nI (S (2394 + t)) := by
      rw [b3, if_neg (by omega)]
      exact (hM.2.2 t ht).1
    have g16 : M' 171 (16 + t) = M 171 (16 + t) := by
      rw [b3, if_neg (by omega)]
    have r12 : ∀ v, z_st M' 171 (16 + t) v 171 (12 + t) = nI (S (2394 + t)) := fun v => by
      rw [s_s, u_n (by omega)]
      exact g12
    have r16 : ∀ v, z_st M' 171 (16 + t) v 171 (16 + t) = v := fun v => by
      rw [s_s, u_s]
    have hst : ∀ v, v = (if q_mv S o s t then nI d else M 171 (16 + t)) → (∀ a, a ≠ 171 → z_st M' 171 (16 + t) v a = M a) ∧ ∀ i, z_st M' 171 (16 + t) v 171 i = if 16 ≤ i ∧ i < 16 + (t + 1) ∧ q_mv S o s (i - 16) then nI d else M 171 i := fun v hv => ⟨fun a ha => by rw [s_n ha]; exact b2 a ha, fun i => by
      rw [s_s]
      by_cases z : i = 16 + t
      · rw [z, u_s, hv, Nat.add_sub_cancel_left]
        by_cases y : q_mv S o s t
        · rw [if_pos y, if_pos ⟨by omega, by omega, y⟩]
        · rw [if_neg y, if_neg (fun x => y x.2.2)]
      · rw [u_n z, b3]
        by_cases z2 : 16 ≤ i ∧ i < 16 + t ∧ q_mv S o s (i - 16)
        · rw [if_pos z2, if_pos ⟨z2.1, by omega, z2.2.2⟩]
        · rw [if_neg z2, if_neg (fun x => z2 ⟨x.1, by omega, x.2.2⟩)]⟩
    have hb := I_nb hI t (by omega)
    have hb2 := I_nb hI s (by omega)
    have e1 : 1 ≤ S (2394 + s) := by omega
    by_cases cz : S (2394 + t) = 0
    · have nm : ¬ q_mv S o s t := fun x => x.1 cz
      rw [if_neg (fun x => x.1 cz)]
      obtain ⟨u1, u2⟩ := hst (M 171 (16 + t)) (by rw [if_neg nm])
      refine ⟨_, _, ?_, rfl, u1, u2⟩
      rw [cz] at g12 r12
      simp (disch := first | omega | assumption) only [l_0, l_1, l_2, l_3, l_4, l_5, l_6, l_7, l_8, l_11, l_12, l_15, l_16, l_31, l_32, l_66, l_80, l_100, l_127, l_128, l_768, l_2304, l_2310, l_2316, l_2388, l_2394, l_2406, l_2418, l_2430, l_2558, l_2686, l_2814, l_2942, l_3070, l_3390, l_3394, l_3395, l_3396, l_3397, n_leT, n_leF, n_ltT, n_ltF, n_eqT, n_eqF, nI_add, pk_mul, n_sub, z_ldn, z_san, z_bs, z_b2s, z_b3s, z_ocN, z_ocS, z_oxL, z_oxR, z_scL, z_scR, ↓reduceIte, Nat.zero_add, Nat.add_zero, Nat.zero_lt_succ, true_and, and_true, eq_self, n_div, n_mod, z_ldJn, z_saJn, f_blk, f_plc, l_9, l_10, l_13, l_14, l_17, l_18, l_19, l_20, l_21, l_22, l_24, l_28, l_60, l_61, l_62, l_64, l_98, l_99, z_ntR, z_ntwR, z_bz0, z_bz1, fL_datasets_L3, g12, g16, r12]
    · have e2 : 1 ≤ S (2394 + t) := by omega
      have how := I_own6 hI t (by omega) cz
      have gm := ((hM.2.2 t ht).2 cz).1
      rw [gm] at g16 hst
      by_cases cm : q_mv S o s t
      · obtain ⟨cm1, cm2, cm3⟩ := cm
        have cm : q_mv S o s t := ⟨cm1, cm2, cm3⟩
        have em : q_mo S d o s t = d := if_pos cm
        rw [if_pos ⟨cz, em⟩]
        obtain ⟨u1, u2⟩ := hst (nI d) (by rw [if_pos cm])
        refine ⟨_, _, ?_, rfl, u1, u2⟩
        rw [cm2] at g16
        simp (disch := first | omega | assumption) only [l_0, l_1, l_2, l_3, l_4, l_5, l_6, l_7, l_8, l_11, l_12, l_15, l_16, l_31, l_32, l_66, l_80, l_100, l_127, l_128, l_768, l_2304, l_2310, l_2316, l_2388, l_2394, l_2406, l_2418, l_2430, l_2558, l_2686, l_2814, l_2942, l_3070, l_3390, l_3394, l_3395, l_3396, l_3397, n_leT, n_leF, n_ltT, n_ltF, n_eqT, n_eqF, nI_add, pk_mul, n_sub, z_ldn, z_san, z_bs, z_b2s, z_b3s, z_ocN, z_ocS, z_oxL, z_oxR, z_scL, z_scR, ↓reduceIte, Nat.zero_add, Nat.add_zero, Nat.zero_lt_succ, true_and, and_true, eq_self, n_div, n_mod, z_ldJn, z_saJn, f_blk, f_plc, l_9, l_10, l_13, l_14, l_17, l_18, l_19, l_20, l_21, l_22, l_24, l_28, l_60, l_61, l_62, l_64, l_98, l_99, z_ntR, z_ntwR, z_bz0, z_bz1, fL_datasets_L3, g12, g16, r12, r16]
      · have em : q_mo S d o s t = S (2418 + t) := if_neg cm
        obtain ⟨u1, u2⟩ := hst (nI (S (2418 + t))) (by rw [if_neg cm])
        by_cases cd : S (2418 + t) = d
        · have hne : ¬ S (2418 + t) = o := fun x => hdo (cd.symm.trans x)
          rw [if_pos ⟨cz, by rw [em]; exact cd⟩]
          refine ⟨_, _, ?_, rfl, u1, u2⟩
          simp (disch := first | omega | assumption) only [l_0, l_1, l_2, l_3, l_4, l_5, l_6, l_7, l_8, l_11, l_12, l_15, l_16, l_31, l_32, l_66, l_80, l_100, l_127, l_128, l_768, l_2304, l_2310, l_2316, l_2388, l_2394, l_2406, l_2418, l_2430, l_2558, l_2686, l_2814, l_2942, l_3070, l_3390, l_3394, l_3395, l_3396, l_3397, n_leT, n_leF, n_ltT, n_ltF, n_eqT, n_eqF, nI_add, pk_mul, n_sub, z_ldn, z_san, z_bs, z_b2s, z_b3s, z_ocN, z_ocS, z_oxL, z_oxR, z_scL, z_scR, ↓reduceIte, Nat.zero_add, Nat.add_zero, Nat.zero_lt_succ, true_and, and_true, eq_self, n_div, n_mod, z_ldJn, z_saJn, f_blk, f_plc, l_9, l_10, l_13, l_14, l_17, l_18, l_19, l_20, l_21, l_22, l_24, l_28, l_60, l_61, l_62, l_64, l_98, l_99, z_ntR, z_ntwR, z_bz0, z_bz1, fL_datasets_L3, g12, g16, r12, r16]
        · rw [if_neg (fun x => cd (by rw [← em]; exact x.2))]
          refine ⟨_, _, ?_, rfl, u1, u2⟩
          by_cases co : S (2418 + t) = o
          · have cl : S (2394 + s) < S (2394 + t) := Classical.byContradiction (fun x => cm ⟨cz, co, by omega⟩)
            simp (disch := first | omega | assumption) only [l_0, l_1, l_2, l_3, l_4, l_5, l_6, l_7, l_8, l_11, l_12, l_15, l_16, l_31, l_32, l_66, l_80, l_100, l_127, l_128, l_768, l_2304, l_2310, l_2316, l_2388, l_2394, l_2406, l_2418, l_2430, l_2558, l_2686, l_2814, l_2942, l_3070, l_3390, l_3394, l_3395, l_3396, l_3397, n_leT, n_leF, n_ltT, n_ltF, n_eqT, n_eqF, nI_add, pk_mul, n_sub, z_ldn, z_san, z_bs, z_b2s, z_b3s, z_ocN, z_ocS, z_oxL, z_oxR, z_scL, z_scR, ↓reduceIte, Nat.zero_add, Nat.add_zero, Nat.zero_lt_succ, true_and, and_true, eq_self, n_div, n_mod, z_ldJn, z_saJn, f_blk, f_plc, l_9, l_10, l_13, l_14, l_17, l_18, l_19, l_20, l_21, l_22, l_24, l_28, l_60, l_61, l_62, l_64, l_98, l_99, z_ntR, z_ntwR, z_bz0, z_bz1, fL_datasets_L3, g12, g16, r12, r16]
          · simp (disch := first | omega | assumption) only [l_0, l_1, l_2, l_3, l_4, l_5, l_6, l_7, l_8, l_11, l_12, l_15, l_16, l_31, l_32, l_66, l_80, l_100, l_127, l_128, l_768, l_2304, l_2310, l_2316, l_2388, l_2394, l_2406, l_2418, l_2430, l_2558, l_2686, l_2814, l_2942, l_3070, l_3390, l_3394, l_3395, l_3396, l_3397, n_leT, n_leF, n_ltT, n_ltF, n_eqT, n_eqF, nI_add, pk_mul, n_sub, z_ldn, z_san, z_bs, z_b2s, z_b3s, z_ocN, z_ocS, z_oxL, z_oxR, z_scL, z_scR, ↓reduceIte, Nat.zero_add, Nat.add_zero, Nat.zero_lt_succ, true_and, and_true, eq_self, n_div, n_mod, z_ldJn, z_saJn, f_blk, f_plc, l_9, l_10, l_13, l_14, l_17, l_18, l_19, l_20, l_21, l_22, l_24, l_28, l_60, l_61, l_62, l_64, l_98, l_99, z_ntR, z_ntwR, z_bz0, z_bz1, fL_datasets_L3, g12, g16, r12, r16]) (fun x M' hh => ⟨(x, M'), by simp (disch := first | omega | assumption) only [l_0, l_1, l_2, l_3, l_4, l_5, l_6, l_7, l_8, l_11, l_12, l_15, l_16, l_31, l_32, l_66, l_80, l_100, l_127, l_128, l_768, l_2304, l_2310, l_2316, l_2388, l_2394, l_2406, l_2418, l_2430, l_2558, l_2686, l_2814, l_2942, l_3070, l_3390, l_3394, l_3395, l_3396, l_3397, n_leT, n_leF, n_ltT, n_ltF, n_eqT, n_eqF, nI_add, pk_mul, n_sub, z_ldn, z_san, z_bs, z_b2s, z_b3s, z_ocN, z_ocS, z_oxL, z_oxR, z_scL, z_scR, ↓reduceIte, Nat.zero_add, Nat.add_zero, Nat.zero_lt_succ, true_and, and_true, eq_self, n_div, n_mod, z_ldJn, z_saJn, f_blk, f_plc, l_9, l_10, l_13, l_14, l_17, l_18, l_19, l_20, l_21, l_22, l_24, l_28, l_60, l_61, l_62, l_64, l_98, l_99, z_ntR, z_ntwR, z_bz0, z_bz1, fL_datasets_L3], hh⟩)
  have q2 : r1 = _ := q2
  subst q2
  exact ⟨r2, q1, q3, q4⟩
