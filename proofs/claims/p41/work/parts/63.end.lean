/-! ===== keep, crash, the end of a commit ===== -/
theorem L_keep {x b m x2 b2 m2 : Nat} {M M' : zM} {N : Nat → Int32} {S : Nat → Nat} (h : Q_L x b m M N S) (h1 : ∀ k, k < 28 → M' x2 k = M x k) (h2 : ∀ i, i < 64 → z_jj (M' b2) i = z_jj (M b) i) (h3 : ∀ k, k < 32 → M' m2 k = M m k) : Q_L x2 b2 m2 M' N S := by
  obtain ⟨hX, hB, ⟨m1, m2, m3⟩, m4, m5⟩ := h
  refine ⟨fun k hk => by rw [h1 k hk]; exact hX k hk, fun i hi => ?_, ⟨by rw [h3 _ (by decide)]; exact m1, by rw [h3 _ (by decide)]; exact m2, by rw [h3 _ (by decide)]; exact m3⟩, fun d hd => by rw [h3 _ (by omega), h3 _ (by omega)]; exact m4 d hd, fun s hs => by rw [h3 _ (by omega), h3 _ (by omega), h3 _ (by omega)]; exact m5 s hs⟩
  unfold y_B1
  rw [h2 i hi]
  exact hB i hi
theorem f_crash {n : Nat} {M : zM} {N N0 : Nat → Int32} {S S0 : Nat → Nat} (hQ : Q_st n M N N0 S S0) : ∃ M11 M13, fL_keep 172 173 174 169 170 171 M = some M11 ∧ fX6_crash 0 M11 = some (nI (S0 3395), M13) ∧ M13 171 0 = nI (S0 3395) ∧ Q_st n M13 N0 N0 S0 S0 := by
  obtain ⟨⟨a1, a2, a3⟩, l1, ⟨b1, b2, b3⟩, l2, f1, f2⟩ := hQ
  obtain ⟨M11, k1, k2, k3, k4, k5⟩ := f_keep (M := M) (a0 := 172) (a1 := 173) (a2 := 174) (a3 := 169) (a4 := 170) (a5 := 171) (by decide)
  have hfr : ∀ a, a < 169 ∨ 172 ≤ a → M11 a = M a := fun a ha => k5 a (by omega) (by omega) (by omega)
  have hR84 : z_R1 84 M11 N0 S0 := z_R1_cg b1 (fun k q1 q2 _ => hfr k (by omega))
  obtain ⟨M13, c1, c2, c3⟩ := k_crash (R1_fr a1 (fun a ha => hfr a (by omega))) hR84 b2
  have hL : Q_L 169 170 171 M11 N0 S0 := L_keep l2 k2 k3 k4
  have hL2 : Q_L 172 173 174 M11 N0 S0 := Q_L_cg l2 (hfr 172 (by decide)) (hfr 173 (by decide)) (hfr 174 (by decide))
  have hL3 : Q_L 169 170 171 M13 N0 S0 := Q_L_cg hL (c3 169 (by decide)) (c3 170 (by decide)) (c3 171 (by decide))
  exact ⟨M11, M13, k1, c1, hL3.2.2.1.1, ⟨c2, b2, b3⟩, hL3, ⟨z_R1_cg hR84 (fun k q1 q2 _ => c3 k q1), b2, b3⟩, Q_L_cg hL2 (c3 172 (by decide)) (c3 173 (by decide)) (c3 174 (by decide)), f2, f2⟩
theorem sm_mk {S S1 : Nat → Nat} (hc : ∀ b, b < 128 → S (2814 + b) = cntN S (b + 1) 2304) (hs : q_sm S) (hoff : q_off S1) (hds : ∀ d, 3 ≤ d → d < 6 → S1 (2304 + d) = 0) (hsn : ∀ s, 4 ≤ s → s < 12 → S1 (2394 + s) = 0) (h2 : ∀ k, 2686 ≤ k → k < 3070 → S1 k = S k) (hk : ∀ k, k < 2304 → S1 k = 0 ∨ ∃ j, j < 2304 ∧ S j = S1 k) : q_sm (y_mk S1) := by
  refine ⟨fun k q1 q2 => ?_, fun d q1 q2 => ?_, fun s q1 q2 => ?_, fun b q1 q2 => ?_⟩
  · rw [y_mk_o (Or.inl (by omega))]
    exact hoff k q1 q2
  · rw [y_mk_o (Or.inl (by omega))]
    exact hds d q1 q2
  · rw [y_mk_o (Or.inl (by omega))]
    exact hsn s q1 q2
  · have h0 := hs.2.2.2 b q1 q2
    have hc0 : cntN S1 (b + 1) 2304 = 0 := Classical.byContradiction (fun x => by
      obtain ⟨k, y1, y2⟩ := cntN_pos.mp x
      rcases hk k y1 with z | ⟨j, z1, z2⟩
      · omega
      · have h4 : cntN S (b + 1) 2304 ≠ 0 := cntN_pos.mpr ⟨j, z1, by omega⟩
        rw [← hc b q1, h0.1] at h4
        exact h4 rfl)
    have hl : ¬ lostN S1 b = 1 := fun x => by
      have := ((y_mk_ty q1).mp x).2
      rw [h2 _ (by omega) (by omega)] at this
      exact this h0.1
    refine ⟨by rw [y_mk_ref q1]; exact hc0, ?_, ?_⟩
    · rw [y_mk_pen q1, if_neg hl, h2 _ (by omega) (by omega)]
      exact h0.2.1
    · rw [y_mk_o (Or.inr (by omega)), h2 _ (by omega) (by omega)]
      exact h0.2.2
theorem sm_cm {S : Nat → Nat} (hs : q_sm S) : q_sm (cmS S) := by
  refine ⟨fun k q1 q2 => ?_, fun d q1 q2 => ?_, fun s q1 q2 => ?_, fun b q1 q2 => ?_⟩
  · rw [cm_o (by omega)]
    exact hs.1 k q1 q2
  · rw [cm_o (by omega)]
    exact hs.2.1 d q1 q2
  · rw [cm_o (by omega)]
    exact hs.2.2.1 s q1 q2
  · have h0 := hs.2.2.2 b q1 q2
    rw [cm_o (k := 2814 + b) (by omega), cm_p q1, cm_b q1, if_pos h0.1]
    exact ⟨h0.1, rfl, rfl⟩
theorem pd_cm {S : Nat → Nat} : q_pd (cmS S) := fun b hb => by
  rw [cm_p hb, cm_b hb, cm_o (k := 2814 + b) (by omega)]
  refine ⟨fun x => absurd rfl x, fun x => Or.inr ?_⟩
  rw [if_neg x]
  decide
set_option maxHeartbeats 2000000 in
theorem f_end {n : Nat} {M : zM} {N N' : Nat → Int32} {S1 : Nat → Nat} (hX : L_x 169 M S1) (htab : ∀ k, k < 2304 → S1 k ≤ 128) (hB : L_b 170 M N S1) (hM : L_m 171 M S1) (hlost : sumN (lostN S1) 128 = 0) (hsm : q_sm (y_mk S1)) (hbit : ∀ b, b < 128 → y_mk S1 (2942 + b) ≤ 1) (hL : ∀ r, r < 4 → y_lr N (y_mk S1) r) (hk : ∀ r, r < 4 → y_mk S1 (3390 + r) ≤ 34) (hF : Fcm (y_mk S1) N N') (hR : z_R1 1 M N' (cmS (y_mk S1))) (hR84 : z_R1 84 M N' (cmS (y_mk S1))) (hI : z_I (n + 1) (cmS (y_mk S1))) (hh : ∀ r, r < 4 → M 175 r = nI (y_mk S1 (3390 + r))) (ho : S1 3395 < 2 ^ 24) (hori : ∀ d, d < 3 → S1 (2310 + d) ≤ 12) (hlo : ∀ b, b < 128 → 16 ≤ b % 32 → S1 (2814 + b) = 0) : ∃ M36 M39 M34, fL_settle 169 170 171 M = some (nI 0, M36) ∧ fL_isLogged 0 170 171 175 M36 = some (nI 1, M39) ∧ fL_keep 169 170 171 172 173 174 M39 = some M34 ∧ Q_st (n + 1) M34 N' N' (cmS (y_mk S1)) (cmS (y_mk S1)) := by
  have hoff : q_off S1 := fun k q1 q2 => by
    have := hsm.1 k q1 q2
    rw [y_mk_o (Or.inl (by omega))] at this
    exact this
  obtain ⟨M36, w1, w2, w3⟩ := f_settle (C := 171) hX hoff htab hB hM.1.1 ho hlo (by decide) (by decide)
  rw [hlost] at w1
  have hR36 : z_R1 1 M36 N' (cmS (y_mk S1)) := R1_fr hR (fun a ha => w3 a (by omega))
  have hM2 := L_m_mk (L_m_cg hM (w3 171 (by decide))) hori
  obtain ⟨M39, g1, g2, g3, g4, g5, g6⟩ := f_logd w2 hbit (fun b q1 q2 => hsm.2.2.2 b q1 q2) hR36 hI hF hL hk (fun r hr => by rw [w3 175 (by decide)]; exact hh r hr) hM2.1.1 hM2.1.2.2
  obtain ⟨M34, k1, k2, k3, k4, k5⟩ := f_keep (M := M39) (a0 := 169) (a1 := 170) (a2 := 171) (a3 := 172) (a4 := 173) (a5 := 174) (by decide)
  have hR39 : z_R1 1 M39 N' (cmS (y_mk S1)) := z_R1_cg hR36 (fun k q1 q2 q3 => g6 k (by omega) (by omega) (fun q hq => by have := q3 q hq; omega))
  have hR3984 : z_R1 84 M39 N' (cmS (y_mk S1)) := z_R1_cg hR84 (fun k q1 q2 q3 => by rw [g6 k (by omega) (by omega) (fun q hq => by omega)]; exact w3 k (by omega))
  have hX39 : L_x 169 M39 (cmS (y_mk S1)) := fun k hk => by
    have := ps_2304 hk
    rw [cm_o (by omega), y_mk_o (by omega), g6 169 (by decide) (by decide) (fun q hq => by omega), w3 169 (by decide)]
    exact hX k hk
  have hM39 : L_m 171 M39 (cmS (y_mk S1)) := by
    obtain ⟨⟨m1, m2, m3⟩, m4, m5⟩ := hM2
    refine ⟨⟨g3, by rw [g5 1 (by decide) (by decide), cm_o (by omega)]; exact m2, g4⟩, fun d hd => ?_, fun s hs => ?_⟩
    · have e : z_onum (cmS (y_mk S1)) d = z_onum (y_mk S1) d := by
        have h7 := hori d hd
        unfold z_onum
        rw [cm_o (k := 2310 + d) (by omega), y_mk_o (k := 2310 + d) (by omega), cm_o (k := 2394 + (S1 (2310 + d) - 1)) (by omega)]
      rw [g5 _ (by omega) (by omega), g5 _ (by omega) (by omega), e, cm_o (by omega)]
      exact m4 d hd
    · rw [g5 _ (by omega) (by omega), g5 _ (by omega) (by omega), g5 _ (by omega) (by omega), cm_o (by omega), cm_o (by omega), cm_o (by omega)]
      exact m5 s hs
  have hQL : Q_L 169 170 171 M39 N' (cmS (y_mk S1)) := ⟨hX39, g2, hM39⟩
  have hfr : ∀ a, a < 172 → M34 a = M39 a := fun a ha => k5 a (by omega) (by omega) (by omega)
  have hlr : ∀ r, r < 4 → y_lr N' (cmS (y_mk S1)) r := fun r hr => lr_cm hr (hL r hr) hF hbit
  exact ⟨M36, M39, M34, w1, g1, k1, ⟨R1_fr hR39 (fun a ha => hfr a (by omega)), hI, sm_cm hsm, pd_cm, hlr⟩, Q_L_cg hQL (hfr 169 (by decide)) (hfr 170 (by decide)) (hfr 171 (by decide)), ⟨z_R1_cg hR3984 (fun k q1 q2 _ => hfr k (by omega)), hI, sm_cm hsm, pd_cm, hlr⟩, L_keep hQL k2 k3 k4, cm_Bf, cm_Bf⟩
