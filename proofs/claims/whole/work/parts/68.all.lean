/-! ===== how it begins; all calls ===== -/
def S_0 : Nat → Nat := fun k => if k = 2304 then 1 else if k = 3395 then 1 else 0
theorem S0_z {k : Nat} (h1 : k ≠ 2304) (h2 : k ≠ 3395) : S_0 k = 0 := by
  unfold S_0
  rw [if_neg h1, if_neg h2]
theorem S0_a : S_0 2304 = 1 := if_pos rfl
theorem S0_b : S_0 3395 = 1 := by
  unfold S_0
  rw [if_neg (by decide), if_pos rfl]
theorem N_0 : ∀ k, z_iv 6 k = nI (S_0 k) := fun k => by
  show (if k = 2304 then (1 : Int32) else if k = 3395 then 1 else 0) = nI (if k = 2304 then 1 else if k = 3395 then 1 else 0)
  by_cases q : k = 2304
  · rw [if_pos q, if_pos q]
    rfl
  · rw [if_neg q, if_neg q]
    by_cases q2 : k = 3395
    · rw [if_pos q2, if_pos q2]
      rfl
    · rw [if_neg q2, if_neg q2]
      rfl
theorem Is_0 : z_Is 0 S_0 := by
  refine ⟨fun d hd => ?_, ⟨0, by decide, S0_a⟩, fun d hd _ => ⟨S0_z (by omega) (by omega), S0_z (by omega) (by omega)⟩, fun s hs q => absurd (S0_z (by omega) (by omega)) q, fun s t hs ht q => absurd (S0_z (by omega) (by omega)) q, fun d hd => ⟨by rw [S0_z (by omega) (by omega)]; decide, fun r hr => ?_⟩, fun d hd r q hr hq => ?_, fun d hd => ⟨by rw [S0_z (by omega) (by omega)]; decide, fun q => absurd (S0_z (by omega) (by omega)) q⟩, fun r hr => by rw [S0_z (by omega) (by omega)]; decide, by rw [S0_z (by decide) (by decide)]; decide, by rw [S0_b]; decide, by rw [S0_z (by decide) (by decide)]; decide, fun s hs => by rw [S0_z (by omega) (by omega)]; decide⟩
  · by_cases q : d = 0
    · rw [q, S0_a]
      decide
    · rw [S0_z (by omega) (by omega)]
      decide
  · rw [S0_z (by omega) (by omega)] at hr
    omega
  · rw [S0_z (by omega) (by omega)] at hq
    omega
theorem I_0 : z_I 0 S_0 := by
  refine ⟨Is_0, fun k hk => by rw [S0_z (by omega) (by omega)]; decide, fun d hd _ p hp => S0_z (by omega) (by omega), fun s hs _ p hp => S0_z (by omega) (by omega), fun b hb => ?_, fun b hb => ⟨by rw [S0_z (by omega) (by omega)]; decide, fun q => absurd (S0_z (by omega) (by omega)) q⟩, fun b hb => by rw [S0_z (by omega) (by omega)]; decide⟩
  rw [S0_z (by omega) (by omega)]
  refine (sumN_0 (fun i hi => ?_)).symm
  show (if S_0 i = b + 1 then 1 else 0) = 0
  rw [if_neg (by rw [S0_z (by omega) (by omega)]; omega)]
theorem Bf_0 : z_Bf S_0 S_0 := fun b hb => by
  rw [S0_z (by omega) (by omega), if_neg (by rw [S0_z (by omega) (by omega)]; exact fun x => x rfl)]
theorem M0_at {k c : Nat} (h : z_ik k = c) : z_M0 k = z_iv c := z_M0c h
theorem R1_0 {V : Nat} (hV : z_ik V = 5) (ht : ∀ t, t < 18 → z_ik (V + 9 + 3 * t + 1 + 1) = 1) (hd0 : z_ik (V + 9) = 3) (hd : ∀ d, d < 6 → d ≠ 0 → z_ik (V + 9 + 3 * d) = 2) (hs : ∀ s, s < 12 → z_ik (V + 27 + 3 * s) = 4) (hp : ∀ q, q < 5 → q ≠ 0 → z_ik (V + 3 + q) = 0) (hl : ∀ r, r < 4 → z_ik (V + 63 + 5 * r) = 7 + r) : z_R1 V z_M0 (z_iv 6) S_0 := by
  refine ⟨fun t ht9 p hp9 => ?_, fun d hd9 => ?_, fun s hs9 => ?_, fun b hb => ⟨?_, ?_, ?_, ?_⟩, fun r hr => ?_, ?_⟩
  · rw [M0_at (ht t ht9), S0_z (by omega) (by omega)]
    show (-1 : Int32) = nI 0 - nI 1
    decide
  · have ho : z_onum S_0 d = 0 := if_pos (S0_z (by omega) (by omega))
    rw [ho]
    by_cases q : d = 0
    · subst q
      rw [show V + 9 + 3 * 0 = V + 9 from rfl, M0_at hd0, show S_0 (2304 + 0) = 1 from S0_a]
      exact ⟨rfl, by show (-1 : Int32) = nI 0 - nI 1; decide⟩
    · rw [M0_at (hd d hd9 q), S0_z (by omega) (by omega)]
      exact ⟨rfl, by show (-1 : Int32) = nI 0 - nI 1; decide⟩
  · have h0 : S_0 (2394 + s) = 0 := S0_z (by omega) (by omega)
    rw [M0_at (hs s hs9), if_pos h0]
    exact ⟨rfl, fun q => absurd h0 q⟩
  · have : z_sta S_0 b = 0 := by
      unfold z_sta
      rw [S0_z (by omega) (by omega), if_neg (fun x => x rfl), S0_z (by omega) (by omega), if_neg (fun x => x rfl)]
    rw [M0_at (hp 1 (by decide) (by decide)), this]
    rfl
  · rw [M0_at (hp 2 (by decide) (by decide)), N_0, S0_z (by omega) (by omega)]
    rfl
  · rw [M0_at (hp 3 (by decide) (by decide)), S0_z (by omega) (by omega)]
    rfl
  · rw [M0_at (hp 4 (by decide) (by decide)), S0_z (by omega) (by omega)]
    rfl
  · have h0 : S_0 (3390 + r) = 0 := S0_z (by omega) (by omega)
    rw [M0_at (hl r hr), h0]
    have : r = 0 ∨ r = 1 ∨ r = 2 ∨ r = 3 := by omega
    rcases this with y | y | y | y <;> subst y
    · exact ⟨rfl, rfl, fun j hj => absurd hj (Nat.not_lt_zero j)⟩
    · exact ⟨rfl, rfl, fun j hj => absurd hj (Nat.not_lt_zero j)⟩
    · exact ⟨rfl, rfl, fun j hj => absurd hj (Nat.not_lt_zero j)⟩
    · exact ⟨rfl, rfl, fun j hj => absurd hj (Nat.not_lt_zero j)⟩
  · unfold R_sc
    rw [M0_at hV, S0_b, S0_z (by decide) (by decide), S0_z (by decide) (by decide)]
    exact ⟨rfl, rfl, rfl⟩
theorem P_0 : z_P 0 z_M0 := by
  have e1 : z_M0 170 = z_iv 6 := M0_at (by decide)
  have e2 : z_M0 171 = z_iv 6 := M0_at (by decide)
  have hN : z_N (z_iv 6) S_0 := ⟨fun k _ => N_0 k, fun k _ _ => N_0 k, fun k _ _ => N_0 k⟩
  refine ⟨S_0, S_0, by rw [e1]; exact hN, by rw [e2]; exact hN, by rw [e1]; exact R1_0 (by decide) (by decide) (by decide) (by decide) (by decide) (by decide) (by decide), by rw [e2]; exact R1_0 (by decide) (by decide) (by decide) (by decide) (by decide) (by decide) (by decide), I_0, I_0, Bf_0, Bf_0⟩
theorem y_all {n : Nat} (hn : n < 512) {M : zM} (h : z_P n M) (a1 a2 a3 a4 a5 a6 : Int32) : ∀ k, k < 64 → ∃ M9, z_step k a1 a2 a3 a4 a5 a6 M = some (1, M9) ∧ z_P (n + 1) M9
  | 0, _ => by first | exact op_0 hn h a1 a2 a3 a4 a5 a6 | exact op_0 h a1 a2 a3 a4 a5 a6
  | 1, _ => by first | exact op_1 hn h a1 a2 a3 a4 a5 a6 | exact op_1 h a1 a2 a3 a4 a5 a6
  | 2, _ => by first | exact op_2 hn h a1 a2 a3 a4 a5 a6 | exact op_2 h a1 a2 a3 a4 a5 a6
  | 3, _ => by first | exact op_3 hn h a1 a2 a3 a4 a5 a6 | exact op_3 h a1 a2 a3 a4 a5 a6
  | 4, _ => by first | exact op_4 hn h a1 a2 a3 a4 a5 a6 | exact op_4 h a1 a2 a3 a4 a5 a6
  | 5, _ => by first | exact op_5 hn h a1 a2 a3 a4 a5 a6 | exact op_5 h a1 a2 a3 a4 a5 a6
  | 6, _ => by first | exact op_6 hn h a1 a2 a3 a4 a5 a6 | exact op_6 h a1 a2 a3 a4 a5 a6
  | 7, _ => by first | exact op_7 hn h a1 a2 a3 a4 a5 a6 | exact op_7 h a1 a2 a3 a4 a5 a6
  | 8, _ => by first | exact op_8 hn h a1 a2 a3 a4 a5 a6 | exact op_8 h a1 a2 a3 a4 a5 a6
  | 9, _ => by first | exact op_9 hn h a1 a2 a3 a4 a5 a6 | exact op_9 h a1 a2 a3 a4 a5 a6
  | 10, _ => by first | exact op_10 hn h a1 a2 a3 a4 a5 a6 | exact op_10 h a1 a2 a3 a4 a5 a6
  | 11, _ => by first | exact op_11 hn h a1 a2 a3 a4 a5 a6 | exact op_11 h a1 a2 a3 a4 a5 a6
  | 12, _ => by first | exact op_12 hn h a1 a2 a3 a4 a5 a6 | exact op_12 h a1 a2 a3 a4 a5 a6
  | 13, _ => by first | exact op_13 hn h a1 a2 a3 a4 a5 a6 | exact op_13 h a1 a2 a3 a4 a5 a6
  | 14, _ => by first | exact op_14 hn h a1 a2 a3 a4 a5 a6 | exact op_14 h a1 a2 a3 a4 a5 a6
  | 15, _ => by first | exact op_15 hn h a1 a2 a3 a4 a5 a6 | exact op_15 h a1 a2 a3 a4 a5 a6
  | 16, _ => by first | exact op_16 hn h a1 a2 a3 a4 a5 a6 | exact op_16 h a1 a2 a3 a4 a5 a6
  | 17, _ => by first | exact op_17 hn h a1 a2 a3 a4 a5 a6 | exact op_17 h a1 a2 a3 a4 a5 a6
  | 18, _ => by first | exact op_18 hn h a1 a2 a3 a4 a5 a6 | exact op_18 h a1 a2 a3 a4 a5 a6
  | 19, _ => by first | exact op_19 hn h a1 a2 a3 a4 a5 a6 | exact op_19 h a1 a2 a3 a4 a5 a6
  | 20, _ => by first | exact op_20 hn h a1 a2 a3 a4 a5 a6 | exact op_20 h a1 a2 a3 a4 a5 a6
  | 21, _ => by first | exact op_21 hn h a1 a2 a3 a4 a5 a6 | exact op_21 h a1 a2 a3 a4 a5 a6
  | 22, _ => by first | exact op_22 hn h a1 a2 a3 a4 a5 a6 | exact op_22 h a1 a2 a3 a4 a5 a6
  | 23, _ => by first | exact op_23 hn h a1 a2 a3 a4 a5 a6 | exact op_23 h a1 a2 a3 a4 a5 a6
  | 24, _ => by first | exact op_24 hn h a1 a2 a3 a4 a5 a6 | exact op_24 h a1 a2 a3 a4 a5 a6
  | 25, _ => by first | exact op_25 hn h a1 a2 a3 a4 a5 a6 | exact op_25 h a1 a2 a3 a4 a5 a6
  | 26, _ => by first | exact op_26 hn h a1 a2 a3 a4 a5 a6 | exact op_26 h a1 a2 a3 a4 a5 a6
  | 27, _ => by first | exact op_27 hn h a1 a2 a3 a4 a5 a6 | exact op_27 h a1 a2 a3 a4 a5 a6
  | 28, _ => by first | exact op_28 hn h a1 a2 a3 a4 a5 a6 | exact op_28 h a1 a2 a3 a4 a5 a6
  | 29, _ => by first | exact op_29 hn h a1 a2 a3 a4 a5 a6 | exact op_29 h a1 a2 a3 a4 a5 a6
  | 30, _ => by first | exact op_30 hn h a1 a2 a3 a4 a5 a6 | exact op_30 h a1 a2 a3 a4 a5 a6
  | 31, _ => by first | exact op_31 hn h a1 a2 a3 a4 a5 a6 | exact op_31 h a1 a2 a3 a4 a5 a6
  | 32, _ => by first | exact op_32 hn h a1 a2 a3 a4 a5 a6 | exact op_32 h a1 a2 a3 a4 a5 a6
  | 33, _ => by first | exact op_33 hn h a1 a2 a3 a4 a5 a6 | exact op_33 h a1 a2 a3 a4 a5 a6
  | 34, _ => by first | exact op_34 hn h a1 a2 a3 a4 a5 a6 | exact op_34 h a1 a2 a3 a4 a5 a6
  | 35, _ => by first | exact op_35 hn h a1 a2 a3 a4 a5 a6 | exact op_35 h a1 a2 a3 a4 a5 a6
  | 36, _ => by first | exact op_36 hn h a1 a2 a3 a4 a5 a6 | exact op_36 h a1 a2 a3 a4 a5 a6
  | 37, _ => by first | exact op_37 hn h a1 a2 a3 a4 a5 a6 | exact op_37 h a1 a2 a3 a4 a5 a6
  | k + 38, _ => ⟨M, rfl, z_P_same h z_same_rfl⟩
