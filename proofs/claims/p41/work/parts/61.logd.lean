/-! ===== what the law asks of logs behind a commit ===== -/
def fL_lgm (x2 x28 x29 x30 x31 : Int32) (M3 : zM) : Option (Int32 × zM) :=
  if ((x31 + x28) + x29) ≤ ((2 * x30) + 2) then (((fX6_logEntries 0 x2 M3).bind z_nt).bind fun x46 => if x46 = ((x31 + x28) + x29) then ((z_ld M3 175 4 x2).bind fun x48 => (fL_runs 0 170 x2 1 x48 M3).bind fun x49 => if x49 = x28 then ((z_ld M3 175 4 x2).bind fun x51 => (fL_runs 0 170 x2 0 (x51 + x28) M3).bind fun x52 => if x52 = x29 then (some (1, M3)) else (some (0, M3))) else (some (0, M3))) else (some (0, M3))) else ((z_ld M3 171 32 2).bind fun x54 => (z_sa M3 171 32 2 (x54 + 1)).bind fun M55 => ((fX6_logEntries 0 x2 M55).bind z_nt).bind fun x56 => if x56 = x30 then ((fL_runs 0 170 x2 2 0 M55).bind fun x58 => if x58 = x30 then (some (1, M55)) else (some (0, M55))) else (some (0, M55)))
set_option maxHeartbeats 2000000 in
theorem f_lgm {n : Nat} {M : zM} {N N' : Nat → Int32} {S : Nat → Nat} (hB : L_b 170 M N S) (hb : ∀ b, b < 128 → S (2942 + b) ≤ 1) (hs : ∀ b, b < 128 → 16 ≤ b % 32 → S (2814 + b) = 0 ∧ S (2686 + b) = 0 ∧ S (2942 + b) = 0) (hR : z_R1 1 M N' (cmS S)) (hI : z_I n (cmS S)) (hF : Fcm S N N') {r c : Nat} (hr : r < 4) (hk : S (3390 + r) ≤ 34) (hh : M 175 r = nI (S (3390 + r))) (hm2 : M 171 2 = nI c) : ∃ M', fL_lgm (nI r) (nI (rl (gR S 1 r) 33).1) (nI (rl (gR S 0 r) 33).1) (nI (rl (gR S 2 r) 33).1) (nI (S (3390 + r))) M = some (nI 1, M') ∧ (∀ a, a ≠ 171 → M' a = M a) ∧ ∀ i, M' 171 i = if i = 2 then nI (c + (if cmC S r then 1 else 0)) else M 171 i := by
  have hE := hF.2 r hr
  have hle := k_logE hR hI hr
  rw [cm_l hr] at hle
  have b1 := rl16 (g := gR S 1 r)
  have b0 := rl16 (g := gR S 0 r)
  have b2 := rl16 (g := gR S 2 r)
  have hck : ∀ (M2 : zM) (kd pl : Nat), z_R1 1 M2 N' (cmS S) → kd ≤ 2 → pl + (rl (gR S kd r) 33).1 ≤ cmN S r → (∀ j, j < (rl (gR S kd r) 33).1 → ¬ cmO S r (pl + j) ∧ cmE S r (pl + j) = (((rl (gR S kd r) 33).2 j).1, ((rl (gR S kd r) 33).2 j).2, if kd = 0 then 0 else 1)) → q_ck M2 (gR S kd r) r kd pl := fun M2 kd pl hR2 hk2 hc he j hj => by
    obtain ⟨e1, e2⟩ := he j hj
    have e3 := (hE (pl + j) (by omega)).2 e1
    obtain ⟨v1, v2⟩ := rl_val hj
    rw [e2] at e3
    have e3 : z_entry (N' (3070 + 80 * r + (pl + j))) (32 * r + ((rl (gR S kd r) 33).2 j).1) ((rl (gR S kd r) 33).2 j).2 (nI (if kd = 0 then 0 else 1)) := e3
    have hjn : pl + j < cmS S (3390 + r) := by
      rw [cm_l hr]
      omega
    exact ⟨k_runAt hR2 hI hr hjn (by omega) v1 (by omega) e3, k_alloc hR2 hI hr hjn (by omega) v1 (by omega) (by split <;> decide) e3⟩
  by_cases cc : cmC S r
  · have eN : cmN S r = (rl (gR S 2 r) 33).1 := if_pos cc
    have cc2 : 2 * (rl (gR S 2 r) 33).1 + 2 < S (3390 + r) + (rl (gR S 1 r) 33).1 + (rl (gR S 0 r) 33).1 := cc
    obtain ⟨M55, hM55⟩ : ∃ M55, z_st M 171 2 (nI (c + 1)) = M55 := ⟨_, rfl⟩
    have f55 : ∀ a, a ≠ 171 → M55 a = M a := fun a ha => by rw [← hM55]; exact s_n ha
    have hR55 : z_R1 1 M55 N' (cmS S) := R1_fr hR (fun a ha => f55 a (by omega))
    have hle2 := k_logE hR55 hI hr
    rw [cm_l hr, eN] at hle2
    have hB55 := L_b_cg hB (f55 170 (by decide))
    have k2 := f_runs hB55 hb hs (r := r) (kd := 2) hr (by decide) (a4 := nI 0) (Or.inr ⟨0, by decide, rfl, hck M55 2 0 hR55 (by decide) (by omega) (fun j hj => ⟨fun x => x.1 cc, by
      rw [Nat.zero_add]
      exact if_pos cc⟩)⟩)
    refine ⟨M55, ?_, f55, fun i => ?_⟩
    · have q1 : ¬ ((nI (S (3390 + r)) + nI (rl (gR S 1 r) 33).1) + nI (rl (gR S 0 r) 33).1 ≤ 2 * nI (rl (gR S 2 r) 33).1 + 2) := fun x => by
        rw [show (2 : Int32) = nI 2 from rfl, pk_mul, nI_add, nI_add, nI_add, n_leF (by omega) (by omega) (by omega)] at x
        exact x
      have q2 : z_ld M 171 32 2 = some (nI c) := by simp (disch := first | omega | assumption) only [l_0, l_1, l_2, l_3, l_4, l_5, l_6, l_7, l_8, l_11, l_12, l_15, l_16, l_31, l_32, l_66, l_80, l_100, l_127, l_128, l_768, l_2304, l_2310, l_2316, l_2388, l_2394, l_2406, l_2418, l_2430, l_2558, l_2686, l_2814, l_2942, l_3070, l_3390, l_3394, l_3395, l_3396, l_3397, n_leT, n_leF, n_ltT, n_ltF, n_eqT, n_eqF, nI_add, pk_mul, n_sub, z_ldn, z_san, z_bs, z_b2s, z_b3s, z_ocN, z_ocS, z_oxL, z_oxR, z_scL, z_scR, ↓reduceIte, Nat.zero_add, Nat.add_zero, Nat.zero_lt_succ, true_and, and_true, eq_self, hm2]
      have q3 : z_sa M 171 32 2 (nI c + 1) = some M55 := by
        rw [← hM55]
        simp (disch := first | omega | assumption) only [l_0, l_1, l_2, l_3, l_4, l_5, l_6, l_7, l_8, l_11, l_12, l_15, l_16, l_31, l_32, l_66, l_80, l_100, l_127, l_128, l_768, l_2304, l_2310, l_2316, l_2388, l_2394, l_2406, l_2418, l_2430, l_2558, l_2686, l_2814, l_2942, l_3070, l_3390, l_3394, l_3395, l_3396, l_3397, n_leT, n_leF, n_ltT, n_ltF, n_eqT, n_eqF, nI_add, pk_mul, n_sub, z_ldn, z_san, z_bs, z_b2s, z_b3s, z_ocN, z_ocS, z_oxL, z_oxR, z_scL, z_scR, ↓reduceIte, Nat.zero_add, Nat.add_zero, Nat.zero_lt_succ, true_and, and_true, eq_self]
      have q4 : (fX6_logEntries 0 (nI r) M55).bind z_nt = some (nI (rl (gR S 2 r) 33).1) := by
        rw [hle2]
        rfl
      have k2 : fL_runs 0 170 (nI r) 2 0 M55 = some (nI (rl (gR S 2 r) 33).1) := k2
      unfold fL_lgm
      rw [if_neg q1, q2, z_bs, q3, z_bs, q4, z_bs, if_pos rfl, k2, z_bs, if_pos rfl]
      rfl
    · rw [← hM55, s_s, if_pos cc]
      rfl
  · have eN : cmN S r = S (3390 + r) + (rl (gR S 1 r) 33).1 + (rl (gR S 0 r) 33).1 := if_neg cc
    have cc2 : ¬ 2 * (rl (gR S 2 r) 33).1 + 2 < S (3390 + r) + (rl (gR S 1 r) 33).1 + (rl (gR S 0 r) 33).1 := cc
    rw [eN] at hle
    have k1 := f_runs hB hb hs (r := r) (kd := 1) hr (by decide) (a4 := nI (S (3390 + r))) (Or.inr ⟨_, by omega, rfl, hck M 1 _ hR (by decide) (by omega) (fun j hj => ⟨fun x => by have := x.2; omega, by
      unfold cmE lgE
      rw [if_neg cc, if_pos (by omega), Nat.add_sub_cancel_left]
      rfl⟩)⟩)
    have k0 := f_runs hB hb hs (r := r) (kd := 0) hr (by decide) (a4 := nI (S (3390 + r) + (rl (gR S 1 r) 33).1)) (Or.inr ⟨_, by omega, rfl, hck M 0 _ hR (by decide) (by omega) (fun j hj => ⟨fun x => by have := x.2; omega, by
      unfold cmE lgE
      rw [if_neg cc, if_neg (by omega), Nat.add_sub_cancel_left]
      rfl⟩)⟩)
    refine ⟨M, ?_, fun a _ => rfl, fun i => ?_⟩
    · have q1 : ((nI (S (3390 + r)) + nI (rl (gR S 1 r) 33).1) + nI (rl (gR S 0 r) 33).1 ≤ 2 * nI (rl (gR S 2 r) 33).1 + 2) := by
        rw [show (2 : Int32) = nI 2 from rfl, pk_mul, nI_add, nI_add, nI_add, n_leT (by omega) (by omega) (by omega)]
        trivial
      have q4 : (fX6_logEntries 0 (nI r) M).bind z_nt = some ((nI (S (3390 + r)) + nI (rl (gR S 1 r) 33).1) + nI (rl (gR S 0 r) 33).1) := by
        rw [hle, nI_add, nI_add]
        rfl
      have q5 : z_ld M 175 4 (nI r) = some (nI (S (3390 + r))) := by simp (disch := first | omega | assumption) only [l_0, l_1, l_2, l_3, l_4, l_5, l_6, l_7, l_8, l_11, l_12, l_15, l_16, l_31, l_32, l_66, l_80, l_100, l_127, l_128, l_768, l_2304, l_2310, l_2316, l_2388, l_2394, l_2406, l_2418, l_2430, l_2558, l_2686, l_2814, l_2942, l_3070, l_3390, l_3394, l_3395, l_3396, l_3397, n_leT, n_leF, n_ltT, n_ltF, n_eqT, n_eqF, nI_add, pk_mul, n_sub, z_ldn, z_san, z_bs, z_b2s, z_b3s, z_ocN, z_ocS, z_oxL, z_oxR, z_scL, z_scR, ↓reduceIte, Nat.zero_add, Nat.add_zero, Nat.zero_lt_succ, true_and, and_true, eq_self, hh]
      have k1 : fL_runs 0 170 (nI r) 1 (nI (S (3390 + r))) M = some (nI (rl (gR S 1 r) 33).1) := k1
      have k0 : fL_runs 0 170 (nI r) 0 (nI (S (3390 + r)) + nI (rl (gR S 1 r) 33).1) M = some (nI (rl (gR S 0 r) 33).1) := by
        rw [nI_add]
        exact k0
      unfold fL_lgm
      rw [if_pos q1, q4, z_bs, if_pos rfl, q5, z_bs, k1, z_bs, if_pos rfl, z_bs, k0, z_bs, if_pos rfl]
      rfl
    · rw [if_neg cc]
      by_cases z : i = 2
      · rw [if_pos z, z]
        exact hm2
      · rw [if_neg z]
