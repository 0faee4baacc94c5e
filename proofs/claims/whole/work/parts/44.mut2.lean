/-! ===== what the calls that change share ===== -/
def rngN (S : Nat → Nat) (b e : Nat) (g : Nat → Nat) : Nat → Nat := fun k => if b ≤ k ∧ k < b + e then g (k - b) else S k
theorem rng_in {S g : Nat → Nat} {b e k : Nat} (h1 : b ≤ k) (h2 : k < b + e) : rngN S b e g k = g (k - b) := if_pos ⟨h1, h2⟩
theorem rng_out {S g : Nat → Nat} {b e k : Nat} (h : k < b ∨ b + e ≤ k) : rngN S b e g k = S k := if_neg (by omega)
theorem upN_s {S : Nat → Nat} {k x : Nat} : updN S k x k = x := if_pos rfl
theorem upN_n {S : Nat → Nat} {k x j : Nat} (h : j ≠ k) : updN S k x j = S j := if_neg h
theorem z_N_up {N : Nat → Int32} {S : Nat → Nat} (h : z_N N S) {k v : Nat} : z_N (upd N k (nI v)) (updN S k v) := by
  have e : ∀ j, N j = nI (S j) → upd N k (nI v) j = nI (updN S k v j) := fun j hj => by
    by_cases q : j = k
    · subst q
      rw [u_s, upN_s]
    · rw [u_n q, upN_n q, hj]
  exact ⟨fun j hj => e j (h.1 j hj), fun j h1 h2 => e j (h.2.1 j h1 h2), fun j h1 h2 => e j (h.2.2 j h1 h2)⟩
theorem z_N_rng {N N' : Nat → Int32} {S g : Nat → Nat} {b e : Nat} (h : z_N N S) (hN : ∀ j, N' j = if b ≤ j ∧ j < b + e then nI (g (j - b)) else N j) : z_N N' (rngN S b e g) := by
  have c : ∀ j, N j = nI (S j) → N' j = nI (rngN S b e g j) := fun j hj => by
    rw [hN]
    by_cases q : b ≤ j ∧ j < b + e
    · rw [if_pos q, rng_in q.1 q.2]
    · rw [if_neg q, rng_out (by omega), hj]
  exact ⟨fun j hj => c j (h.1 j hj), fun j h1 h2 => c j (h.2.1 j h1 h2), fun j h1 h2 => c j (h.2.2 j h1 h2)⟩
theorem z_N_cg {N : Nat → Int32} {S S' : Nat → Nat} (h : z_N N S) (hc : ∀ k, k < 3397 → S' k = S k) : z_N N S' :=
  ⟨fun k hk => by rw [hc k (by omega)]; exact h.1 k hk, fun k k1 k2 => by rw [hc k (by omega)]; exact h.2.1 k k1 k2, fun k k1 k2 => by rw [hc k (by omega)]; exact h.2.2 k k1 k2⟩
theorem R_sn_S2 {V : Nat} {M : zM} {S S' : Nat → Nat} (h : R_sn V M S) (hl : ∀ s, s < 12 → S (2394 + s) ≠ 0 → z_liv S s) (hk : ∀ d, d < 6 → S (2388 + d) ≤ 12) (hc : ∀ k, 2316 ≤ k → k < 2430 → S' k = S k) : R_sn V M S' := fun s hs => by
  rw [hc (2394 + s) (by omega) (by omega)]
  refine ⟨(h s hs).1, fun q => ?_⟩
  obtain ⟨q1, q2, q3, r, q4, q5, q6⟩ := (h s hs).2 q
  have ho := (hl s hs q).2.1
  have hk2 := hk _ ho
  refine ⟨?_, ?_, ?_, r, q4, ?_, ?_⟩
  · rw [hc (2394 + s) (by omega) (by omega)]
    exact q1
  · rw [hc (2418 + s) (by omega) (by omega)]
    exact q2
  · rw [hc (2406 + s) (by omega) (by omega)]
    exact q3
  · rw [hc (2418 + s) (by omega) (by omega), hc (2388 + S (2418 + s)) (by omega) (by omega)]
    exact q5
  · unfold z_ord at q6 ⊢
    rw [hc (2418 + s) (by omega) (by omega), hc _ (by omega) (by omega)]
    exact q6
/-- the class before its settling, from what it was -/
theorem y_Q_gen {V : Nat} {M M1 : zM} {N : Nat → Int32} {S S1 st : Nat → Nat} (hQ : y_Q V M N S st) (hT : z_T V M1 S1) (h1 : R_ds V M1 S1) (h2 : R_sn V M1 S1) (h3 : R_sc V M1 S1) (hS : ∀ k, 2430 ≤ k → k < 3394 → S1 k = S k) (hf : ∀ a, V + 4 ≤ a → a < V + 7 → M1 a = M a) (hl : ∀ a, V + 63 ≤ a → a < V + 83 → M1 a = M a) : y_Q V M1 N S1 st := by
  obtain ⟨q1, q2, q3, q4, q5, q6⟩ := hQ
  have q5' := R_lg_S (S' := S1) q5 (fun r hr => hS _ (by omega) (by omega))
  refine ⟨hT, h1, h2, fun b hb => ⟨?_, ?_, ?_⟩, R_lg_cg q5' (fun r q k1 k2 => hl _ (by omega) (by omega)), h3⟩
  · rw [hf _ (by omega) (by omega)]
    exact (q4 b hb).1
  · rw [hf _ (by omega) (by omega)]
    exact (q4 b hb).2.1
  · rw [hf _ (by omega) (by omega), hS _ (by omega) (by omega)]
    exact (q4 b hb).2.2
theorem z_set2 {n : Nat} {M1 : zM} {N : Nat → Int32} {S S1 : Nat → Nat} (hn : n < 512) (hQ : y_Q 1 M1 N S1 (z_sta S)) (hI : z_I n S) (hIs : z_Is n S1) (hold : ∀ k, k < 2304 → S1 k = 0 ∨ ∃ j, j < 2304 ∧ S j = S1 k) (hte : ∀ d, d < 6 → S1 (2304 + d) = 0 → ∀ p, p < 128 → S1 (128 * d + p) = 0) (hse : ∀ s, s < 12 → S1 (2394 + s) = 0 → ∀ p, p < 128 → S1 (768 + 128 * s + p) = 0) (hS : ∀ k, 2558 ≤ k → k < 2942 → S1 k = S k) : (∃ M2, fX5_settle 1 M1 = some (nI (sumN (lostN S1) 128), M2) ∧ z_R1 1 M2 N (y_mk S1) ∧ ∀ a, a ≠ 1 + 3 + 1 → M2 a = M1 a) ∧ z_I n (y_mk S1) := by
  have hH := z_H_of (S1 := S1) hI hold (fun k k1 k2 => hS k (by omega) k2)
  refine ⟨z_settle (by omega) hQ hH hIs (fun b hb => by rw [hS _ (by omega) (by omega)]; exact I_bir hI b hb), z_I_mk hIs hH hQ.1.2.2 hte hse (fun b hb => by rw [hS _ (by omega) (by omega)]; exact I_p1 hI b hb) (fun b hb => by rw [hS _ (by omega) (by omega)]; exact I_bir hI b hb)⟩
/-- no settling, where nothing is lost -/
theorem z_set3 {n : Nat} {M1 : zM} {N : Nat → Int32} {S S1 : Nat → Nat} (hQ : y_Q 1 M1 N S1 (z_sta S)) (hI : z_I n S) (hIs : z_Is n S1) (hold : ∀ k, k < 2304 → S1 k = 0 ∨ ∃ j, j < 2304 ∧ S j = S1 k) (hte : ∀ d, d < 6 → S1 (2304 + d) = 0 → ∀ p, p < 128 → S1 (128 * d + p) = 0) (hse : ∀ s, s < 12 → S1 (2394 + s) = 0 → ∀ p, p < 128 → S1 (768 + 128 * s + p) = 0) (hS : ∀ k, 2558 ≤ k → k < 2942 → S1 k = S k) (hno : ∀ k, k < 2304 → S k ≠ 0 → S1 k = S k) : z_R1 1 M1 N (y_mk S1) ∧ z_I n (y_mk S1) := by
  have hH := z_H_of (S1 := S1) hI hold (fun k k1 k2 => hS k (by omega) k2)
  refine ⟨z_R1_mk hQ hIs (fun b hb => ?_), z_I_mk hIs hH hQ.1.2.2 hte hse (fun b hb => by rw [hS _ (by omega) (by omega)]; exact I_p1 hI b hb) (fun b hb => by rw [hS _ (by omega) (by omega)]; exact I_bir hI b hb)⟩
  rw [z_sta_mk hH hb, (hQ.2.2.2.1 b hb).1, if_neg]
  intro q
  obtain ⟨q1, q2⟩ := q
  have c1 : S (2814 + b) ≠ 0 := fun c => by
    unfold z_sta at q1
    rw [if_neg (fun c2 => c2 c)] at q1
    split at q1 <;> omega
  rw [I_ref hI b hb] at c1
  obtain ⟨k, hk, c2⟩ := cntN_pos.mp c1
  exact cntN_pos.mpr ⟨k, hk, (hno k hk (by omega)).trans c2⟩ q2
theorem m_tabs2 {n : Nat} {M : zM} {S S1 : Nat → Nat} (hI : z_I n S) (hn : n < 512) (hS : ∀ k, 2558 ≤ k → k < 2942 → S1 k = S k) (ho : S1 3395 ≤ 600) (ht : ∀ k, k < 2304 → S1 k ≤ 128) (hN : z_N (M 170) S1) : ∃ M', fX7_counts 169 M = some (nI (sumN (lostN S1) 128), M') ∧ z_N (M' 170) (y_mk S1) ∧ (∀ k, k < 2686 ∨ 2942 ≤ k → M' 170 k = M 170 k) ∧ ∀ a, a ≠ 170 → a ≠ 172 → M' a = M a :=
  mCo hN ht (fun b hb => by rw [hS _ (by omega) (by omega)]; exact I_r2304 hI b hb) (fun b hb => by rw [hS _ (by omega) (by omega)]; have := I_bir hI b hb; omega) (by omega)
/-- the whole relation after a call -/
theorem z_fin {n : Nat} {M M2 M4 : zM} {N : Nat → Int32} {S0 S' : Nat → Nat} (hN0 : z_N (M 171) S0) (hR0 : z_R1 84 M (M 171) S0) (hI0 : z_I n S0) (hB0 : z_Bf S0 S0) (hR2 : z_R1 1 M2 N S') (hN4 : z_N (M4 170) S') (hI' : z_I (n + 1) S') (hB : z_Bf S' S0) (h1 : ∀ k, 2430 ≤ k → k < 2558 → M4 170 k = N k) (h2 : ∀ k, 3070 ≤ k → k < 3390 → M4 170 k = N k) (hfr : ∀ a, a < 169 ∨ a = 171 → M4 a = M2 a) (h171 : M2 171 = M 171) (h84 : ∀ a, 84 ≤ a → a < 167 → M2 a = M a) : z_P (n + 1) M4 :=
  ⟨S', S0, hN4, by rw [hfr _ (Or.inr rfl), h171]; exact hN0, z_R1_N (z_R1_cg hR2 (fun k k1 k2 _ => hfr k (by omega))) (fun r hr => by have := I_log hI' r hr; omega) h1 h2, by rw [hfr _ (Or.inr rfl), h171]; exact z_R1_cg hR0 (fun k k1 k2 _ => by rw [hfr k (by omega), h84 k (by omega) (by omega)]), hI', z_I_mono hI0, hB, hB0⟩
theorem op_5 {n : Nat} (hn : n < 512) {M : zM} (h : z_P n M) (a1 a2 a3 a4 a5 a6 : Int32) : ∃ M9, fL_c5 a1 a2 a3 a4 a5 a6 M = some (1, M9) ∧ z_P (n + 1) M9 := by
  obtain ⟨S, S0, hN, hN0, hR, hR0, hI, hI0, hB, hB0⟩ := id h
  unfold fL_c5 fL_reflink
  have hN1 := N1 hN
  rcases ds_cases a1 (I_ex hI) with ⟨d, hd, rfl, h1⟩ | h1
  · rcases pl_cases a2 a3 with ⟨f, i, hf, hi, rfl, rfl⟩ | h2
    · rcases pl_cases a4 a5 with ⟨f2, i2, hf2, hi2, rfl, rfl⟩ | h22
      · rcases fit_cases a6 hi with ⟨l, l1, l2, rfl⟩ | h3
        · by_cases l3 : i2 + l ≤ 16
          · obtain ⟨S1, hS1⟩ : ∃ S1 : Nat → Nat, ∀ k, S1 k = if 128 * d + (16 * f2 + i2) ≤ k ∧ k < 128 * d + (16 * f2 + i2) + l then S (128 * d + (16 * f + i) + (k - (128 * d + (16 * f2 + i2)))) else S k := ⟨_, fun _ => rfl⟩
            obtain ⟨v, hv⟩ : ∃ v, v = nI (sumN (fun j => if S (128 * d + (16 * f2 + i2) + j) = S (128 * d + (16 * f + i) + j) then 0 else 1) l) := ⟨_, rfl⟩
            have hS : ∀ k, 2304 ≤ k → S1 k = S k := fun k hk => by rw [hS1, if_neg (by omega)]
            have hQ := z_Q_of hR hI
            -- the class: what it takes
            obtain ⟨Mt, t1, t2, t3⟩ := z_loopR (f := fun s : Int32 × zM => fX6_take_L1 0 (1 + 9 + 3 * d + 1) (nI (16 * f + i)) (nI l) s.1 s.2) 167 0 0 l (fun j => nI (S (128 * d + (16 * f + i) + j)) - nI 1) (by omega) (s := 0) (M := M) rfl (fun j M' hj q1 _ => by
              have c1 : M' (1 + 9 + 3 * d + 1 + 1) (16 * f + i + j) = nI (S (128 * d + (16 * f + i) + j)) - nI 1 := by
                rw [q1 _ (by omega), hQ.1.1 d (by omega) _ (by omega), show 128 * d + (16 * f + i + j) = 128 * d + (16 * f + i) + j by omega]
              simp (disch := first | omega | assumption) only [l_0, l_1, l_2, l_3, l_4, l_5, l_6, l_7, l_8, l_11, l_12, l_15, l_16, l_31, l_32, l_66, l_80, l_100, l_127, l_128, l_768, l_2304, l_2310, l_2316, l_2388, l_2394, l_2406, l_2418, l_2430, l_2558, l_2686, l_2814, l_2942, l_3070, l_3390, l_3394, l_3395, l_3396, l_3397, n_leT, n_leF, n_ltT, n_ltF, n_eqT, n_eqF, nI_add, pk_mul, n_sub, z_ldn, z_san, z_bs, z_b2s, z_b3s, z_ocN, z_ocS, z_oxL, z_oxR, z_scL, z_scR, ↓reduceIte, st_170, st_171, st_172, st_173, Nat.zero_add, Nat.add_zero, Nat.zero_lt_succ, true_and, and_true, eq_self, fX6_take_L1, cBo, c1]) (fun M' => by simp (disch := first | omega | assumption) only [l_0, l_1, l_2, l_3, l_4, l_5, l_6, l_7, l_8, l_11, l_12, l_15, l_16, l_31, l_32, l_66, l_80, l_100, l_127, l_128, l_768, l_2304, l_2310, l_2316, l_2388, l_2394, l_2406, l_2418, l_2430, l_2558, l_2686, l_2814, l_2942, l_3070, l_3390, l_3394, l_3395, l_3396, l_3397, n_leT, n_leF, n_ltT, n_ltF, n_eqT, n_eqF, nI_add, pk_mul, n_sub, z_ldn, z_san, z_bs, z_b2s, z_b3s, z_ocN, z_ocS, z_oxL, z_oxR, z_scL, z_scR, ↓reduceIte, st_170, st_171, st_172, st_173, Nat.zero_add, Nat.add_zero, Nat.zero_lt_succ, true_and, and_true, eq_self, fX6_take_L1])
            have ht : fX6_take 0 (1 + 9 + 3 * d + 1) (nI (16 * f + i)) (nI l) M = some Mt := by
              unfold fX6_take
              rw [t1]
              rfl
            have hMt : Mt 170 = M 170 := t2 _ (by decide)
            have hRt : z_R1 1 Mt (Mt 170) S := by
              rw [hMt]
              exact z_R1_cg hR (fun k k1 k2 _ => t2 k (by omega))
            have hQt := z_Q_of hRt hI
            have t3' : ∀ j, j < l → Mt 167 j = nI (S (128 * d + (16 * f + i) + j)) - nI 1 := fun j hj => by
              rw [t3, if_pos ⟨by omega, by omega⟩]
              rfl
            obtain ⟨r, e1, e2, e3, e4⟩ := z_loopA (f := fun s : Int32 × Int32 × zM => fX6_reflink_L1 0 (nI l) (1 + 9 + 3 * d) (nI (16 * f2 + i2)) s.1 s.2.1 s.2.2) (fun j x M' => x = nI (sumN (fun j => if S (128 * d + (16 * f2 + i2) + j) = S (128 * d + (16 * f + i) + j) then 0 else 1) j) ∧ (∃ T, z_T 1 M' T ∧ ∀ k, k < 2304 → T k = if 128 * d + (16 * f2 + i2) ≤ k ∧ k < 128 * d + (16 * f2 + i2) + j then S (128 * d + (16 * f + i) + (k - (128 * d + (16 * f2 + i2)))) else S k) ∧ ∀ a, a ≠ 1 + 3 + 4 → a ≠ 1 + 9 + 3 * d + 1 + 1 → M' a = Mt a) (fun r => r.1 = v ∧ z_T 1 r.2 S1 ∧ ∀ a, a ≠ 1 + 3 + 4 → a ≠ 1 + 9 + 3 * d + 1 + 1 → r.2 a = Mt a) 0 l (by omega) (x := nI 0) (s := nI 0) (M := Mt) rfl ⟨rfl, ⟨S, hQt.1, fun k hk => by rw [if_neg (by omega)]⟩, fun _ _ _ => rfl⟩ (fun j x M' hj hI9 => by
              obtain ⟨b1, ⟨T, b2, b3⟩, b4⟩ := hI9
              subst b1
              have hp : 16 * f2 + i2 + j < 128 := by omega
              have c1 := b2.1 d (by omega) (16 * f2 + i2 + j) hp
              have c2 : T (128 * d + (16 * f2 + i2 + j)) = S (128 * d + (16 * f2 + i2) + j) := by rw [b3 _ (by omega), if_neg (by omega)]; exact congrArg S (by omega)
              rw [c2] at c1
              have hx := I_tab hI (128 * d + (16 * f2 + i2) + j) (by omega)
              have hy := I_tab hI (128 * d + (16 * f + i) + j) (by omega)
              have c3 : M' 167 j = nI (S (128 * d + (16 * f + i) + j)) - nI 1 := by rw [b4 _ (by decide) (by omega), t3' j hj]
              by_cases q : S (128 * d + (16 * f2 + i2) + j) = S (128 * d + (16 * f + i) + j)
              · refine ⟨nI (sumN (fun j => if S (128 * d + (16 * f2 + i2) + j) = S (128 * d + (16 * f + i) + j) then 0 else 1) j), M', ?_, ?_, ⟨T, b2, fun k hk => ?_⟩, b4⟩
                · simp (disch := first | omega | assumption) only [l_0, l_1, l_2, l_3, l_4, l_5, l_6, l_7, l_8, l_11, l_12, l_15, l_16, l_31, l_32, l_66, l_80, l_100, l_127, l_128, l_768, l_2304, l_2310, l_2316, l_2388, l_2394, l_2406, l_2418, l_2430, l_2558, l_2686, l_2814, l_2942, l_3070, l_3390, l_3394, l_3395, l_3396, l_3397, n_leT, n_leF, n_ltT, n_ltF, n_eqT, n_eqF, nI_add, pk_mul, n_sub, z_ldn, z_san, z_bs, z_b2s, z_b3s, z_ocN, z_ocS, z_oxL, z_oxR, z_scL, z_scR, ↓reduceIte, st_170, st_171, st_172, st_173, Nat.zero_add, Nat.add_zero, Nat.zero_lt_succ, true_and, and_true, eq_self, fX6_reflink_L1, cBo, c1, c3, q]
                · show nI (sumN _ j) = nI (sumN _ j + if S (128 * d + (16 * f2 + i2) + j) = S (128 * d + (16 * f + i) + j) then 0 else 1)
                  rw [if_pos q]
                  rfl
                · rw [b3 k hk]
                  by_cases q2 : k = 128 * d + (16 * f2 + i2) + j
                  · rw [if_neg (by omega), if_pos (by omega), q2, q, Nat.add_sub_cancel_left]
                  · by_cases q3 : 128 * d + (16 * f2 + i2) ≤ k ∧ k < 128 * d + (16 * f2 + i2) + j
                    · rw [if_pos q3, if_pos (by omega)]
                    · rw [if_neg q3, if_neg (by omega)]
              · obtain ⟨M3, p1, p2, p3⟩ := cPut b2 (show d < 18 by omega) hp hy
                have hne : (nI (S (128 * d + (16 * f2 + i2) + j)) - nI 1 = nI (S (128 * d + (16 * f + i) + j)) - nI 1) = False := eq_false (fun c => q ((n_sub_eq (by omega) (by omega)).mp c))
                refine ⟨nI (sumN (fun j => if S (128 * d + (16 * f2 + i2) + j) = S (128 * d + (16 * f + i) + j) then 0 else 1) j + 1), M3, ?_, ?_, ⟨_, p2, fun k hk => ?_⟩, fun a q1 q2 => by rw [p3 a q1 q2, b4 a q1 q2]⟩
                · simp (disch := first | omega | assumption) only [l_0, l_1, l_2, l_3, l_4, l_5, l_6, l_7, l_8, l_11, l_12, l_15, l_16, l_31, l_32, l_66, l_80, l_100, l_127, l_128, l_768, l_2304, l_2310, l_2316, l_2388, l_2394, l_2406, l_2418, l_2430, l_2558, l_2686, l_2814, l_2942, l_3070, l_3390, l_3394, l_3395, l_3396, l_3397, n_leT, n_leF, n_ltT, n_ltF, n_eqT, n_eqF, nI_add, pk_mul, n_sub, z_ldn, z_san, z_bs, z_b2s, z_b3s, z_ocN, z_ocS, z_oxL, z_oxR, z_scL, z_scR, ↓reduceIte, st_170, st_171, st_172, st_173, Nat.zero_add, Nat.add_zero, Nat.zero_lt_succ, true_and, and_true, eq_self, fX6_reflink_L1, cBo, c1, c3, hne, p1]
                · show nI (sumN _ j + 1) = nI (sumN _ j + if S (128 * d + (16 * f2 + i2) + j) = S (128 * d + (16 * f + i) + j) then 0 else 1)
                  rw [if_neg q]
                · unfold updN
                  by_cases q2 : k = 128 * d + (16 * f2 + i2 + j)
                  · rw [if_pos q2, if_pos (by omega), q2, show 128 * d + (16 * f2 + i2 + j) - (128 * d + (16 * f2 + i2)) = j by omega]
                  · rw [if_neg q2, b3 k hk]
                    by_cases q3 : 128 * d + (16 * f2 + i2) ≤ k ∧ k < 128 * d + (16 * f2 + i2) + j
                    · rw [if_pos q3, if_pos (by omega)]
                    · rw [if_neg q3, if_neg (by omega)]) (fun x M' hI9 => by
              obtain ⟨b1, ⟨T, b2, b3⟩, b4⟩ := hI9
              exact ⟨(x, M'), by simp (disch := first | omega | assumption) only [l_0, l_1, l_2, l_3, l_4, l_5, l_6, l_7, l_8, l_11, l_12, l_15, l_16, l_31, l_32, l_66, l_80, l_100, l_127, l_128, l_768, l_2304, l_2310, l_2316, l_2388, l_2394, l_2406, l_2418, l_2430, l_2558, l_2686, l_2814, l_2942, l_3070, l_3390, l_3394, l_3395, l_3396, l_3397, n_leT, n_leF, n_ltT, n_ltF, n_eqT, n_eqF, nI_add, pk_mul, n_sub, z_ldn, z_san, z_bs, z_b2s, z_b3s, z_ocN, z_ocS, z_oxL, z_oxR, z_scL, z_scR, ↓reduceIte, st_170, st_171, st_172, st_173, Nat.zero_add, Nat.add_zero, Nat.zero_lt_succ, true_and, and_true, eq_self, fX6_reflink_L1], by rw [hv]; exact b1, z_T_T b2 (fun k hk => by rw [hS1, b3 k hk]), b4⟩)
            obtain ⟨r1, M1⟩ := r
            have e2 : r1 = v := e2
            subst e2
            obtain ⟨⟨M2, g1, g2, g3⟩, g4⟩ := z_tabs (S1 := S1) hn hRt hI e3 hS (fun k hk => by
              rw [hS1]
              by_cases q : 128 * d + (16 * f2 + i2) ≤ k ∧ k < 128 * d + (16 * f2 + i2) + l
              · rw [if_pos q]
                exact Or.inr ⟨_, by omega, rfl⟩
              · rw [if_neg q]
                exact Or.inr ⟨k, hk, rfl⟩) (fun d2 hd2 q p hp => by
              rw [hS1, if_neg (fun c => by
                have : d2 = d := by omega
                subst this
                omega)]
              exact I_te hI d2 hd2 q p hp) (fun s hs q p hp => by rw [hS1, if_neg (by omega)]; exact I_se hI s hs q p hp) (fun a q1 q2 => e4 a q1 (q2 d (by omega)))
            have e5 : ∀ a, a ≠ 1 + 3 + 1 → a ≠ 1 + 3 + 4 → a ≠ 1 + 9 + 3 * d + 1 + 1 → a ≠ 167 → M2 a = M a := fun a q1 q2 q3 q4 => by rw [g3 a q1, e4 a q2 q3, t2 a q4]
            -- the model
            have hM2 : M2 170 = M 170 := e5 _ (by decide) (by decide) (by omega) (by decide)
            have hc : (z_st M2 174 0 r1) 170 = M 170 := hM2
            have hN2 := N1' hN hc
            obtain ⟨Mu, u1, u2, u3⟩ := z_loopR (f := fun s : Int32 × zM => fX7_reflink_L1 169 (nI d) (nI f) (nI i) (nI l) s.1 s.2) 173 0 0 l (fun j => nI (S (128 * d + (16 * f + i) + j))) (by omega) (s := nI 0) (M := z_st (z_st M2 174 0 r1) 169 4 (nI 0)) rfl (fun j M' hj q1 _ => by
              have c1 : M' (169 + 1) (128 * d + (16 * f + (i + j))) = nI (S (128 * d + (16 * f + i) + j)) := by
                rw [q1 _ (by decide), show 128 * d + (16 * f + (i + j)) = 128 * d + (16 * f + i) + j by omega]
                exact hN2 _ (by omega)
              simp (disch := first | omega | assumption) only [l_0, l_1, l_2, l_3, l_4, l_5, l_6, l_7, l_8, l_11, l_12, l_15, l_16, l_31, l_32, l_66, l_80, l_100, l_127, l_128, l_768, l_2304, l_2310, l_2316, l_2388, l_2394, l_2406, l_2418, l_2430, l_2558, l_2686, l_2814, l_2942, l_3070, l_3390, l_3394, l_3395, l_3396, l_3397, n_leT, n_leF, n_ltT, n_ltF, n_eqT, n_eqF, nI_add, pk_mul, n_sub, z_ldn, z_san, z_bs, z_b2s, z_b3s, z_ocN, z_ocS, z_oxL, z_oxR, z_scL, z_scR, ↓reduceIte, st_170, st_171, st_172, st_173, Nat.zero_add, Nat.add_zero, Nat.zero_lt_succ, true_and, and_true, eq_self, fX7_reflink_L1, mSp, c1]) (fun M' => by simp (disch := first | omega | assumption) only [l_0, l_1, l_2, l_3, l_4, l_5, l_6, l_7, l_8, l_11, l_12, l_15, l_16, l_31, l_32, l_66, l_80, l_100, l_127, l_128, l_768, l_2304, l_2310, l_2316, l_2388, l_2394, l_2406, l_2418, l_2430, l_2558, l_2686, l_2814, l_2942, l_3070, l_3390, l_3394, l_3395, l_3396, l_3397, n_leT, n_leF, n_ltT, n_ltF, n_eqT, n_eqF, nI_add, pk_mul, n_sub, z_ldn, z_san, z_bs, z_b2s, z_b3s, z_ocN, z_ocS, z_oxL, z_oxR, z_scL, z_scR, ↓reduceIte, st_170, st_171, st_172, st_173, Nat.zero_add, Nat.add_zero, Nat.zero_lt_succ, true_and, and_true, eq_self, fX7_reflink_L1])
            have u3' : ∀ j, j < l → Mu 173 j = nI (S (128 * d + (16 * f + i) + j)) := fun j hj => by
              rw [u3, if_pos ⟨by omega, by omega⟩]
              rfl
            obtain ⟨r, m1, m2, m3, m4⟩ := z_loopA (f := fun s : Int32 × Int32 × zM => fX7_reflink_L2 169 (nI d) (nI f2) (nI i2) (nI l) s.1 s.2.1 s.2.2) (fun j x M' => x = nI (sumN (fun j => if S (128 * d + (16 * f2 + i2) + j) = S (128 * d + (16 * f + i) + j) then 0 else 1) j) ∧ (∀ k, M' (169 + 1) k = if 128 * d + (16 * f2 + i2) ≤ k ∧ k < 128 * d + (16 * f2 + i2) + j then nI (S (128 * d + (16 * f + i) + (k - (128 * d + (16 * f2 + i2))))) else M 170 k) ∧ ∀ a, a ≠ 170 → M' a = Mu a) (fun r => r.1 = r1 ∧ (∀ k, r.2 170 k = if 128 * d + (16 * f2 + i2) ≤ k ∧ k < 128 * d + (16 * f2 + i2) + l then nI (S (128 * d + (16 * f + i) + (k - (128 * d + (16 * f2 + i2))))) else M 170 k) ∧ ∀ a, a ≠ 170 → r.2 a = Mu a) 0 l (by omega) (x := nI 0) (s := nI 0) (M := Mu) rfl ⟨rfl, fun k => by rw [if_neg (by omega), u2 _ (by decide)]; exact congrFun hM2 k, fun _ _ => rfl⟩ (fun j x M' hj hI9 => by
              obtain ⟨b1, b2, b3⟩ := hI9
              subst b1
              have c1 : M' (169 + 1) (128 * d + (16 * f2 + (i2 + j))) = nI (S (128 * d + (16 * f2 + i2) + j)) := by
                rw [b2, if_neg (by omega), show 128 * d + (16 * f2 + (i2 + j)) = 128 * d + (16 * f2 + i2) + j by omega]
                exact hN1 _ (by omega)
              have hx := I_tab hI (128 * d + (16 * f2 + i2) + j) (by omega)
              have hy := I_tab hI (128 * d + (16 * f + i) + j) (by omega)
              have c3 : M' (169 + 4) j = nI (S (128 * d + (16 * f + i) + j)) := by rw [b3 _ (by decide)]; exact u3' j hj
              refine ⟨nI (sumN (fun j => if S (128 * d + (16 * f2 + i2) + j) = S (128 * d + (16 * f + i) + j) then 0 else 1) j + if S (128 * d + (16 * f2 + i2) + j) = S (128 * d + (16 * f + i) + j) then 0 else 1), z_st M' (169 + 1) (128 * d + (16 * f2 + (i2 + j))) (nI (S (128 * d + (16 * f + i) + j))), ?_, rfl, fun k => ?_, fun a ha => by rw [s_n ha]; exact b3 a ha⟩
              · by_cases q : S (128 * d + (16 * f2 + i2) + j) = S (128 * d + (16 * f + i) + j)
                · simp (disch := first | omega | assumption) only [l_0, l_1, l_2, l_3, l_4, l_5, l_6, l_7, l_8, l_11, l_12, l_15, l_16, l_31, l_32, l_66, l_80, l_100, l_127, l_128, l_768, l_2304, l_2310, l_2316, l_2388, l_2394, l_2406, l_2418, l_2430, l_2558, l_2686, l_2814, l_2942, l_3070, l_3390, l_3394, l_3395, l_3396, l_3397, n_leT, n_leF, n_ltT, n_ltF, n_eqT, n_eqF, nI_add, pk_mul, n_sub, z_ldn, z_san, z_bs, z_b2s, z_b3s, z_ocN, z_ocS, z_oxL, z_oxR, z_scL, z_scR, ↓reduceIte, st_170, st_171, st_172, st_173, Nat.zero_add, Nat.add_zero, Nat.zero_lt_succ, true_and, and_true, eq_self, fX7_reflink_L2, mSp, c1, c3, q]
                · simp (disch := first | omega | assumption) only [l_0, l_1, l_2, l_3, l_4, l_5, l_6, l_7, l_8, l_11, l_12, l_15, l_16, l_31, l_32, l_66, l_80, l_100, l_127, l_128, l_768, l_2304, l_2310, l_2316, l_2388, l_2394, l_2406, l_2418, l_2430, l_2558, l_2686, l_2814, l_2942, l_3070, l_3390, l_3394, l_3395, l_3396, l_3397, n_leT, n_leF, n_ltT, n_ltF, n_eqT, n_eqF, nI_add, pk_mul, n_sub, z_ldn, z_san, z_bs, z_b2s, z_b3s, z_ocN, z_ocS, z_oxL, z_oxR, z_scL, z_scR, ↓reduceIte, st_170, st_171, st_172, st_173, Nat.zero_add, Nat.add_zero, Nat.zero_lt_succ, true_and, and_true, eq_self, fX7_reflink_L2, mSp, c1, c3, if_neg q]
              · rw [s_s]
                by_cases q2 : k = 128 * d + (16 * f2 + (i2 + j))
                · rw [q2, u_s, if_pos (by omega), show 128 * d + (16 * f2 + (i2 + j)) - (128 * d + (16 * f2 + i2)) = j by omega]
                · rw [u_n q2, b2]
                  by_cases q3 : 128 * d + (16 * f2 + i2) ≤ k ∧ k < 128 * d + (16 * f2 + i2) + j
                  · rw [if_pos q3, if_pos (by omega)]
                  · rw [if_neg q3, if_neg (by omega)]) (fun x M' hI9 => by
              obtain ⟨b1, b2, b3⟩ := hI9
              exact ⟨(x, M'), by simp (disch := first | omega | assumption) only [l_0, l_1, l_2, l_3, l_4, l_5, l_6, l_7, l_8, l_11, l_12, l_15, l_16, l_31, l_32, l_66, l_80, l_100, l_127, l_128, l_768, l_2304, l_2310, l_2316, l_2388, l_2394, l_2406, l_2418, l_2430, l_2558, l_2686, l_2814, l_2942, l_3070, l_3390, l_3394, l_3395, l_3396, l_3397, n_leT, n_leF, n_ltT, n_ltF, n_eqT, n_eqF, nI_add, pk_mul, n_sub, z_ldn, z_san, z_bs, z_b2s, z_b3s, z_ocN, z_ocS, z_oxL, z_oxR, z_scL, z_scR, ↓reduceIte, st_170, st_171, st_172, st_173, Nat.zero_add, Nat.add_zero, Nat.zero_lt_succ, true_and, and_true, eq_self, fX7_reflink_L2], by show x = r1; rw [hv]; exact b1, b2, b3⟩)
            obtain ⟨r2, M3⟩ := r
            have m2 : r2 = r1 := m2
            subst m2
            have m3 : ∀ k, M3 170 k = if 128 * d + (16 * f2 + i2) ≤ k ∧ k < 128 * d + (16 * f2 + i2) + l then nI (S (128 * d + (16 * f + i) + (k - (128 * d + (16 * f2 + i2))))) else M 170 k := m3
            have hN3 : z_N (M3 170) S1 := ⟨fun k hk => by rw [m3, hS1]; split; rfl; exact hN.1 k hk, fun k k1 k2 => by rw [m3, hS1, if_neg (by omega), if_neg (by omega)]; exact hN.2.1 k k1 k2, fun k k1 k2 => by rw [m3, hS1, if_neg (by omega), if_neg (by omega)]; exact hN.2.2 k k1 k2⟩
            obtain ⟨M4, o1, o2, o3, o4⟩ := m_tabs hn hI hS e3.2.2 hN3
            have hfr : ∀ a, a ≠ 170 → a ≠ 172 → a ≠ 173 → M4 a = z_st (z_st M2 174 0 r2) 169 4 (nI 0) a := fun a q1 q2 q3 => by rw [o4 a q1 q2, (show M3 a = _ from m4 a q1), u2 a q3]
            have hl128 := lost128 (S := S1)
            refine mutOK (M1 := M2) (v := r2) (M4 := M4) ?_ ?_ ?_ ?_ (z_fin (N := Mt 170) hN0 hR0 hI0 hB0 g2 o2 (z_I_mono g4) ?_ ?_ ?_ ?_ ?_ ?_)
            · unfold fX6_reflink
              simp (disch := first | omega | assumption) only [l_0, l_1, l_2, l_3, l_4, l_5, l_6, l_7, l_8, l_11, l_12, l_15, l_16, l_31, l_32, l_66, l_80, l_100, l_127, l_128, l_768, l_2304, l_2310, l_2316, l_2388, l_2394, l_2406, l_2418, l_2430, l_2558, l_2686, l_2814, l_2942, l_3070, l_3390, l_3394, l_3395, l_3396, l_3397, n_leT, n_leF, n_ltT, n_ltF, n_eqT, n_eqF, nI_add, pk_mul, n_sub, z_ldn, z_san, z_bs, z_b2s, z_b3s, z_ocN, z_ocS, z_oxL, z_oxR, z_scL, z_scR, ↓reduceIte, st_170, st_171, st_172, st_173, Nat.zero_add, Nat.add_zero, Nat.zero_lt_succ, true_and, and_true, eq_self, cDs_ok hR.2.1 hd h1, z_gdp (kd1_ds hd), cPl_ok hf hi, cPl_ok hf2 hi2, cFt_ok hi l1 l2, cFt_ok hi2 l1 l3, ht, e1, g1]
            · unfold fX7_reflink
              simp (disch := first | omega | assumption) only [l_0, l_1, l_2, l_3, l_4, l_5, l_6, l_7, l_8, l_11, l_12, l_15, l_16, l_31, l_32, l_66, l_80, l_100, l_127, l_128, l_768, l_2304, l_2310, l_2316, l_2388, l_2394, l_2406, l_2418, l_2430, l_2558, l_2686, l_2814, l_2942, l_3070, l_3390, l_3394, l_3395, l_3396, l_3397, n_leT, n_leF, n_ltT, n_ltF, n_eqT, n_eqF, nI_add, pk_mul, n_sub, z_ldn, z_san, z_bs, z_b2s, z_b3s, z_ocN, z_ocS, z_oxL, z_oxR, z_scL, z_scR, ↓reduceIte, st_170, st_171, st_172, st_173, Nat.zero_add, Nat.add_zero, Nat.zero_lt_succ, true_and, and_true, eq_self, mSet_ok hN2 hd h1, mSpot_ok hf hi, mSpot_ok hf2 hi2, mFt_ok hi l1 l2, mFt_ok hi2 l1 l3, mFits0, u1, m1, o1]
            · rw [hfr _ (by decide) (by decide) (by decide), s_s, u_s]
            · rw [hfr _ (by decide) (by decide) (by decide), s_n (by decide), s_s, u_s]
            · intro b hb
              rw [y_mk_o (by omega), hS _ (by omega)]
              exact hB b hb
            · intro k k1 k2
              rw [o3 k (by omega), m3, if_neg (by omega), hMt]
            · intro k k1 k2
              rw [o3 k (by omega), m3, if_neg (by omega), hMt]
            · intro a ha
              rw [hfr a (by omega) (by omega) (by omega), s_n (by omega), s_n (by omega)]
            · exact e5 _ (by decide) (by decide) (by omega) (by decide)
            · intro a a1 a2
              exact e5 _ (by omega) (by omega) (by omega) (by omega)
          · have h3 : (nI l < nI 1 ∨ nI (16 - i2) < nI l) := Or.inr (nI_lt (by omega) (by omega))
            refine mutNo h (k := nI 2) (b := nI 0) (by decide) ?_ ?_
            · unfold fX6_reflink
              simp (disch := first | omega | assumption) only [l_0, l_1, l_2, l_3, l_4, l_5, l_6, l_7, l_8, l_11, l_12, l_15, l_16, l_31, l_32, l_66, l_80, l_100, l_127, l_128, l_768, l_2304, l_2310, l_2316, l_2388, l_2394, l_2406, l_2418, l_2430, l_2558, l_2686, l_2814, l_2942, l_3070, l_3390, l_3394, l_3395, l_3396, l_3397, n_leT, n_leF, n_ltT, n_ltF, n_eqT, n_eqF, nI_add, pk_mul, n_sub, z_ldn, z_san, z_bs, z_b2s, z_b3s, z_ocN, z_ocS, z_oxL, z_oxR, z_scL, z_scR, ↓reduceIte, st_170, st_171, st_172, st_173, Nat.zero_add, Nat.add_zero, Nat.zero_lt_succ, true_and, and_true, eq_self, cDs_ok hR.2.1 hd h1, z_gdp (kd1_ds hd), cPl_ok hf hi, cPl_ok hf2 hi2, cFt_ok hi l1 l2, cFt_no hi2 h3]
              rfl
            · unfold fX7_reflink
              simp (disch := first | omega | assumption) only [l_0, l_1, l_2, l_3, l_4, l_5, l_6, l_7, l_8, l_11, l_12, l_15, l_16, l_31, l_32, l_66, l_80, l_100, l_127, l_128, l_768, l_2304, l_2310, l_2316, l_2388, l_2394, l_2406, l_2418, l_2430, l_2558, l_2686, l_2814, l_2942, l_3070, l_3390, l_3394, l_3395, l_3396, l_3397, n_leT, n_leF, n_ltT, n_ltF, n_eqT, n_eqF, nI_add, pk_mul, n_sub, z_ldn, z_san, z_bs, z_b2s, z_b3s, z_ocN, z_ocS, z_oxL, z_oxR, z_scL, z_scR, ↓reduceIte, st_170, st_171, st_172, st_173, Nat.zero_add, Nat.add_zero, Nat.zero_lt_succ, true_and, and_true, eq_self, mSet_ok hN1 hd h1, mSpot_ok hf hi, mSpot_ok hf2 hi2, mFt_ok hi l1 l2, mFt_no hi2 h3, mFits2]
        · refine mutNo h (k := nI 2) (b := nI 0) (by decide) ?_ ?_
          · unfold fX6_reflink
            simp (disch := first | omega | assumption) only [l_0, l_1, l_2, l_3, l_4, l_5, l_6, l_7, l_8, l_11, l_12, l_15, l_16, l_31, l_32, l_66, l_80, l_100, l_127, l_128, l_768, l_2304, l_2310, l_2316, l_2388, l_2394, l_2406, l_2418, l_2430, l_2558, l_2686, l_2814, l_2942, l_3070, l_3390, l_3394, l_3395, l_3396, l_3397, n_leT, n_leF, n_ltT, n_ltF, n_eqT, n_eqF, nI_add, pk_mul, n_sub, z_ldn, z_san, z_bs, z_b2s, z_b3s, z_ocN, z_ocS, z_oxL, z_oxR, z_scL, z_scR, ↓reduceIte, st_170, st_171, st_172, st_173, Nat.zero_add, Nat.add_zero, Nat.zero_lt_succ, true_and, and_true, eq_self, cDs_ok hR.2.1 hd h1, z_gdp (kd1_ds hd), cPl_ok hf hi, cPl_ok hf2 hi2, cFt_no hi h3]
            rfl
          · unfold fX7_reflink
            simp (disch := first | omega | assumption) only [l_0, l_1, l_2, l_3, l_4, l_5, l_6, l_7, l_8, l_11, l_12, l_15, l_16, l_31, l_32, l_66, l_80, l_100, l_127, l_128, l_768, l_2304, l_2310, l_2316, l_2388, l_2394, l_2406, l_2418, l_2430, l_2558, l_2686, l_2814, l_2942, l_3070, l_3390, l_3394, l_3395, l_3396, l_3397, n_leT, n_leF, n_ltT, n_ltF, n_eqT, n_eqF, nI_add, pk_mul, n_sub, z_ldn, z_san, z_bs, z_b2s, z_b3s, z_ocN, z_ocS, z_oxL, z_oxR, z_scL, z_scR, ↓reduceIte, st_170, st_171, st_172, st_173, Nat.zero_add, Nat.add_zero, Nat.zero_lt_succ, true_and, and_true, eq_self, mSet_ok hN1 hd h1, mSpot_ok hf hi, mSpot_ok hf2 hi2, mFt_no hi h3, mFits2]
      · refine mutNo h (k := nI 1) (b := nI 0) (by decide) ?_ ?_
        · unfold fX6_reflink
          simp (disch := first | omega | assumption) only [l_0, l_1, l_2, l_3, l_4, l_5, l_6, l_7, l_8, l_11, l_12, l_15, l_16, l_31, l_32, l_66, l_80, l_100, l_127, l_128, l_768, l_2304, l_2310, l_2316, l_2388, l_2394, l_2406, l_2418, l_2430, l_2558, l_2686, l_2814, l_2942, l_3070, l_3390, l_3394, l_3395, l_3396, l_3397, n_leT, n_leF, n_ltT, n_ltF, n_eqT, n_eqF, nI_add, pk_mul, n_sub, z_ldn, z_san, z_bs, z_b2s, z_b3s, z_ocN, z_ocS, z_oxL, z_oxR, z_scL, z_scR, ↓reduceIte, st_170, st_171, st_172, st_173, Nat.zero_add, Nat.add_zero, Nat.zero_lt_succ, true_and, and_true, eq_self, cDs_ok hR.2.1 hd h1, z_gdp (kd1_ds hd), cPl_ok hf hi, cPl_no h22]
        · obtain ⟨s, hs⟩ := mIn_some a6 (nI 1) (nI (16 - i)) M
          obtain ⟨u, hu⟩ := mIn_some a6 (nI 1) (nI 16 - a5) M
          unfold fX7_reflink
          by_cases q : s = nI 0 <;> by_cases q2 : u = nI 0 <;> simp (disch := first | omega | assumption) only [l_0, l_1, l_2, l_3, l_4, l_5, l_6, l_7, l_8, l_11, l_12, l_15, l_16, l_31, l_32, l_66, l_80, l_100, l_127, l_128, l_768, l_2304, l_2310, l_2316, l_2388, l_2394, l_2406, l_2418, l_2430, l_2558, l_2686, l_2814, l_2942, l_3070, l_3390, l_3394, l_3395, l_3396, l_3397, n_leT, n_leF, n_ltT, n_ltF, n_eqT, n_eqF, nI_add, pk_mul, n_sub, z_ldn, z_san, z_bs, z_b2s, z_b3s, z_ocN, z_ocS, z_oxL, z_oxR, z_scL, z_scR, ↓reduceIte, st_170, st_171, st_172, st_173, Nat.zero_add, Nat.add_zero, Nat.zero_lt_succ, true_and, and_true, eq_self, mSet_ok hN1 hd h1, mSpot_ok hf hi, mSpot_no h22, hs, hu, q, q2, mFits1]
    · refine mutNo h (k := nI 1) (b := nI 0) (by decide) ?_ ?_
      · unfold fX6_reflink
        simp (disch := first | omega | assumption) only [l_0, l_1, l_2, l_3, l_4, l_5, l_6, l_7, l_8, l_11, l_12, l_15, l_16, l_31, l_32, l_66, l_80, l_100, l_127, l_128, l_768, l_2304, l_2310, l_2316, l_2388, l_2394, l_2406, l_2418, l_2430, l_2558, l_2686, l_2814, l_2942, l_3070, l_3390, l_3394, l_3395, l_3396, l_3397, n_leT, n_leF, n_ltT, n_ltF, n_eqT, n_eqF, nI_add, pk_mul, n_sub, z_ldn, z_san, z_bs, z_b2s, z_b3s, z_ocN, z_ocS, z_oxL, z_oxR, z_scL, z_scR, ↓reduceIte, st_170, st_171, st_172, st_173, Nat.zero_add, Nat.add_zero, Nat.zero_lt_succ, true_and, and_true, eq_self, cDs_ok hR.2.1 hd h1, z_gdp (kd1_ds hd), cPl_no h2]
      · obtain ⟨s, hs⟩ := mIn_some a6 (nI 1) (nI 16 - a3) M
        obtain ⟨u, hu⟩ := mIn_some a6 (nI 1) (nI 16 - a5) M
        unfold fX7_reflink
        by_cases q : s = nI 0 <;> by_cases q2 : u = nI 0 <;> simp (disch := first | omega | assumption) only [l_0, l_1, l_2, l_3, l_4, l_5, l_6, l_7, l_8, l_11, l_12, l_15, l_16, l_31, l_32, l_66, l_80, l_100, l_127, l_128, l_768, l_2304, l_2310, l_2316, l_2388, l_2394, l_2406, l_2418, l_2430, l_2558, l_2686, l_2814, l_2942, l_3070, l_3390, l_3394, l_3395, l_3396, l_3397, n_leT, n_leF, n_ltT, n_ltF, n_eqT, n_eqF, nI_add, pk_mul, n_sub, z_ldn, z_san, z_bs, z_b2s, z_b3s, z_ocN, z_ocS, z_oxL, z_oxR, z_scL, z_scR, ↓reduceIte, st_170, st_171, st_172, st_173, Nat.zero_add, Nat.add_zero, Nat.zero_lt_succ, true_and, and_true, eq_self, mSet_ok hN1 hd h1, mSpot_no h2, hs, hu, q, q2, mFits1]
  · refine mutNo h (k := nI 1) (b := nI 0) (by decide) ?_ ?_
    · unfold fX6_reflink
      simp (disch := first | omega | assumption) only [l_0, l_1, l_2, l_3, l_4, l_5, l_6, l_7, l_8, l_11, l_12, l_15, l_16, l_31, l_32, l_66, l_80, l_100, l_127, l_128, l_768, l_2304, l_2310, l_2316, l_2388, l_2394, l_2406, l_2418, l_2430, l_2558, l_2686, l_2814, l_2942, l_3070, l_3390, l_3394, l_3395, l_3396, l_3397, n_leT, n_leF, n_ltT, n_ltF, n_eqT, n_eqF, nI_add, pk_mul, n_sub, z_ldn, z_san, z_bs, z_b2s, z_b3s, z_ocN, z_ocS, z_oxL, z_oxR, z_scL, z_scR, ↓reduceIte, st_170, st_171, st_172, st_173, Nat.zero_add, Nat.add_zero, Nat.zero_lt_succ, true_and, and_true, eq_self, cDs_no hR.2.1 h1]
    · obtain ⟨s, hs⟩ := mIn_some a6 (nI 1) (nI 16 - a3) M
      obtain ⟨u, hu⟩ := mIn_some a6 (nI 1) (nI 16 - a5) M
      unfold fX7_reflink
      by_cases q : s = nI 0 <;> by_cases q2 : u = nI 0 <;> simp (disch := first | omega | assumption) only [l_0, l_1, l_2, l_3, l_4, l_5, l_6, l_7, l_8, l_11, l_12, l_15, l_16, l_31, l_32, l_66, l_80, l_100, l_127, l_128, l_768, l_2304, l_2310, l_2316, l_2388, l_2394, l_2406, l_2418, l_2430, l_2558, l_2686, l_2814, l_2942, l_3070, l_3390, l_3394, l_3395, l_3396, l_3397, n_leT, n_leF, n_ltT, n_ltF, n_eqT, n_eqF, nI_add, pk_mul, n_sub, z_ldn, z_san, z_bs, z_b2s, z_b3s, z_ocN, z_ocS, z_oxL, z_oxR, z_scL, z_scR, ↓reduceIte, st_170, st_171, st_172, st_173, Nat.zero_add, Nat.add_zero, Nat.zero_lt_succ, true_and, and_true, eq_self, mSet_no hN1 h1, hs, hu, q, q2, mFits1]
