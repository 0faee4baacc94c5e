/-! ===== the law's snapshots: destroy, clone ===== -/
/-- table u of the law's seven, among the class's -/
def q_kp (u : Nat) : Nat := 128 * (if u < 3 then u else u + 3)
theorem kp_d {d : Nat} (h : d < 3) : q_kp d = 128 * d := by
  unfold q_kp
  rw [if_pos h]
theorem kp_s {s : Nat} : q_kp (3 + s) = 768 + 128 * s := by
  unfold q_kp
  rw [if_neg (by omega)]
  omega
theorem kp_ps {p : Nat} : q_ps p = q_kp (p / 4) + q_pl (p % 4) := by
  unfold q_ps q_kp
  by_cases c : p < 12
  · rw [if_pos c, if_pos (by omega)]
  · rw [if_neg c, if_neg (by omega)]
theorem kp_2 {u v p q : Nat} (hp : p < 128) (hq : q < 128) (h : q_kp u + p = q_kp v + q) : u = v ∧ p = q := by
  unfold q_kp at h
  split at h <;> split at h <;> omega
theorem kp_le {u : Nat} (hu : u < 7) : q_kp u + 128 ≤ 2304 := by
  unfold q_kp
  split <;> omega
/-- a table anew -/
theorem L_x_tb {X : Nat} {M M' : zM} {S S1 : Nat → Nat} {u : Nat} {h : Nat → Nat} {g : Nat → Int32} (hX : L_x X M S) (hu : u < 7) (hM : ∀ p, M' X p = if 4 * u ≤ p ∧ p < 4 * u + 4 then g (p - 4 * u) else M X p) (hS : ∀ k, k < 2304 → S1 k = if q_kp u ≤ k ∧ k < q_kp u + 128 then h (k - q_kp u) else S k) (hg : ∀ j, j < 4 → g j = nI (h (q_pl j))) : L_x X M' S1 := fun p hp => by
  have hpl := pl_128 (k := p % 4) (by omega)
  rw [hM, hS _ (ps_2304 hp)]
  by_cases c : 4 * u ≤ p ∧ p < 4 * u + 4
  · have e1 : p / 4 = u := by omega
    have e2 : q_ps p = q_kp u + q_pl (p % 4) := by rw [kp_ps, e1]
    rw [if_pos c, e2, if_pos ⟨by omega, by omega⟩, Nat.add_sub_cancel_left, hg _ (by omega), show p - 4 * u = p % 4 by omega]
  · rw [if_neg c, if_neg (fun x => c (by
      have e := kp_ps (p := p)
      have := kp_2 (u := p / 4) (v := u) (p := q_pl (p % 4)) (q := q_ps p - q_kp u) hpl (by omega) (by omega)
      omega))]
    exact hX p hp
theorem off_tb {S S1 : Nat → Nat} {u : Nat} {h : Nat → Nat} (h0 : q_off S) (hu : u < 7) (hS : ∀ k, k < 2304 → S1 k = if q_kp u ≤ k ∧ k < q_kp u + 128 then h (k - q_kp u) else S k) (hh : ∀ p, p < 128 → (∀ j, j < 4 → q_pl j ≠ p) → h p = 0) : q_off S1 := fun k hk hn => by
  rw [hS k hk]
  by_cases c : q_kp u ≤ k ∧ k < q_kp u + 128
  · rw [if_pos c]
    refine hh _ (by omega) (fun j hj e => hn (4 * u + j) (by omega) ?_)
    rw [kp_ps, show (4 * u + j) / 4 = u by omega, show (4 * u + j) % 4 = j by omega, e]
    omega
  · rw [if_neg c]
    exact h0 k hk hn
theorem lost_0 {S S1 : Nat → Nat} (hc : ∀ b, b < 128 → S (2814 + b) = cntN S (b + 1) 2304) (h : ∀ k, k < 2304 → S k ≠ 0 → S1 k = S k) (h2 : ∀ b, b < 128 → S1 (2814 + b) = S (2814 + b)) : sumN (lostN S1) 128 = 0 := sumN_0 (fun b hb => by
  unfold lostN
  refine if_neg (fun x => ?_)
  obtain ⟨x1, x2⟩ := x
  rw [h2 b hb, hc b hb] at x2
  obtain ⟨k, hk, e⟩ := cntN_pos.mp x2
  exact absurd x1 (cntN_pos.mpr ⟨k, hk, by rw [h k hk (by omega), e]⟩))
theorem drop_f {S : Nat → Nat} {o p s : Nat} (ho : o < 6) (hp : p < S (2388 + o)) (hc : S (2388 + o) ≤ 12) (hs : s < 12) : (∀ k, k < 2304 → dropS S o p s k = if 768 + 128 * s ≤ k ∧ k < 768 + 128 * s + 128 then 0 else S k) ∧ (∀ k, (2304 ≤ k ∧ k < 2316) ∨ 2406 ≤ k → dropS S o p s k = S k) ∧ ∀ t, t < 12 → dropS S o p s (2394 + t) = if t = s then 0 else S (2394 + t) := by
  refine ⟨fun k hk => ?_, fun k hk => ?_, fun t ht => ?_⟩
  · unfold dropS
    by_cases c : 768 + 128 * s ≤ k ∧ k < 768 + 128 * s + 128
    · rw [if_pos c, rng_in c.1 c.2]
    · rw [if_neg c, rng_out (by omega)]
      exact (if_neg (by omega)).trans ((rng_out (by omega)).trans (if_neg (by omega)))
  · unfold dropS
    rw [rng_out (by omega)]
    exact (if_neg (by omega)).trans ((rng_out (by omega)).trans (if_neg (by omega)))
  · unfold dropS
    rw [rng_out (by omega)]
    by_cases c : t = s
    · rw [if_pos c, c]
      exact if_pos rfl
    · rw [if_neg c]
      exact (if_neg (by omega)).trans ((rng_out (by omega)).trans (if_neg (by omega)))
set_option maxHeartbeats 2000000 in
theorem f_sdes {n : Nat} {M : zM} {N N0 : Nat → Int32} {S S0 : Nat → Nat} (hn : n < 512) (hQ : Q_st n M N N0 S S0) {s wy : Nat} (hs4 : s < 4) (h0 : S (2394 + s) ≠ 0) (hw : wy < 12) : ∃ M3 S1, fL_snapshots 0 169 170 171 (nI wy) (nI s) M = some (nI 1, M3) ∧ Q_st n M3 N N0 S1 S0 := by
  have hR := hQ.1.1
  have hI := hQ.1.2.1
  have hs := hQ.1.2.2.1
  obtain ⟨hX, hB, hM⟩ := hQ.2.1
  have g1 := (hM.2.2 s hs4).1
  have g2 := ((hM.2.2 s hs4).2 h0).1
  have hO := f_isO hM hI hn hs hs4 h0
  have hor := orN_1 (S := S) (s := s) (i := 6)
  have hb := I_nb hI s (by omega)
  have e1 : 1 ≤ S (2394 + s) := by omega
  by_cases c : orN S s 6 = 0
  · obtain ⟨M72, d1, d2, d3, d4⟩ := f_drop (M := M) (X := 169) (C := 171) hs4 (by decide)
    obtain ⟨S1, M74, o, p, k1, k2, k3, k4, k5, k6, k7, k8, k9⟩ := k_dsnap hn (R1_fr hR (fun a ha => d4 a (by omega) (by omega))) hI (s := s) (by omega) h0 c
    obtain ⟨v1, v2, v3⟩ := drop_f (S := S) (s := s) k2 k3 (I_ord hI o k2).1 (by omega)
    rw [← k5] at v1 v2 v3
    have hX1 : L_x 169 M74 S1 := L_x_cg (L_x_tb (u := 3 + s) (h := fun _ => 0) (g := fun _ => nI 0) hX (by omega) (fun p => by rw [show 4 * (3 + s) = 12 + 4 * s by omega]; exact d3 p) (by rw [kp_s]; exact v1) (fun j hj => rfl)) (k9 169 (by decide) (by decide) (by decide))
    have hM74 : ∀ k, M74 171 k = if k = 12 + s then nI 0 else M 171 k := fun k => by
      rw [k9 171 (by decide) (by decide) (by decide), d2]
      rfl
    have hM1 : L_m 171 M74 S1 := by
      obtain ⟨⟨m1, m2, m3⟩, m4, m5⟩ := hM
      have ne := (orN_0 (S := S) (s := s) (i := 6)).mp c
      refine ⟨⟨?_, ?_, ?_⟩, fun d hd => ?_, fun t ht => ?_⟩
      · rw [hM74, if_neg (by omega), v2 _ (Or.inr (by decide))]; exact m1
      · rw [hM74, if_neg (by omega), v2 _ (Or.inr (by decide))]; exact m2
      · rw [hM74, if_neg (by omega), v2 _ (Or.inr (by decide))]; exact m3
      · have e : z_onum S1 d = z_onum S d := by
          have h6 := ne d (by omega)
          have h7 := (I_ori hI d (by omega)).1
          unfold z_onum
          rw [v2 (2310 + d) (by omega)]
          by_cases z : S (2310 + d) = 0
          · rw [if_pos z, if_pos z]
          · rw [if_neg z, if_neg z, v3 _ (by omega), if_neg (by omega)]
        rw [hM74, if_neg (by omega), hM74, if_neg (by omega), e, v2 _ (by omega)]
        exact m4 d hd
      · rw [hM74, hM74, if_neg (c := 16 + t = 12 + s) (by omega), hM74, if_neg (c := 20 + t = 12 + s) (by omega), v3 t (by omega), v2 (2418 + t) (by omega), v2 (2406 + t) (by omega)]
        by_cases z : t = s
        · rw [if_pos z, if_pos (by omega)]
          exact ⟨rfl, fun x => absurd rfl x⟩
        · rw [if_neg z, if_neg (by omega)]
          exact m5 t ht
    have hoff : q_off S1 := off_tb (u := 3 + s) (h := fun _ => 0) hs.1 (by omega) (by rw [kp_s]; exact v1) (fun _ _ _ => rfl)
    have hle : ∀ k, k < 2304 → S1 k = 0 ∨ S1 k = S k := fun k hk => by
      rw [v1 k hk]
      split
      · exact Or.inl rfl
      · exact Or.inr rfl
    have ho := (I_bnd hI).2.1
    have hB1 : L_b 170 M74 N S1 := fun i hi => by
      rw [v2 _ (by omega), v2 _ (by omega), v2 _ (by omega), v2 _ (by omega)]
      exact L_b_cg hB (by rw [k9 170 (by decide) (by decide) (by decide), d4 170 (by decide) (by decide)]) i hi
    obtain ⟨M78, w1, w2, w3⟩ := f_settle (C := 171) hX1 hoff (fun k hk => by
      have := I_tab hI k hk
      rcases hle k hk with q | q <;> omega) hB1 hM1.1.1 (by rw [v2 _ (by omega)]; omega) (fun b hb q => by rw [v2 _ (by omega)]; exact (hs.2.2.2 b hb q).1) (by decide) (by decide)
    have hst : Q_st n M78 N N0 (y_mk S1) S0 := st_mk hQ (R1_fr k7 (fun a ha => w3 a (by omega))) k8 (fun a q1 q2 => by rw [w3 a (by omega), k9 a q1 (by omega) (by omega)]; exact d4 a (by omega) (by omega)) (fun a q1 q2 => by rw [w3 a (by omega), k9 a (by omega) (by omega) (by omega)]; exact d4 a (by omega) (by omega)) (L_x_cg hX1 (w3 169 (by decide))) w2 (L_m_cg hM1 (w3 171 (by decide))) hoff (fun d q1 q2 => by rw [v2 _ (by omega)]; exact hs.2.1 d q1 q2) (fun t q1 q2 => by rw [v3 t (by omega), if_neg (by omega)]; exact hs.2.2.1 t q1 q2) (fun b hb => Or.inl (v2 _ (by omega))) (fun k q1 q2 => v2 k (by omega)) (fun k q1 q2 => v2 k (by omega)) (v2 _ (by omega)) (fun k _ => rfl) (fun k hk => by
      rcases hle k hk with q | q
      · exact Or.inl q
      · exact Or.inr (Or.inl ⟨k, hk, q.symm⟩))
    refine ⟨M78, y_mk S1, ?_, hst⟩
    have hlb := lost_b (S := S1)
    rw [c] at hO
    unfold fL_snapshots fL_destroyed
    simp (disch := first | omega | assumption) only [l_0, l_1, l_2, l_3, l_4, l_5, l_6, l_7, l_8, l_11, l_12, l_15, l_16, l_31, l_32, l_66, l_80, l_100, l_127, l_128, l_768, l_2304, l_2310, l_2316, l_2388, l_2394, l_2406, l_2418, l_2430, l_2558, l_2686, l_2814, l_2942, l_3070, l_3390, l_3394, l_3395, l_3396, l_3397, n_leT, n_leF, n_ltT, n_ltF, n_eqT, n_eqF, nI_add, pk_mul, n_sub, z_ldn, z_san, z_bs, z_b2s, z_b3s, z_ocN, z_ocS, z_oxL, z_oxR, z_scL, z_scR, ↓reduceIte, Nat.zero_add, Nat.add_zero, Nat.zero_lt_succ, true_and, and_true, eq_self, n_div, n_mod, z_ldJn, z_saJn, f_blk, f_plc, l_9, l_10, l_13, l_14, l_17, l_18, l_19, l_20, l_21, l_22, l_24, l_28, l_60, l_61, l_62, l_64, l_98, l_99, z_ntR, z_ntwR, z_bz0, z_bz1, g1, g2, hO, d1, k6, w1]
  · have k1 := k_dsnap_no hn hR hI (s := s) (by omega) h0 c
    refine ⟨M, S, ?_, hQ⟩
    have c1 : orN S s 6 = 1 := by omega
    rw [c1] at hO
    unfold fL_snapshots fL_destroyed
    simp (disch := first | omega | assumption) only [l_0, l_1, l_2, l_3, l_4, l_5, l_6, l_7, l_8, l_11, l_12, l_15, l_16, l_31, l_32, l_66, l_80, l_100, l_127, l_128, l_768, l_2304, l_2310, l_2316, l_2388, l_2394, l_2406, l_2418, l_2430, l_2558, l_2686, l_2814, l_2942, l_3070, l_3390, l_3394, l_3395, l_3396, l_3397, n_leT, n_leF, n_ltT, n_ltF, n_eqT, n_eqF, nI_add, pk_mul, n_sub, z_ldn, z_san, z_bs, z_b2s, z_b3s, z_ocN, z_ocS, z_oxL, z_oxR, z_scL, z_scR, ↓reduceIte, Nat.zero_add, Nat.add_zero, Nat.zero_lt_succ, true_and, and_true, eq_self, n_div, n_mod, z_ldJn, z_saJn, f_blk, f_plc, l_9, l_10, l_13, l_14, l_17, l_18, l_19, l_20, l_21, l_22, l_24, l_28, l_60, l_61, l_62, l_64, l_98, l_99, z_ntR, z_ntwR, z_bz0, z_bz1, g1, g2, hO, k1]
