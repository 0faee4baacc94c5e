/-! ===== the law's places ===== -/
theorem R1_fr {M M' : zM} {N : Nat → Int32} {S : Nat → Nat} (h : z_R1 1 M N S) (hf : ∀ a, a < 84 → M' a = M a) : z_R1 1 M' N S := z_R1_cg h (fun k q1 q2 _ => hf k (by omega))
theorem onum_S {S S1 : Nat → Nat} {d : Nat} (hd : d < 6) (h : ∀ k, 2304 ≤ k → S1 k = S k) : z_onum S1 d = z_onum S d := by
  unfold z_onum
  rw [h (2310 + d) (by omega), h (2394 + (S (2310 + d) - 1)) (by omega)]
theorem L_m_S {C : Nat} {M : zM} {S S1 : Nat → Nat} (hC : L_m C M S) (h : ∀ k, 2304 ≤ k → S1 k = S k) : L_m C M S1 := by
  obtain ⟨⟨h1, h2, h3⟩, h4, h5⟩ := hC
  refine ⟨⟨by rw [h _ (by decide)]; exact h1, by rw [h _ (by decide)]; exact h2, by rw [h _ (by decide)]; exact h3⟩, fun d hd => ?_, fun s hs => ?_⟩
  · rw [h _ (by omega), onum_S (by omega) h]
    exact h4 d hd
  · rw [h _ (by omega), h _ (by omega), h _ (by omega)]
    exact h5 s hs
theorem L_b_S {B : Nat} {M : zM} {N : Nat → Int32} {S S1 : Nat → Nat} (hB : L_b B M N S) (h : ∀ k, 2304 ≤ k → S1 k = S k) : L_b B M N S1 := fun i hi => by
  rw [h _ (by omega), h _ (by omega), h _ (by omega), h _ (by omega)]
  exact hB i hi
theorem st_mk2 {n : Nat} {M M3 : zM} {N N0 : Nat → Int32} {S S0 S1 : Nat → Nat} (hQ : Q_st n M N N0 S S0) (hR : z_R1 1 M3 N (y_mk S1)) (hI : z_I n (y_mk S1)) (hf : ∀ a, 84 ≤ a → a < 167 → M3 a = M a) (hf2 : ∀ a, 171 ≤ a → a < 175 → M3 a = M a) (hX : L_x 169 M3 S1) (hB : L_b 170 M3 N (y_mk S1)) (hoff : q_off S1) (h2 : ∀ k, 2304 ≤ k → S1 k = S k) (hk : ∀ k, k < 2304 → S1 k = 0 ∨ ∃ j, j < 2304 ∧ S j = S1 k) : Q_st n M3 N N0 (y_mk S1) S0 :=
  st_mk hQ hR hI hf (fun a q1 q2 => hf2 a (by omega) q2) hX hB (L_m_S (L_m_cg hQ.2.1.2.2 (hf2 171 (by decide) (by decide))) h2) hoff (fun d q1 q2 => by rw [h2 _ (by omega)]; exact hQ.1.2.2.1.2.1 d q1 q2) (fun s q1 q2 => by rw [h2 _ (by omega)]; exact hQ.1.2.2.1.2.2.1 s q1 q2) (fun b _ => Or.inl (h2 _ (by omega))) (fun k q1 _ => h2 k (by omega)) (fun k q1 _ => h2 k (by omega)) (h2 _ (by decide)) (fun k _ => rfl) (fun k q1 => by
    rcases hk k q1 with q | q
    · exact Or.inl q
    · exact Or.inr (Or.inl q))
/-- places of a table, a range of them -/
theorem L_x_rg {X : Nat} {M M' : zM} {S S1 : Nat → Nat} {d f i j l : Nat} {g : Nat → Nat} (hj : j = 2 * f + i) (hX : L_x X M S) (hd : d < 3) (hf : f < 2) (hl : i + l ≤ 2) (hM : ∀ p, M' X p = if 4 * d + j ≤ p ∧ p < 4 * d + j + l then nI (g (p - (4 * d + j))) else M X p) (hS : ∀ k, S1 k = if 128 * d + (16 * f + i) ≤ k ∧ k < 128 * d + (16 * f + i) + l then g (k - (128 * d + (16 * f + i))) else S k) : L_x X M' S1 := fun p hp => by
  subst hj
  rw [hM]
  by_cases c : 4 * d + (2 * f + i) ≤ p ∧ p < 4 * d + (2 * f + i) + l
  · rw [if_pos c]
    have e : q_ps p = 128 * d + (16 * f + i) + (p - (4 * d + (2 * f + i))) := by
      have e1 : p = 4 * d + (p - 4 * d) := by omega
      rw [e1, ps_d hd (by omega)]
      unfold q_pl
      omega
    rw [hS, e, if_pos ⟨by omega, by omega⟩, Nat.add_sub_cancel_left]
  · rw [if_neg c, hS, if_neg (fun x => c (by
      obtain ⟨x1, x2⟩ := x
      have e1 : q_ps (4 * d + (2 * f + i + (q_ps p - (128 * d + (16 * f + i))))) = q_ps p := by
        rw [ps_d hd (by omega)]
        unfold q_pl
        omega
      have e2 := ps_inj (by omega) hp e1
      omega))]
    exact hX p hp
theorem lost_b {S : Nat → Nat} : sumN (lostN S) 128 ≤ 128 := by
  have := sumN_le (g := lostN S) (c := 1) (n := 128) (fun i hi => by
    unfold lostN
    split <;> decide)
  omega
theorem off_rg {S S1 : Nat → Nat} {d P l : Nat} {g : Nat → Nat} (h0 : q_off S) (hS : ∀ k, S1 k = if 128 * d + P ≤ k ∧ k < 128 * d + P + l then g k else S k) (hq : ∀ k, 128 * d + P ≤ k → k < 128 * d + P + l → ∃ j, j < 28 ∧ q_ps j = k) : q_off S1 := fun k hk hn => by
  rw [hS]
  by_cases c : 128 * d + P ≤ k ∧ k < 128 * d + P + l
  · obtain ⟨j, hj, e⟩ := hq k c.1 c.2
    exact absurd e (hn j hj)
  · rw [if_neg c]
    exact h0 k hk hn
theorem rg_q {d f i l : Nat} (hd : d < 3) (hf : f < 2) (hl : i + l ≤ 2) : ∀ k, 128 * d + (16 * f + i) ≤ k → k < 128 * d + (16 * f + i) + l → ∃ j, j < 28 ∧ q_ps j = k := fun k h1 h2 => ⟨4 * d + (2 * f + i + (k - (128 * d + (16 * f + i)))), by omega, by
  rw [ps_d hd (by omega)]
  unfold q_pl
  omega⟩
set_option maxHeartbeats 1000000 in
theorem f_punch {n : Nat} {M : zM} {N N0 : Nat → Int32} {S S0 : Nat → Nat} (hn : n < 512) (hQ : Q_st n M N N0 S S0) {d z : Nat} (hd : d < 3) (h1 : S (2304 + d) = 1) (hz : z < 10000) : ∃ M3 S1, fL_places 0 169 170 171 (nI 7) (nI d) (nI z) M = some (nI 1, M3) ∧ Q_st n M3 N N0 S1 S0 := by
  have hR := hQ.1.1
  have hI := hQ.1.2.1
  have hs := hQ.1.2.2.1
  obtain ⟨hX, hB, hC⟩ := hQ.2.1
  obtain ⟨j, hz4⟩ : ∃ j, z % 4 = j := ⟨_, rfl⟩
  obtain ⟨f, hf⟩ : ∃ f, j / 2 = f := ⟨_, rfl⟩
  obtain ⟨i, hi⟩ : ∃ i, j % 2 = i := ⟨_, rfl⟩
  have hjm : j - f * 2 = i := by omega
  have hdm : z / 4 / (2 - i) * (2 - i) ≤ z / 4 := Nat.div_mul_le_self _ _
  have hm := Nat.mod_lt (z / 4) (y := 2 - i) (by omega)
  obtain ⟨l, hl⟩ : ∃ l, 1 + z / 4 % (2 - i) = l := ⟨_, rfl⟩
  have hj : j = 2 * f + i := by omega
  have hil : i + l ≤ 2 := by omega
  have hf2 : f < 2 := by omega
  have pl : ∀ q, q < l → q_ps (4 * d + j + q) = 128 * d + (16 * f + i) + q := fun q hq => by
    rw [Nat.add_assoc, ps_d hd (by omega)]
    unfold q_pl
    omega
  obtain ⟨⟨x7, M8⟩, v1, v2, v3, v4⟩ := z_loopA (f := fun s : Int32 × Int32 × zM => fL_places_L1 169 (nI d) (nI z) s.1 s.2.1 s.2.2) (fun k x M' => x = nI (sumN (fun q => if S (128 * d + (16 * f + i) + q) = 0 then 0 else 1) k) ∧ (∀ a, a ≠ 169 → M' a = M a) ∧ ∀ p, M' 169 p = if 4 * d + j ≤ p ∧ p < 4 * d + j + k then nI 0 else M 169 p) (fun r => r.1 = nI (sumN (fun q => if S (128 * d + (16 * f + i) + q) = 0 then 0 else 1) l) ∧ (∀ a, a ≠ 169 → r.2 a = M a) ∧ ∀ p, r.2 169 p = if 4 * d + j ≤ p ∧ p < 4 * d + j + l then nI 0 else M 169 p) 0 l (by omega) (x := nI 0) (s := nI 0) (M := M) rfl ⟨rfl, fun a _ => rfl, fun p => by rw [if_neg (by omega)]⟩ (fun k x M' hk hh => by
    obtain ⟨q1, q2, q3⟩ := hh
    subst q1
    rw [Nat.zero_add]
    have g := q3 (4 * d + j + k)
    rw [if_neg (by omega), hX _ (by omega), pl k hk] at g
    have hb := I_tab hI (128 * d + (16 * f + i) + k) (by omega)
    have hsum : sumN (fun q => if S (128 * d + (16 * f + i) + q) = 0 then 0 else 1) (k + 1) = sumN (fun q => if S (128 * d + (16 * f + i) + q) = 0 then 0 else 1) k + (if S (128 * d + (16 * f + i) + k) = 0 then 0 else 1) := rfl
    have hst : ∀ p, z_st M' 169 (4 * d + j + k) (nI 0) 169 p = if 4 * d + j ≤ p ∧ p < 4 * d + j + (k + 1) then nI 0 else M 169 p := fun p => by
      rw [s_s]
      by_cases c : p = 4 * d + j + k
      · rw [c, u_s, if_pos ⟨by omega, by omega⟩]
      · rw [u_n c, q3]
        by_cases c2 : 4 * d + j ≤ p ∧ p < 4 * d + j + k
        · rw [if_pos c2, if_pos ⟨by omega, by omega⟩]
        · rw [if_neg c2, if_neg (by omega)]
    refine ⟨_, z_st M' 169 (4 * d + j + k) (nI 0), ?_, rfl, fun a ha => by rw [s_n ha]; exact q2 a ha, hst⟩
    rw [hsum]
    by_cases c : S (128 * d + (16 * f + i) + k) = 0
    · rw [if_pos c]
      rw [c] at g
      simp (disch := first | omega | assumption) only [l_0, l_1, l_2, l_3, l_4, l_5, l_6, l_7, l_8, l_11, l_12, l_15, l_16, l_31, l_32, l_66, l_80, l_100, l_127, l_128, l_768, l_2304, l_2310, l_2316, l_2388, l_2394, l_2406, l_2418, l_2430, l_2558, l_2686, l_2814, l_2942, l_3070, l_3390, l_3394, l_3395, l_3396, l_3397, n_leT, n_leF, n_ltT, n_ltF, n_eqT, n_eqF, nI_add, pk_mul, n_sub, z_ldn, z_san, z_bs, z_b2s, z_b3s, z_ocN, z_ocS, z_oxL, z_oxR, z_scL, z_scR, ↓reduceIte, Nat.zero_add, Nat.add_zero, Nat.zero_lt_succ, true_and, and_true, eq_self, n_div, n_mod, z_ldJn, z_saJn, f_blk, f_plc, l_9, l_10, l_13, l_14, l_17, l_18, l_19, l_20, l_21, l_22, l_24, l_28, l_60, l_61, l_62, l_64, l_98, l_99, z_ntR, z_ntwR, z_bz0, z_bz1, fL_places_L1, hl, hz4, hf, hi, hjm, g]
    · rw [if_neg c]
      simp (disch := first | omega | assumption) only [l_0, l_1, l_2, l_3, l_4, l_5, l_6, l_7, l_8, l_11, l_12, l_15, l_16, l_31, l_32, l_66, l_80, l_100, l_127, l_128, l_768, l_2304, l_2310, l_2316, l_2388, l_2394, l_2406, l_2418, l_2430, l_2558, l_2686, l_2814, l_2942, l_3070, l_3390, l_3394, l_3395, l_3396, l_3397, n_leT, n_leF, n_ltT, n_ltF, n_eqT, n_eqF, nI_add, pk_mul, n_sub, z_ldn, z_san, z_bs, z_b2s, z_b3s, z_ocN, z_ocS, z_oxL, z_oxR, z_scL, z_scR, ↓reduceIte, Nat.zero_add, Nat.add_zero, Nat.zero_lt_succ, true_and, and_true, eq_self, n_div, n_mod, z_ldJn, z_saJn, f_blk, f_plc, l_9, l_10, l_13, l_14, l_17, l_18, l_19, l_20, l_21, l_22, l_24, l_28, l_60, l_61, l_62, l_64, l_98, l_99, z_ntR, z_ntwR, z_bz0, z_bz1, fL_places_L1, hl, hz4, hf, hi, hjm, g]) (fun x M' hh => ⟨(x, M'), by simp (disch := first | omega | assumption) only [l_0, l_1, l_2, l_3, l_4, l_5, l_6, l_7, l_8, l_11, l_12, l_15, l_16, l_31, l_32, l_66, l_80, l_100, l_127, l_128, l_768, l_2304, l_2310, l_2316, l_2388, l_2394, l_2406, l_2418, l_2430, l_2558, l_2686, l_2814, l_2942, l_3070, l_3390, l_3394, l_3395, l_3396, l_3397, n_leT, n_leF, n_ltT, n_ltF, n_eqT, n_eqF, nI_add, pk_mul, n_sub, z_ldn, z_san, z_bs, z_b2s, z_b3s, z_ocN, z_ocS, z_oxL, z_oxR, z_scL, z_scR, ↓reduceIte, Nat.zero_add, Nat.add_zero, Nat.zero_lt_succ, true_and, and_true, eq_self, n_div, n_mod, z_ldJn, z_saJn, f_blk, f_plc, l_9, l_10, l_13, l_14, l_17, l_18, l_19, l_20, l_21, l_22, l_24, l_28, l_60, l_61, l_62, l_64, l_98, l_99, z_ntR, z_ntwR, z_bz0, z_bz1, fL_places_L1, hl, hz4, hf, hi, hjm], hh⟩)
  have v2 : x7 = _ := v2
  subst v2
  have v3 : ∀ a, a ≠ 169 → M8 a = M a := v3
  obtain ⟨S1, M3, k1, k2, k3, k4, k5⟩ : ∃ S1 M3, (∀ k, S1 k = if 128 * d + (16 * f + i) ≤ k ∧ k < 128 * d + (16 * f + i) + l then 0 else S k) ∧ True ∧ True ∧ True ∧ (M3 : Nat) = 0 := ⟨fun k => if 128 * d + (16 * f + i) ≤ k ∧ k < 128 * d + (16 * f + i) + l then 0 else S k, 0, fun k => rfl, trivial, trivial, trivial, rfl⟩
  clear k2 k3 k4 k5 M3
  have hX1 : L_x 169 M8 S1 := L_x_rg (g := fun _ => 0) hj hX hd hf2 hil v4 k1
  have hge : ∀ k, 2304 ≤ k → S1 k = S k := fun k hk => by
    rw [k1, if_neg (by omega)]
  have hle : ∀ k, S1 k = 0 ∨ S1 k = S k := fun k => by
    rw [k1]
    by_cases c : 128 * d + (16 * f + i) ≤ k ∧ k < 128 * d + (16 * f + i) + l
    · rw [if_pos c]
      exact Or.inl rfl
    · rw [if_neg c]
      exact Or.inr rfl
  have hoff : q_off S1 := off_rg hs.1 k1 (rg_q hd hf2 hil)
  have ho := (I_bnd hI).2.1
  obtain ⟨M11, w1, w2, w3⟩ := f_settle (C := 171) hX1 hoff (fun k hk => by
    have := I_tab hI k hk
    rcases hle k with q | q <;> omega) (L_b_S (L_b_cg hB (v3 170 (by decide))) hge) (by rw [v3 171 (by decide), hge _ (by decide)]; exact hC.1.1) (by rw [hge _ (by decide)]; omega) (fun b hb q => by rw [hge _ (by omega)]; exact (hs.2.2.2 b hb q).1) (by decide) (by decide)
  have hfr : ∀ a, a ≠ 169 → a ≠ 170 → M11 a = M a := fun a q1 q2 => by rw [w3 a q2, v3 a q1]
  obtain ⟨S2, M3, t1, t2, t3, t4, t5⟩ := k_punch hn (R1_fr hR (fun a ha => hfr a (by omega) (by omega))) hI (d := d) (f := f) (i := i) (l := l) (by omega) h1 (by omega) (by omega) (by omega) (by omega)
  have e12 : S2 = S1 := funext (fun k => by rw [t1, k1])
  subst e12
  refine ⟨M3, y_mk S2, ?_, st_mk2 hQ t3 t4 (fun a q1 q2 => by rw [t5 a q1 (by omega) (by omega)]; exact hfr a (by omega) (by omega)) (fun a q1 q2 => by rw [t5 a (by omega) (by omega) (by omega)]; exact hfr a (by omega) (by omega)) (L_x_cg hX1 (by rw [t5 169 (by decide) (by decide) (by decide), w3 169 (by decide)])) (L_b_cg w2 (t5 170 (by decide) (by decide) (by decide))) hoff hge (fun k hk => ?_)⟩
  · have hlb := lost_b (S := S2)
    have hsb := sumN_le (g := fun q => if S (128 * d + (16 * f + i) + q) = 0 then 0 else 1) (c := 1) (n := l) (fun q hq => by
      show (if S (128 * d + (16 * f + i) + q) = 0 then 0 else 1) ≤ 1
      split <;> decide)
    have hnz : z_nz (nI (2 - i)) = fun (o : Option (Int32 × zM)) => o := by
      funext o
      exact if_neg (by
        have : (nI (2 - i) = nI 0) = False := n_eqF (by omega) (by omega) (by omega)
        rw [show (0 : Int32) = nI 0 from rfl, this]
        exact id)
    unfold fL_places
    simp (disch := first | omega | assumption) only [l_0, l_1, l_2, l_3, l_4, l_5, l_6, l_7, l_8, l_11, l_12, l_15, l_16, l_31, l_32, l_66, l_80, l_100, l_127, l_128, l_768, l_2304, l_2310, l_2316, l_2388, l_2394, l_2406, l_2418, l_2430, l_2558, l_2686, l_2814, l_2942, l_3070, l_3390, l_3394, l_3395, l_3396, l_3397, n_leT, n_leF, n_ltT, n_ltF, n_eqT, n_eqF, nI_add, pk_mul, n_sub, z_ldn, z_san, z_bs, z_b2s, z_b3s, z_ocN, z_ocS, z_oxL, z_oxR, z_scL, z_scR, ↓reduceIte, Nat.zero_add, Nat.add_zero, Nat.zero_lt_succ, true_and, and_true, eq_self, n_div, n_mod, z_ldJn, z_saJn, f_blk, f_plc, l_9, l_10, l_13, l_14, l_17, l_18, l_19, l_20, l_21, l_22, l_24, l_28, l_60, l_61, l_62, l_64, l_98, l_99, z_ntR, z_ntwR, z_bz0, z_bz1, v1, w1, hnz, hl, hz4, hf, hi, hjm, t2]
  · rcases hle k with q | q
    · exact Or.inl q
    · exact Or.inr ⟨k, hk, q.symm⟩
