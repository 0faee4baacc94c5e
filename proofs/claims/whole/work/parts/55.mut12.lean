theorem cBel2 {V : Nat} {M : zM} {ex ow rk : Nat → Nat} (h : y_sl V M ex ow rk) {t e : Nat} (ht : t < 12) (he : e < 6) : fX2_belongsTo (V + 27 + 3 * t) (nI e) M = some (nI (if ex t ≠ 0 ∧ ow t = e then 1 else 0)) := by
  obtain ⟨b1, b2, b3⟩ := h t ht
  unfold fX2_belongsTo
  by_cases q : ex t = 0
  · rw [show (if ex t ≠ 0 ∧ ow t = e then 1 else 0) = 0 from if_neg (fun c => c.1 q)]
    simp (disch := first | omega | assumption) only [l_0, l_1, l_2, l_3, l_4, l_5, l_6, l_7, l_8, l_11, l_12, l_15, l_16, l_31, l_32, l_66, l_80, l_100, l_127, l_128, l_768, l_2304, l_2310, l_2316, l_2388, l_2394, l_2406, l_2418, l_2430, l_2558, l_2686, l_2814, l_2942, l_3070, l_3390, l_3394, l_3395, l_3396, l_3397, n_leT, n_leF, n_ltT, n_ltF, n_eqT, n_eqF, nI_add, pk_mul, n_sub, z_ldn, z_san, z_bs, z_b2s, z_b3s, z_ocN, z_ocS, z_oxL, z_oxR, z_scL, z_scR, ↓reduceIte, st_170, st_171, st_172, st_173, Nat.zero_add, Nat.add_zero, Nat.zero_lt_succ, true_and, and_true, eq_self, b1, q]
  · obtain ⟨b4, b5, b6, b7⟩ := b3 q
    by_cases q2 : ow t = e
    · rw [show (if ex t ≠ 0 ∧ ow t = e then 1 else 0) = 1 from if_pos ⟨q, q2⟩]
      simp (disch := first | omega | assumption) only [l_0, l_1, l_2, l_3, l_4, l_5, l_6, l_7, l_8, l_11, l_12, l_15, l_16, l_31, l_32, l_66, l_80, l_100, l_127, l_128, l_768, l_2304, l_2310, l_2316, l_2388, l_2394, l_2406, l_2418, l_2430, l_2558, l_2686, l_2814, l_2942, l_3070, l_3390, l_3394, l_3395, l_3396, l_3397, n_leT, n_leF, n_ltT, n_ltF, n_eqT, n_eqF, nI_add, pk_mul, n_sub, z_ldn, z_san, z_bs, z_b2s, z_b3s, z_ocN, z_ocS, z_oxL, z_oxR, z_scL, z_scR, ↓reduceIte, st_170, st_171, st_172, st_173, Nat.zero_add, Nat.add_zero, Nat.zero_lt_succ, true_and, and_true, eq_self, b1, b4, q2]
    · rw [show (if ex t ≠ 0 ∧ ow t = e then 1 else 0) = 0 from if_neg (fun c => q2 c.2)]
      simp (disch := first | omega | assumption) only [l_0, l_1, l_2, l_3, l_4, l_5, l_6, l_7, l_8, l_11, l_12, l_15, l_16, l_31, l_32, l_66, l_80, l_100, l_127, l_128, l_768, l_2304, l_2310, l_2316, l_2388, l_2394, l_2406, l_2418, l_2430, l_2558, l_2686, l_2814, l_2942, l_3070, l_3390, l_3394, l_3395, l_3396, l_3397, n_leT, n_leF, n_ltT, n_ltF, n_eqT, n_eqF, nI_add, pk_mul, n_sub, z_ldn, z_san, z_bs, z_b2s, z_b3s, z_ocN, z_ocS, z_oxL, z_oxR, z_scL, z_scR, ↓reduceIte, st_170, st_171, st_172, st_173, Nat.zero_add, Nat.add_zero, Nat.zero_lt_succ, true_and, and_true, eq_self, b1, b4]
def ho_w (S rk : Nat → Nat) (d o p i : Nat) : Nat → Nat := fun t => if t < i ∧ S (2418 + t) = o ∧ rk t ≤ p then d else S (2418 + t)
def ho_r (S rk : Nat → Nat) (d o p i : Nat) : Nat → Nat := fun t => if t < i ∧ S (2418 + t) = d then rk t + (p + 1) else if t < i ∧ S (2418 + t) = o ∧ p < rk t then rk t - (p + 1) else rk t
theorem ho_n {S rk : Nat → Nat} {d o p i t : Nat} (h : t ≠ i) : ho_w S rk d o p (i + 1) t = ho_w S rk d o p i t ∧ ho_r S rk d o p (i + 1) t = ho_r S rk d o p i t := by
  have e : (t < i + 1) = (t < i) := propext (by omega)
  refine ⟨?_, ?_⟩
  · unfold ho_w
    by_cases q : t < i ∧ S (2418 + t) = o ∧ rk t ≤ p
    · rw [if_pos q, if_pos (by rw [e]; exact q)]
    · rw [if_neg q, if_neg (by rw [e]; exact q)]
  · unfold ho_r
    by_cases q : t < i ∧ S (2418 + t) = d
    · rw [if_pos q, if_pos (by rw [e]; exact q)]
    · rw [if_neg q, if_neg (show ¬ (t < i + 1 ∧ S (2418 + t) = d) by rw [e]; exact q)]
      by_cases q2 : t < i ∧ S (2418 + t) = o ∧ p < rk t
      · rw [if_pos q2, if_pos (by rw [e]; exact q2)]
      · rw [if_neg q2, if_neg (by rw [e]; exact q2)]
theorem ho_b {S rk : Nat → Nat} {d o p i t : Nat} (h : i ≤ t) : ho_w S rk d o p i t = S (2418 + t) ∧ ho_r S rk d o p i t = rk t := by
  unfold ho_w ho_r
  rw [if_neg (fun x => absurd x.1 (by omega)), if_neg (fun x => absurd x.1 (by omega)), if_neg (fun x => absurd x.1 (by omega))]
  exact ⟨rfl, rfl⟩
theorem cHand {M : zM} {S rk : Nat → Nat} {d o p s : Nat} (hd : d < 6) (ho : o < 6) (hne : d ≠ o) (hs : s < 12) (hsl : y_sl 1 M (z_ex S) (fun t => S (2418 + t)) rk) (c3 : M (1 + 27 + 3 * s) 3 = nI o) (c4 : M (1 + 27 + 3 * s) 4 = nI p) (hp : p < 12) (hb : ∀ t, t < 12 → S (2394 + t) ≠ 0 → S (2418 + t) = d → rk t + (p + 1) < 12) : ∃ M', fX5_handOver 1 (1 + 27 + 3 * s) (nI d) M = some M' ∧ y_sl 1 M' (z_ex S) (ho_w S rk d o p 12) (ho_r S rk d o p 12) ∧ (∀ t j, t < 12 → j ≠ 3 → j ≠ 4 → M' (1 + 27 + 3 * t) j = M (1 + 27 + 3 * t) j) ∧ ∀ a, (∀ t, t < 12 → a ≠ 1 + 27 + 3 * t) → M' a = M a := by
  unfold fX5_handOver
  obtain ⟨M', e1, e2⟩ := z_loopM (f := fun x : Int32 × zM => fX5_handOver_L1 1 (1 + 27 + 3 * s) (nI d) M x.1 x.2) (fun i M' => y_sl 1 M' (z_ex S) (ho_w S rk d o p i) (ho_r S rk d o p i) ∧ (∀ t j, t < 12 → j ≠ 3 → j ≠ 4 → M' (1 + 27 + 3 * t) j = M (1 + 27 + 3 * t) j) ∧ ∀ a, (∀ t, t < 12 → a ≠ 1 + 27 + 3 * t) → M' a = M a) (fun M' => y_sl 1 M' (z_ex S) (ho_w S rk d o p 12) (ho_r S rk d o p 12) ∧ (∀ t j, t < 12 → j ≠ 3 → j ≠ 4 → M' (1 + 27 + 3 * t) j = M (1 + 27 + 3 * t) j) ∧ ∀ a, (∀ t, t < 12 → a ≠ 1 + 27 + 3 * t) → M' a = M a) 0 12 (by decide) (s := 0) (M := M) rfl ⟨fun t ht => by
      rw [(ho_b (Nat.zero_le t)).1, (ho_b (Nat.zero_le t)).2]
      exact hsl t ht, fun _ _ _ _ _ => rfl, fun _ _ => rfl⟩ (fun i M' hi hI9 => by
      obtain ⟨b1, b2, b3⟩ := hI9
      have bd := cBel2 b1 hi hd
      have bo := cBel2 b1 hi ho
      obtain ⟨hw, hr⟩ := ho_b (S := S) (rk := rk) (d := d) (o := o) (p := p) (Nat.le_refl i)
      rw [hw] at bd bo
      have e12 := z_lq12 (V := 1) hi
      have bi := b1 i hi
      rw [hw, hr] at bi
      obtain ⟨f1, f2, f3⟩ := bi
      -- what stays for the others
      have oth : ∀ (M2 : zM), (∀ t, t < 12 → t ≠ i → M2 (1 + 27 + 3 * t) = M' (1 + 27 + 3 * t)) → (M2 (1 + 27 + 3 * i) 1 = nI (z_ex S i) ∧ z_ex S i ≤ 1 ∧ (z_ex S i ≠ 0 → M2 (1 + 27 + 3 * i) 3 = nI (ho_w S rk d o p (i + 1) i) ∧ ho_w S rk d o p (i + 1) i < 6 ∧ M2 (1 + 27 + 3 * i) 4 = nI (ho_r S rk d o p (i + 1) i) ∧ ho_r S rk d o p (i + 1) i < 12)) → y_sl 1 M2 (z_ex S) (ho_w S rk d o p (i + 1)) (ho_r S rk d o p (i + 1)) := fun M2 h1 h2 t ht => by
        by_cases q : t = i
        · subst q
          exact h2
        · rw [(ho_n q).1, (ho_n q).2, h1 t ht q]
          exact b1 t ht
      by_cases q : z_ex S i = 0
      · rw [show (if z_ex S i ≠ 0 ∧ S (2418 + i) = d then 1 else 0) = 0 from if_neg (fun x => x.1 q)] at bd
        rw [show (if z_ex S i ≠ 0 ∧ S (2418 + i) = o then 1 else 0) = 0 from if_neg (fun x => x.1 q)] at bo
        refine ⟨M', ?_, oth M' (fun _ _ _ => rfl) ⟨f1, f2, fun x => absurd q x⟩, b2, b3⟩
        simp (disch := first | omega | assumption) only [l_0, l_1, l_2, l_3, l_4, l_5, l_6, l_7, l_8, l_11, l_12, l_15, l_16, l_31, l_32, l_66, l_80, l_100, l_127, l_128, l_768, l_2304, l_2310, l_2316, l_2388, l_2394, l_2406, l_2418, l_2430, l_2558, l_2686, l_2814, l_2942, l_3070, l_3390, l_3394, l_3395, l_3396, l_3397, n_leT, n_leF, n_ltT, n_ltF, n_eqT, n_eqF, nI_add, pk_mul, n_sub, z_ldn, z_san, z_bs, z_b2s, z_b3s, z_ocN, z_ocS, z_oxL, z_oxR, z_scL, z_scR, ↓reduceIte, st_170, st_171, st_172, st_173, Nat.zero_add, Nat.add_zero, Nat.zero_lt_succ, true_and, and_true, eq_self, fX5_handOver_L1, e12, bd, c3, bo]
      · obtain ⟨f4, f5, f6, f7⟩ := f3 q
        have hlive : S (2394 + i) ≠ 0 := fun x => q (ex_0 x)
        by_cases v1 : S (2418 + i) = d
        · rw [show (if z_ex S i ≠ 0 ∧ S (2418 + i) = d then 1 else 0) = 1 from if_pos ⟨q, v1⟩] at bd
          have hb1 := hb i hi hlive v1
          have w1 : ho_w S rk d o p (i + 1) i = S (2418 + i) := if_neg (fun x => hne (by rw [← v1, x.2.1]))
          have w2 : ho_r S rk d o p (i + 1) i = rk i + (p + 1) := if_pos ⟨Nat.lt_succ_self i, v1⟩
          refine ⟨z_st M' (1 + 27 + 3 * i) 4 (nI (rk i + (p + 1))), ?_, oth _ (fun t ht x => s_n (by omega)) ⟨?_, f2, fun _ => ⟨?_, ?_, ?_, ?_⟩⟩, fun t j ht j3 j4 => ?_, fun a ha => by rw [s_n (ha i hi)]; exact b3 a ha⟩
          · simp (disch := first | omega | assumption) only [l_0, l_1, l_2, l_3, l_4, l_5, l_6, l_7, l_8, l_11, l_12, l_15, l_16, l_31, l_32, l_66, l_80, l_100, l_127, l_128, l_768, l_2304, l_2310, l_2316, l_2388, l_2394, l_2406, l_2418, l_2430, l_2558, l_2686, l_2814, l_2942, l_3070, l_3390, l_3394, l_3395, l_3396, l_3397, n_leT, n_leF, n_ltT, n_ltF, n_eqT, n_eqF, nI_add, pk_mul, n_sub, z_ldn, z_san, z_bs, z_b2s, z_b3s, z_ocN, z_ocS, z_oxL, z_oxR, z_scL, z_scR, ↓reduceIte, st_170, st_171, st_172, st_173, Nat.zero_add, Nat.add_zero, Nat.zero_lt_succ, true_and, and_true, eq_self, fX5_handOver_L1, e12, bd, f6, c4]
          · rw [s_s, u_n (by decide)]
            exact f1
          · rw [s_s, u_n (by decide), w1]
            exact f4
          · rw [w1]
            exact f5
          · rw [s_s, u_s, w2]
          · rw [w2]
            exact hb1
          · by_cases x : t = i
            · rw [x, s_s, u_n j4]
              exact b2 i j hi j3 j4
            · rw [s_n (by omega)]
              exact b2 t j ht j3 j4
        · rw [show (if z_ex S i ≠ 0 ∧ S (2418 + i) = d then 1 else 0) = 0 from if_neg (fun x => v1 x.2)] at bd
          by_cases v2 : S (2418 + i) = o
          · rw [show (if z_ex S i ≠ 0 ∧ S (2418 + i) = o then 1 else 0) = 1 from if_pos ⟨q, v2⟩] at bo
            by_cases v3 : rk i ≤ p
            · have w1 : ho_w S rk d o p (i + 1) i = d := if_pos ⟨Nat.lt_succ_self i, v2, v3⟩
              have w2 : ho_r S rk d o p (i + 1) i = rk i := by
                unfold ho_r
                rw [if_neg (fun x => v1 x.2), if_neg (fun x => absurd x.2.2 (by omega))]
              refine ⟨z_st M' (1 + 27 + 3 * i) 3 (nI d), ?_, oth _ (fun t ht x => s_n (by omega)) ⟨?_, f2, fun _ => ⟨?_, ?_, ?_, ?_⟩⟩, fun t j ht j3 j4 => ?_, fun a ha => by rw [s_n (ha i hi)]; exact b3 a ha⟩
              · simp (disch := first | omega | assumption) only [l_0, l_1, l_2, l_3, l_4, l_5, l_6, l_7, l_8, l_11, l_12, l_15, l_16, l_31, l_32, l_66, l_80, l_100, l_127, l_128, l_768, l_2304, l_2310, l_2316, l_2388, l_2394, l_2406, l_2418, l_2430, l_2558, l_2686, l_2814, l_2942, l_3070, l_3390, l_3394, l_3395, l_3396, l_3397, n_leT, n_leF, n_ltT, n_ltF, n_eqT, n_eqF, nI_add, pk_mul, n_sub, z_ldn, z_san, z_bs, z_b2s, z_b3s, z_ocN, z_ocS, z_oxL, z_oxR, z_scL, z_scR, ↓reduceIte, st_170, st_171, st_172, st_173, Nat.zero_add, Nat.add_zero, Nat.zero_lt_succ, true_and, and_true, eq_self, fX5_handOver_L1, e12, bd, c3, bo, f6, c4]
              · rw [s_s, u_n (by decide)]
                exact f1
              · rw [s_s, u_s, w1]
              · rw [w1]
                exact hd
              · rw [s_s, u_n (by decide), w2]
                exact f6
              · rw [w2]
                exact f7
              · by_cases x : t = i
                · rw [x, s_s, u_n j3]
                  exact b2 i j hi j3 j4
                · rw [s_n (by omega)]
                  exact b2 t j ht j3 j4
            · have w1 : ho_w S rk d o p (i + 1) i = S (2418 + i) := if_neg (fun x => v3 x.2.2)
              have w2 : ho_r S rk d o p (i + 1) i = rk i - (p + 1) := by
                unfold ho_r
                rw [if_neg (fun x => v1 x.2), if_pos ⟨Nat.lt_succ_self i, v2, by omega⟩]
              refine ⟨z_st M' (1 + 27 + 3 * i) 4 (nI (rk i - (p + 1))), ?_, oth _ (fun t ht x => s_n (by omega)) ⟨?_, f2, fun _ => ⟨?_, ?_, ?_, ?_⟩⟩, fun t j ht j3 j4 => ?_, fun a ha => by rw [s_n (ha i hi)]; exact b3 a ha⟩
              · simp (disch := first | omega | assumption) only [l_0, l_1, l_2, l_3, l_4, l_5, l_6, l_7, l_8, l_11, l_12, l_15, l_16, l_31, l_32, l_66, l_80, l_100, l_127, l_128, l_768, l_2304, l_2310, l_2316, l_2388, l_2394, l_2406, l_2418, l_2430, l_2558, l_2686, l_2814, l_2942, l_3070, l_3390, l_3394, l_3395, l_3396, l_3397, n_leT, n_leF, n_ltT, n_ltF, n_eqT, n_eqF, nI_add, pk_mul, n_sub, z_ldn, z_san, z_bs, z_b2s, z_b3s, z_ocN, z_ocS, z_oxL, z_oxR, z_scL, z_scR, ↓reduceIte, st_170, st_171, st_172, st_173, Nat.zero_add, Nat.add_zero, Nat.zero_lt_succ, true_and, and_true, eq_self, fX5_handOver_L1, e12, bd, c3, bo, f6, c4]
              · rw [s_s, u_n (by decide)]
                exact f1
              · rw [s_s, u_n (by decide), w1]
                exact f4
              · rw [w1]
                exact f5
              · rw [s_s, u_s, w2]
              · rw [w2]
                omega
              · by_cases x : t = i
                · rw [x, s_s, u_n j4]
                  exact b2 i j hi j3 j4
                · rw [s_n (by omega)]
                  exact b2 t j ht j3 j4
          · rw [show (if z_ex S i ≠ 0 ∧ S (2418 + i) = o then 1 else 0) = 0 from if_neg (fun x => v2 x.2)] at bo
            have w1 : ho_w S rk d o p (i + 1) i = S (2418 + i) := if_neg (fun x => v2 x.2.1)
            have w2 : ho_r S rk d o p (i + 1) i = rk i := by
              unfold ho_r
              rw [if_neg (fun x => v1 x.2), if_neg (fun x => v2 x.2.1)]
            refine ⟨M', ?_, oth M' (fun _ _ _ => rfl) ⟨f1, f2, fun _ => ?_⟩, b2, b3⟩
            · simp (disch := first | omega | assumption) only [l_0, l_1, l_2, l_3, l_4, l_5, l_6, l_7, l_8, l_11, l_12, l_15, l_16, l_31, l_32, l_66, l_80, l_100, l_127, l_128, l_768, l_2304, l_2310, l_2316, l_2388, l_2394, l_2406, l_2418, l_2430, l_2558, l_2686, l_2814, l_2942, l_3070, l_3390, l_3394, l_3395, l_3396, l_3397, n_leT, n_leF, n_ltT, n_ltF, n_eqT, n_eqF, nI_add, pk_mul, n_sub, z_ldn, z_san, z_bs, z_b2s, z_b3s, z_ocN, z_ocS, z_oxL, z_oxR, z_scL, z_scR, ↓reduceIte, st_170, st_171, st_172, st_173, Nat.zero_add, Nat.add_zero, Nat.zero_lt_succ, true_and, and_true, eq_self, fX5_handOver_L1, e12, bd, c3, bo]
            · rw [w1, w2]
              exact ⟨f4, f5, f6, f7⟩) (fun M' hI9 => ⟨M', by simp (disch := first | omega | assumption) only [l_0, l_1, l_2, l_3, l_4, l_5, l_6, l_7, l_8, l_11, l_12, l_15, l_16, l_31, l_32, l_66, l_80, l_100, l_127, l_128, l_768, l_2304, l_2310, l_2316, l_2388, l_2394, l_2406, l_2418, l_2430, l_2558, l_2686, l_2814, l_2942, l_3070, l_3390, l_3394, l_3395, l_3396, l_3397, n_leT, n_leF, n_ltT, n_ltF, n_eqT, n_eqF, nI_add, pk_mul, n_sub, z_ldn, z_san, z_bs, z_b2s, z_b3s, z_ocN, z_ocS, z_oxL, z_oxR, z_scL, z_scR, ↓reduceIte, st_170, st_171, st_172, st_173, Nat.zero_add, Nat.add_zero, Nat.zero_lt_succ, true_and, and_true, eq_self, fX5_handOver_L1], hI9⟩)
  exact ⟨M', by rw [e1]; rfl, e2⟩
theorem op_22 {n : Nat} (hn : n < 512) {M : zM} (h : z_P n M) (a1 a2 a3 a4 a5 a6 : Int32) : ∃ M9, fL_c22 a1 a2 a3 a4 a5 a6 M = some (1, M9) ∧ z_P (n + 1) M9 := by
  obtain ⟨S, S0, hN, hN0, hR, hR0, hI, hI0, hB, hB0⟩ := id h
  unfold fL_c22 fL_promote
  have hN1 := N1 hN
  have hb := hb30 hI hn
  rcases ds_cases a1 (I_ex hI) with ⟨d, hd, rfl, h1⟩ | h1
  · have csrc := (hR.2.1 d hd).2
    have hor12 := (I_ori hI d hd).1
    by_cases h2 : S (2310 + d) = 0
    · have co : z_onum S d = 0 := if_pos h2
      rw [co] at csrc
      have hfs := cFs_no (a := nI 0 - nI 1) hR.2.2.1 (fun s hs q x => by
        have := n_m1e (x := S (2394 + s) - 1) (by have := hb s hs; omega)
        rw [← x] at this
        exact this.mp rfl)
      refine mutNo h (k := nI 2) (b := nI 0) (by decide) ?_ ?_
      · unfold fX6_promote
        simp (disch := first | omega | assumption) only [l_0, l_1, l_2, l_3, l_4, l_5, l_6, l_7, l_8, l_11, l_12, l_15, l_16, l_31, l_32, l_66, l_80, l_100, l_127, l_128, l_768, l_2304, l_2310, l_2316, l_2388, l_2394, l_2406, l_2418, l_2430, l_2558, l_2686, l_2814, l_2942, l_3070, l_3390, l_3394, l_3395, l_3396, l_3397, n_leT, n_leF, n_ltT, n_ltF, n_eqT, n_eqF, nI_add, pk_mul, n_sub, z_ldn, z_san, z_bs, z_b2s, z_b3s, z_ocN, z_ocS, z_oxL, z_oxR, z_scL, z_scR, ↓reduceIte, st_170, st_171, st_172, st_173, Nat.zero_add, Nat.add_zero, Nat.zero_lt_succ, true_and, and_true, eq_self, cDs_ok hR.2.1 hd h1, z_gdp (kd1_ds hd), csrc, hfs]
        rfl
      · unfold fX7_promote
        have k1 := hN1 (2310 + d) (by omega)
        rw [h2] at k1
        simp (disch := first | omega | assumption) only [l_0, l_1, l_2, l_3, l_4, l_5, l_6, l_7, l_8, l_11, l_12, l_15, l_16, l_31, l_32, l_66, l_80, l_100, l_127, l_128, l_768, l_2304, l_2310, l_2316, l_2388, l_2394, l_2406, l_2418, l_2430, l_2558, l_2686, l_2814, l_2942, l_3070, l_3390, l_3394, l_3395, l_3396, l_3397, n_leT, n_leF, n_ltT, n_ltF, n_eqT, n_eqF, nI_add, pk_mul, n_sub, z_ldn, z_san, z_bs, z_b2s, z_b3s, z_ocN, z_ocS, z_oxL, z_oxR, z_scL, z_scR, ↓reduceIte, st_170, st_171, st_172, st_173, Nat.zero_add, Nat.add_zero, Nat.zero_lt_succ, true_and, and_true, eq_self, mSet_ok hN1 hd h1, k1, mFits2]
    · obtain ⟨s, hss⟩ : ∃ s, s = S (2310 + d) - 1 := ⟨_, rfl⟩
      have hor : S (2310 + d) = s + 1 := by omega
      have hs : s < 12 := by omega
      have h0 := ((I_ori hI d hd).2 h2).1
      have hlt := ((I_ori hI d hd).2 h2).2
      rw [← hss] at h0 hlt
      have co : z_onum S d = S (2394 + s) := by
        unfold z_onum
        rw [if_neg h2, hor, Nat.add_sub_cancel]
      rw [co, n_pm1 h0] at csrc
      obtain ⟨o, hoo⟩ : ∃ o, o = S (2418 + s) := ⟨_, rfl⟩
      have hl := I_liv hI s hs h0
      have ho : o < 6 := by rw [hoo]; exact hl.2.1
      have hox : S (2304 + o) = 1 := by rw [hoo]; exact hl.2.2.1
      obtain ⟨rk, hsl, hrk, hrk12⟩ := z_rk2 hR.2.2.1 hI.1
      obtain ⟨p, hpp⟩ : ∃ p, p = rk s := ⟨_, rfl⟩
      obtain ⟨c, hcc⟩ : ∃ c, c = S (2388 + d) := ⟨_, rfl⟩
      obtain ⟨c2, hcc2⟩ : ∃ c2, c2 = S (2388 + o) := ⟨_, rfl⟩
      obtain ⟨hp, hop⟩ := hrk s hs h0
      rw [← hpp, ← hoo, ← hcc2] at hp
      rw [← hpp, ← hoo] at hop
      have hne : d ≠ o := fun e => by
        have := hlt p (by rw [e, ← hcc2]; exact hp)
        rw [e, hop] at this
        omega
      have hc12 := own2 hI hd ho hne
      rw [← hcc, ← hcc2] at hc12
      have hcA : c + (p + 1) ≤ 12 := by omega
      have hcB : c2 ≤ 12 := by omega
      have eT := fun {k : Nat} (hk : k < 2310 ∨ (2394 ≤ k ∧ k < 2418) ∨ 2430 ≤ k) => pr_T (S := S) (rk := rk) (s := s) hd ho hcA hcB hk
      have eO := fun {e : Nat} (he : e < 6) => pr_O (S := S) (rk := rk) (s := s) hd ho hcA hcB he
      have eR := fun {e r : Nat} (he : e < 6) (hr : r < 12) => pr_R (S := S) (rk := rk) (s := s) hd ho hne hcA hcB he hr
      have eC := fun {e : Nat} (he : e < 6) => pr_C (S := S) (rk := rk) (s := s) hd ho hne hcA hcB he
      have eW := fun {t : Nat} (ht : t < 12) => pr_W (S := S) (rk := rk) (s := s) hd ho hcA hcB ht
      have hIs1 := pr_Is hI hd ho hne h1 hs h0 hoo.symm hcc hcc2 hp hop hor hrk
      obtain ⟨S1, hS1⟩ : ∃ S1, S1 = prS S rk d o p s c c2 := ⟨_, rfl⟩
      rw [← hS1] at hIs1
      simp only [← hS1] at eT eO eR eC eW
      obtain ⟨_, _, _, d4⟩ := (hsl s hs).2.2 (by rw [ex_1 h0]; decide)
      have cs := (hR.2.2.1 s hs).2 h0
      have cs3 : M (1 + 27 + 3 * s) 3 = nI o := by rw [hoo]; exact cs.2.1
      have cs4 : M (1 + 27 + 3 * s) 4 = nI p := by rw [hpp]; exact ((hsl s hs).2.2 (by rw [ex_1 h0]; decide)).2.2.1
      obtain ⟨M8, e1, e2, e3, e4⟩ := cHand hd ho hne hs hsl cs3 cs4 (by omega) (fun t ht q v => by
        have := (hrk t ht q).1
        rw [v] at this
        omega)
      obtain ⟨M9, hM9⟩ : ∃ M9, M9 = z_st M8 (1 + 9 + 3 * d) 2 (M8 (1 + 9 + 3 * o) 2) := ⟨_, rfl⟩
      obtain ⟨M10, hM10⟩ : ∃ M10, M10 = z_st M9 (1 + 9 + 3 * o) 2 (M9 (1 + 27 + 3 * s) 2) := ⟨_, rfl⟩
      have f10 : ∀ a, a ≠ 1 + 9 + 3 * d → a ≠ 1 + 9 + 3 * o → M10 a = M8 a := fun a q1 q2 => by rw [hM10, s_n q2, hM9, s_n q1]
      have fM : ∀ a, a ≠ 1 + 9 + 3 * d → a ≠ 1 + 9 + 3 * o → (∀ t, t < 12 → a ≠ 1 + 27 + 3 * t) → M10 a = M a := fun a q1 q2 q3 => by rw [f10 a q1 q2, e4 a q3]
      have hI1 : z_I n S1 := ⟨hIs1, fun k hk => by rw [eT (by omega)]; exact I_tab hI k hk, fun e he q x hx => by
          rw [eT (by omega)] at q ⊢
          exact I_te hI e he q x hx, fun t ht q x hx => by
          rw [eT (by omega)] at q ⊢
          exact I_se hI t ht q x hx, fun b hb => by
          rw [eT (by omega), I_ref hI b hb]
          exact cntN_cg (fun i hi => (eT (by omega)).symm), fun b hb => by
          rw [eT (by omega), eT (by omega)]
          exact I_pen hI b hb, fun b hb => by
          rw [eT (by omega)]
          exact I_bir hI b hb⟩
      have hds : R_ds 1 M10 S1 := fun e he => by
        have hon : ∀ q, z_onum S1 q = if S1 (2310 + q) = 0 then 0 else S1 (2394 + (S1 (2310 + q) - 1)) := fun _ => rfl
        by_cases w : e = o
        · subst w
          rw [hM10, s_s, u_n (by decide), u_s, hM9, s_n (by omega), s_n (by omega), e4 _ (fun t ht => by omega), e3 s 2 hs (by decide) (by decide), cs.1, hon, eO he, if_pos rfl, if_neg (by omega), Nat.add_sub_cancel, eT (by omega), eT (by omega)]
          exact ⟨(hR.2.1 e he).1, (n_pm1 h0).symm⟩
        · by_cases w2 : e = d
          · subst w2
            rw [hM10, s_n (by omega), hM9, s_s, u_n (by decide), u_s, e4 _ (fun t ht => by omega), e4 _ (fun t ht => by omega), eT (by omega), hon, eO he, if_neg hne, if_pos rfl]
            have hx := (hR.2.1 o ho).2
            unfold z_onum at hx
            have h12 := (I_ori hI o ho).1
            refine ⟨(hR.2.1 e he).1, ?_⟩
            rw [hx]
            by_cases y : S (2310 + o) = 0
            · rw [if_pos y, if_pos y]
            · rw [if_neg y, if_neg y, eT (by omega)]
          · rw [fM _ (by omega) (by omega) (fun t ht => by omega), eT (by omega), hon, eO he, if_neg w, if_neg w2]
            have hx := hR.2.1 e he
            unfold z_onum at hx
            have h12 := (I_ori hI e he).1
            refine ⟨hx.1, ?_⟩
            rw [hx.2]
            by_cases y : S (2310 + e) = 0
            · rw [if_pos y, if_pos y]
            · rw [if_neg y, if_neg y, eT (by omega)]
      have hsn : R_sn 1 M10 S1 := R_sn_of (y_sl_cg e2 (fun t ht => f10 _ (by omega) (by omega))) (fun t ht => by
          rw [eT (by omega)]
          by_cases q : S (2394 + t) = 0
          · rw [ex_0 q, q]
          · rw [ex_1 q]
            exact ⟨fun x => absurd x q, fun x => absurd x (by decide)⟩) (fun t ht q => by
          have q1 : S (2394 + t) ≠ 0 := fun x => q (ex_0 x)
          obtain ⟨l1, l2, l3, _⟩ := (hR.2.2.1 t ht).2 q1
          obtain ⟨k1, k2⟩ := hrk t ht q1
          have l4 := (I_liv hI t ht q1).2.1
          have l5 := (I_ord hI _ l4).1
          rw [f10 _ (by omega) (by omega), e3 t 2 ht (by decide) (by decide), e3 t 5 ht (by decide) (by decide), eT (by omega), show S1 (2406 + t) = S (2406 + t) from eT (by omega)]
          refine ⟨l1, l3, ?_⟩
          rw [eW ht]
          by_cases v : S (2418 + t) = o
          · rw [v, ← hcc2] at k1
            rw [v] at k2
            by_cases v3 : rk t ≤ p
            · have w1 : ho_w S rk d o p 12 t = d := if_pos ⟨ht, v, v3⟩
              have w2 : ho_r S rk d o p 12 t = rk t := by
                unfold ho_r
                rw [if_neg (fun x => hne (by rw [← v, x.2])), if_neg (fun x => absurd x.2.2 (by omega))]
              rw [if_pos ⟨q1, v, by omega⟩, w1, w2, eC hd, if_pos rfl, eR hd (by omega), if_pos ⟨rfl, by omega⟩]
              exact ⟨rfl, by omega, k2⟩
            · have w1 : ho_w S rk d o p 12 t = S (2418 + t) := if_neg (fun x => v3 x.2.2)
              have w2 : ho_r S rk d o p 12 t = rk t - (p + 1) := by
                unfold ho_r
                rw [if_neg (fun x => hne (by rw [← v, x.2])), if_pos ⟨ht, v, by omega⟩]
              rw [if_neg (fun x => v3 (by have := x.2.2; omega)), w1, w2, v, eC ho, if_neg (fun x => hne x.symm), if_pos rfl, eR ho (by omega), if_neg (fun x => hne x.1.symm), if_neg (fun x => hne x.1.symm), if_pos ⟨rfl, by omega⟩, show rk t - (p + 1) + (p + 1) = rk t by omega]
              exact ⟨rfl, by omega, k2⟩
          · have w1 : ho_w S rk d o p 12 t = S (2418 + t) := if_neg (fun x => v x.2.1)
            rw [if_neg (fun x => v x.2.1), w1]
            refine ⟨rfl, ?_⟩
            by_cases v2 : S (2418 + t) = d
            · have w2 : ho_r S rk d o p 12 t = rk t + (p + 1) := if_pos ⟨ht, v2⟩
              rw [v2, ← hcc] at k1
              rw [v2] at k2
              rw [v2, w2, eC hd, if_pos rfl, eR hd (by omega), if_neg (fun x => by have := x.2; omega), if_pos ⟨rfl, by omega⟩, show rk t + (p + 1) - (p + 1) = rk t by omega]
              exact ⟨by omega, k2⟩
            · have w2 : ho_r S rk d o p 12 t = rk t := by
                unfold ho_r
                rw [if_neg (fun x => v2 x.2), if_neg (fun x => v x.2.1)]
              rw [w2, eC l4, if_neg v2, if_neg v, eR l4 (by omega), if_neg (fun x => v2 x.1), if_neg (fun x => v2 x.1), if_neg (fun x => v x.1)]
              exact ⟨k1, k2⟩)
      have hR1 : z_R1 1 M10 (M 170) S1 := ⟨fun t ht x hx => by
          rw [fM _ (by omega) (by omega) (fun u hu => by omega), eT (by omega)]
          exact hR.1 t ht x hx, hds, hsn, fun b hb => by
          have hz : z_sta S1 b = z_sta S b := by
            unfold z_sta
            rw [eT (by omega), eT (by omega)]
          rw [hz, fM (1 + 3 + 1) (by omega) (by omega) (fun u hu => by omega), fM (1 + 3 + 2) (by omega) (by omega) (fun u hu => by omega), fM (1 + 3 + 3) (by omega) (by omega) (fun u hu => by omega), fM (1 + 3 + 4) (by omega) (by omega) (fun u hu => by omega), eT (by omega), eT (by omega)]
          exact hR.2.2.2.1 b hb, R_lg_S (R_lg_cg hR.2.2.2.2.1 (fun r q k1 k2 => fM _ (by omega) (by omega) (fun u hu => by omega))) (fun r hr => eT (by omega)), R_sc_S (R_sc_cg hR.2.2.2.2.2 (fM _ (by omega) (by omega) (fun u hu => by omega))) (fun k k1 k2 => eT (by omega))⟩
      have hso := cSo hsn hI1 hd
      rw [eC hd, if_pos rfl] at hso
      -- the model
      obtain ⟨Ms, hMs⟩ : ∃ Ms, Ms = z_st M10 174 0 (nI (c + (p + 1))) := ⟨_, rfl⟩
      have hMs170 : Ms 170 = M 170 := by
        rw [hMs]
        exact fM _ (by omega) (by omega) (fun u hu => by omega)
      obtain ⟨M4, m1, m2, m3, m4⟩ := mPr (Ms := Ms) (rk := rk) hI (by rw [hMs170]; exact hN) hd ho hne h1 hs hoo.symm hcc hcc2 hp hop hor hrk
      rw [← hS1] at m2
      have hfd := cFd_ok hR.2.1 ho hox
      have hfs := cFs_ok hR.2.2.1 (I_num hI) hb hs h0
      refine mutOK (M1 := M10) (v := nI (c + (p + 1))) (M4 := M4) ?_ ?_ ?_ ?_ (z_fin (N := M 170) hN0 hR0 hI0 hB0 hR1 m2 (z_I_mono hI1) ?_ ?_ ?_ ?_ ?_ ?_)
      · unfold fX6_promote
        simp (disch := first | omega | assumption) only [l_0, l_1, l_2, l_3, l_4, l_5, l_6, l_7, l_8, l_11, l_12, l_15, l_16, l_31, l_32, l_66, l_80, l_100, l_127, l_128, l_768, l_2304, l_2310, l_2316, l_2388, l_2394, l_2406, l_2418, l_2430, l_2558, l_2686, l_2814, l_2942, l_3070, l_3390, l_3394, l_3395, l_3396, l_3397, n_leT, n_leF, n_ltT, n_ltF, n_eqT, n_eqF, nI_add, pk_mul, n_sub, z_ldn, z_san, z_bs, z_b2s, z_b3s, z_ocN, z_ocS, z_oxL, z_oxR, z_scL, z_scR, ↓reduceIte, st_170, st_171, st_172, st_173, Nat.zero_add, Nat.add_zero, Nat.zero_lt_succ, true_and, and_true, eq_self, cDs_ok hR.2.1 hd h1, z_gdp (kd1_ds hd), csrc, hfs, z_gdp (kd1_sn hs), cs3, hfd, z_gdp (kd1_ds ho), e1, ← hM9, ← hM10, hso]
      · rw [← hMs]
        exact m1
      · rw [m4 _ (by decide), s_s, u_s]
      · rw [m4 _ (by decide), s_n (by decide), hMs, s_s, u_s]
      · intro b hb
        rw [eT (by omega)]
        exact hB b hb
      · intro k k1 k2
        rw [m3 k k1]
        exact congrFun hMs170 k
      · intro k k1 k2
        rw [m3 k (by omega)]
        exact congrFun hMs170 k
      · intro a ha
        rw [m4 a (by omega), s_n (by omega), hMs, s_n (by omega)]
      · exact fM _ (by omega) (by omega) (fun u hu => by omega)
      · intro a a1 a2
        exact fM a (by omega) (by omega) (fun u hu => by omega)
  · refine mutNo h (k := nI 1) (b := nI 0) (by decide) ?_ ?_
    · unfold fX6_promote
      simp (disch := first | omega | assumption) only [l_0, l_1, l_2, l_3, l_4, l_5, l_6, l_7, l_8, l_11, l_12, l_15, l_16, l_31, l_32, l_66, l_80, l_100, l_127, l_128, l_768, l_2304, l_2310, l_2316, l_2388, l_2394, l_2406, l_2418, l_2430, l_2558, l_2686, l_2814, l_2942, l_3070, l_3390, l_3394, l_3395, l_3396, l_3397, n_leT, n_leF, n_ltT, n_ltF, n_eqT, n_eqF, nI_add, pk_mul, n_sub, z_ldn, z_san, z_bs, z_b2s, z_b3s, z_ocN, z_ocS, z_oxL, z_oxR, z_scL, z_scR, ↓reduceIte, st_170, st_171, st_172, st_173, Nat.zero_add, Nat.add_zero, Nat.zero_lt_succ, true_and, and_true, eq_self, cDs_no hR.2.1 h1]
    · unfold fX7_promote
      simp (disch := first | omega | assumption) only [l_0, l_1, l_2, l_3, l_4, l_5, l_6, l_7, l_8, l_11, l_12, l_15, l_16, l_31, l_32, l_66, l_80, l_100, l_127, l_128, l_768, l_2304, l_2310, l_2316, l_2388, l_2394, l_2406, l_2418, l_2430, l_2558, l_2686, l_2814, l_2942, l_3070, l_3390, l_3394, l_3395, l_3396, l_3397, n_leT, n_leF, n_ltT, n_ltF, n_eqT, n_eqF, nI_add, pk_mul, n_sub, z_ldn, z_san, z_bs, z_b2s, z_b3s, z_ocN, z_ocS, z_oxL, z_oxR, z_scL, z_scR, ↓reduceIte, st_170, st_171, st_172, st_173, Nat.zero_add, Nat.add_zero, Nat.zero_lt_succ, true_and, and_true, eq_self, mSet_no hN1 h1, mFits1]
