/-! ===== the law's snapshots: rollback ===== -/
/-- what lies behind snapshot s of d -/
abbrev q_be (S : Nat → Nat) (d s t : Nat) : Prop := S (2394 + s) < S (2394 + t) ∧ S (2418 + t) = d
theorem be_place {n : Nat} {S : Nat → Nat} (hI : z_I n S) {d p c s t : Nat} (hd : d < 6) (hcc : c = S (2388 + d)) (hp : p < c) (hop : z_ord S d p = s) (ht : t < 12) : q_be S d s t ↔ ∃ r, r < c - 1 - p ∧ z_ord S d (p + 1 + r) = t := by
  constructor
  · intro h
    obtain ⟨h1, h2⟩ := h
    obtain ⟨_, _, _, r, q1, q2⟩ := I_liv hI t ht (by omega)
    rw [h2] at q1 q2
    have hr : p < r := Classical.byContradiction (fun x => by
      by_cases e : r = p
      · rw [e, hop] at q2
        rw [q2] at h1
        omega
      · have h3 := I_asc hI d hd r p (by omega) (by omega)
        rw [q2, hop] at h3
        omega)
    exact ⟨r - p - 1, by omega, by rw [show p + 1 + (r - p - 1) = r by omega]; exact q2⟩
  · intro h
    obtain ⟨r, h1, h2⟩ := h
    have h3 := I_asc hI d hd p (p + 1 + r) (by omega) (by omega)
    have h4 := ((I_ord hI d hd).2 (p + 1 + r) (by omega)).2.2
    rw [h2] at h3 h4
    rw [hop] at h3
    exact ⟨h3, h4⟩
theorem be_cnt {n : Nat} {S : Nat → Nat} (hI : z_I n S) {d p c s : Nat} (hd : d < 6) (hcc : c = S (2388 + d)) (hp : p < c) (hop : z_ord S d p = s) : sumN (fun t => if q_be S d s t then 1 else 0) 12 = c - 1 - p :=
  bij_cnt (m := 12) (f := fun r => z_ord S d (p + 1 + r)) (c - 1 - p) (fun t => if q_be S d s t then 1 else 0) (fun r hr => ((I_ord hI d hd).2 (p + 1 + r) (by omega)).1) (fun r q h1 h2 => I_inj hI hd (by omega) (by omega)) (fun t ht => by
    show (if q_be S d s t then 1 else 0) ≤ 1
    split <;> decide) (fun t ht => by
    show (if q_be S d s t then 1 else 0) = 1 ↔ _
    rw [← be_place hI hd hcc hp hop ht]
    by_cases c : q_be S d s t
    · rw [if_pos c]
      exact ⟨fun _ => c, fun _ => rfl⟩
    · rw [if_neg c]
      exact ⟨fun x => absurd x (by decide), fun x => absurd x c⟩)
theorem be_4 {S : Nat → Nat} (hs : q_sm S) {d s : Nat} : sumN (fun t => if q_be S d s t then 1 else 0) 12 = sumN (fun t => if q_be S d s t then 1 else 0) 4 := by
  have e : sumN (fun t => if q_be S d s t then 1 else 0) (4 + 8) = sumN (fun t => if q_be S d s t then 1 else 0) 4 + sumN (fun i => if q_be S d s (4 + i) then 1 else 0) 8 := sumN_sp
  have z : sumN (fun i => if q_be S d s (4 + i) then 1 else 0) 8 = 0 := sumN_0 (fun i hi => if_neg (fun x => by
    have := hs.2.2.1 (4 + i) (by omega) (by omega)
    omega))
  rw [z] at e
  exact e
theorem be_bh {n : Nat} {S rk : Nat → Nat} (hI : z_I n S) {d p c s t : Nat} (hd : d < 6) (hcc : c = S (2388 + d)) (hp : p < c) (hop : z_ord S d p = s) (ht : t < 12) (hrk : ∀ t, t < 12 → S (2394 + t) ≠ 0 → rk t < S (2388 + S (2418 + t)) ∧ z_ord S (S (2418 + t)) (rk t) = t) : z_bh S rk d p (c - 1 - p) t ↔ q_be S d s t := by
  constructor
  · intro h
    obtain ⟨h1, h2, h3, h4⟩ := h
    obtain ⟨q1, q2⟩ := hrk t ht h1
    rw [h2] at q1 q2
    have h5 := I_asc hI d hd p (rk t) h3 (by omega)
    rw [q2, hop] at h5
    exact ⟨h5, h2⟩
  · intro h
    obtain ⟨h1, h2⟩ := h
    obtain ⟨q1, q2⟩ := hrk t ht (by omega)
    rw [h2] at q1 q2
    refine ⟨by omega, h2, Classical.byContradiction (fun x => ?_), by omega⟩
    by_cases e : rk t = p
    · rw [e, hop] at q2
      rw [q2] at h1
      omega
    · have h3 := I_asc hI d hd (rk t) p (by omega) (by omega)
      rw [q2, hop] at h3
      omega
theorem n_m1le {a : Nat} (h : a < 2 ^ 31) : (nI 0 - nI 1 ≤ nI a) = True := eq_true (Int32.le_trans (show nI 0 - nI 1 ≤ nI 0 by decide) ((nI_leI (by decide) h).mpr (Nat.zero_le a)))
/-- can it be rolled back, as far as the first k slots say -/
def q_cn (S : Nat → Nat) (d s : Nat) : Nat → Nat
  | 0 => 1
  | k + 1 => if q_be S d s k ∧ orN S k 6 ≠ 0 then 0 else q_cn S d s k
theorem cn_1 {S : Nat → Nat} {d s : Nat} : ∀ {k : Nat}, q_cn S d s k ≤ 1
  | 0 => Nat.le_refl _
  | k + 1 => by
    unfold q_cn
    split
    · decide
    · exact cn_1
theorem cn_0 {S : Nat → Nat} {d s : Nat} : ∀ {k : Nat}, q_cn S d s k = 1 ↔ ∀ t, t < k → q_be S d s t → orN S t 6 = 0
  | 0 => ⟨fun _ t ht => by omega, fun _ => rfl⟩
  | k + 1 => by
    have ih := cn_0 (S := S) (d := d) (s := s) (k := k)
    unfold q_cn
    by_cases c : q_be S d s k ∧ orN S k 6 ≠ 0
    · rw [if_pos c]
      exact ⟨fun x => absurd x (by decide), fun h => absurd (h k (by omega) c.1) c.2⟩
    · rw [if_neg c, ih]
      refine ⟨fun h t ht hb => ?_, fun h t ht => h t (by omega)⟩
      by_cases e : t = k
      · rw [e] at hb ⊢
        exact Classical.byContradiction (fun x => c ⟨hb, x⟩)
      · exact h t (by omega) hb
theorem cn_oB {n : Nat} {S : Nat → Nat} (hI : z_I n S) (hs : q_sm S) {d p c s : Nat} (hd : d < 6) (hcc : c = S (2388 + d)) (hp : p < c) (hop : z_ord S d p = s) : q_cn S d s 4 = 1 ↔ oB S d p (c - 1 - p) = 0 := by
  rw [cn_0, oB_0]
  constructor
  · intro h j h1 h2
    have h3 := ((I_ord hI d hd).2 (p + j) (by omega)).1
    have h5 : q_be S d s (z_ord S d (p + j)) := (be_place hI hd hcc hp hop h3).mpr ⟨j - 1, by omega, by rw [show p + 1 + (j - 1) = p + j by omega]⟩
    have h6 : z_ord S d (p + j) < 4 := Classical.byContradiction (fun x => by
      have := hs.2.2.1 (z_ord S d (p + j)) (by omega) h3
      omega)
    exact h _ h6 h5
  · intro h t ht hb
    obtain ⟨r, h1, h2⟩ := (be_place hI hd hcc hp hop (by omega)).mp hb
    have := h (r + 1) (by omega) (by omega)
    rw [show p + (r + 1) = p + 1 + r by omega, h2] at this
    exact this
theorem f_ro2 {n : Nat} {M : zM} {S : Nat → Nat} (hM : L_m 171 M S) (hI : z_I n S) (hn : n < 512) (hs : q_sm S) {d s : Nat} (hd : d < 3) (hs4 : s < 4) (h0 : S (2394 + s) ≠ 0) : z_loop (fun q : Int32 × Int32 × Int32 => fL_snapshots_L2 171 M (nI (S (2394 + s))) (nI d) q.1 q.2.1 q.2.2) z_FU (nI 0, nI 1, nI 0) = some (nI (sumN (fun t => if q_be S d s t then 1 else 0) 4), nI (q_cn S d s 4)) := by
  refine z_loopC (f := fun q : Int32 × Int32 × Int32 => fL_snapshots_L2 171 M (nI (S (2394 + s))) (nI d) q.1 q.2.1 q.2.2) (fun i => (nI (sumN (fun t => if q_be S d s t then 1 else 0) i), nI (q_cn S d s i), nI i)) 4 _ (by omega) (fun t ht => ?_) (by simp (disch := first | omega | assumption) only [l_0, l_1, l_2, l_3, l_4, l_5, l_6, l_7, l_8, l_11, l_12, l_15, l_16, l_31, l_32, l_66, l_80, l_100, l_127, l_128, l_768, l_2304, l_2310, l_2316, l_2388, l_2394, l_2406, l_2418, l_2430, l_2558, l_2686, l_2814, l_2942, l_3070, l_3390, l_3394, l_3395, l_3396, l_3397, n_leT, n_leF, n_ltT, n_ltF, n_eqT, n_eqF, nI_add, pk_mul, n_sub, z_ldn, z_san, z_bs, z_b2s, z_b3s, z_ocN, z_ocS, z_oxL, z_oxR, z_scL, z_scR, ↓reduceIte, Nat.zero_add, Nat.add_zero, Nat.zero_lt_succ, true_and, and_true, eq_self, n_div, n_mod, z_ldJn, z_saJn, f_blk, f_plc, l_9, l_10, l_13, l_14, l_17, l_18, l_19, l_20, l_21, l_22, l_24, l_28, l_60, l_61, l_62, l_64, l_98, l_99, z_ntR, z_ntwR, z_bz0, z_bz1, fL_snapshots_L2])
  show fL_snapshots_L2 171 M (nI (S (2394 + s))) (nI d) _ _ _ = some (.inl (nI (sumN (fun t => if q_be S d s t then 1 else 0) t + (if q_be S d s t then 1 else 0)), nI (q_cn S d s (t + 1)), nI (t + 1)))
  show fL_snapshots_L2 171 M (nI (S (2394 + s))) (nI d) (nI (sumN (fun t => if q_be S d s t then 1 else 0) t)) (nI (q_cn S d s t)) (nI t) = _
  generalize sumN (fun t => if q_be S d s t then 1 else 0) t = W
  have e0 : q_cn S d s (t + 1) = if q_be S d s t ∧ orN S t 6 ≠ 0 then 0 else q_cn S d s t := rfl
  rw [e0]
  have g1 := (hM.2.2 t ht).1
  have hb := I_nb hI t (by omega)
  have hb2 := I_nb hI s (by omega)
  have e1 : 1 ≤ S (2394 + s) := by omega
  have h1 := cn_1 (S := S) (d := d) (s := s) (k := t)
  have hm1 : (nI 0 - nI 1 ≤ nI (S (2394 + s) - 1)) = True := n_m1le (by omega)
  generalize q_cn S d s t = CN at *
  by_cases cz : S (2394 + t) = 0
  · rw [if_neg (fun x => by omega), if_neg (fun x => by omega)]
    rw [cz] at g1
    by_cases cc : CN = 0
    · subst cc
      simp (disch := first | omega | assumption) only [l_0, l_1, l_2, l_3, l_4, l_5, l_6, l_7, l_8, l_11, l_12, l_15, l_16, l_31, l_32, l_66, l_80, l_100, l_127, l_128, l_768, l_2304, l_2310, l_2316, l_2388, l_2394, l_2406, l_2418, l_2430, l_2558, l_2686, l_2814, l_2942, l_3070, l_3390, l_3394, l_3395, l_3396, l_3397, n_leT, n_leF, n_ltT, n_ltF, n_eqT, n_eqF, nI_add, pk_mul, n_sub, z_ldn, z_san, z_bs, z_b2s, z_b3s, z_ocN, z_ocS, z_oxL, z_oxR, z_scL, z_scR, ↓reduceIte, Nat.zero_add, Nat.add_zero, Nat.zero_lt_succ, true_and, and_true, eq_self, n_div, n_mod, z_ldJn, z_saJn, f_blk, f_plc, l_9, l_10, l_13, l_14, l_17, l_18, l_19, l_20, l_21, l_22, l_24, l_28, l_60, l_61, l_62, l_64, l_98, l_99, z_ntR, z_ntwR, z_bz0, z_bz1, fL_snapshots_L2, g1, hm1]
    · have ec : CN = 1 := by omega
      subst ec
      simp (disch := first | omega | assumption) only [l_0, l_1, l_2, l_3, l_4, l_5, l_6, l_7, l_8, l_11, l_12, l_15, l_16, l_31, l_32, l_66, l_80, l_100, l_127, l_128, l_768, l_2304, l_2310, l_2316, l_2388, l_2394, l_2406, l_2418, l_2430, l_2558, l_2686, l_2814, l_2942, l_3070, l_3390, l_3394, l_3395, l_3396, l_3397, n_leT, n_leF, n_ltT, n_ltF, n_eqT, n_eqF, nI_add, pk_mul, n_sub, z_ldn, z_san, z_bs, z_b2s, z_b3s, z_ocN, z_ocS, z_oxL, z_oxR, z_scL, z_scR, ↓reduceIte, Nat.zero_add, Nat.add_zero, Nat.zero_lt_succ, true_and, and_true, eq_self, n_div, n_mod, z_ldJn, z_saJn, f_blk, f_plc, l_9, l_10, l_13, l_14, l_17, l_18, l_19, l_20, l_21, l_22, l_24, l_28, l_60, l_61, l_62, l_64, l_98, l_99, z_ntR, z_ntwR, z_bz0, z_bz1, fL_snapshots_L2, g1, hm1]
  · have e2 : 1 ≤ S (2394 + t) := by omega
    obtain ⟨g2, g3⟩ := (hM.2.2 t ht).2 cz
    have how := I_own6 hI t (by omega) cz
    by_cases cl : S (2394 + s) < S (2394 + t)
    · by_cases co : S (2418 + t) = d
      · rw [if_pos ⟨cl, co⟩]
        rw [co] at g2
        have hO := f_isO hM hI hn hs ht cz
        have hor := orN_1 (S := S) (s := t) (i := 6)
        by_cases cc : CN = 0
        · rw [cc]
          by_cases cr : orN S t 6 = 0
          · rw [if_neg (fun x => x.2 cr)]
            simp (disch := first | omega | assumption) only [l_0, l_1, l_2, l_3, l_4, l_5, l_6, l_7, l_8, l_11, l_12, l_15, l_16, l_31, l_32, l_66, l_80, l_100, l_127, l_128, l_768, l_2304, l_2310, l_2316, l_2388, l_2394, l_2406, l_2418, l_2430, l_2558, l_2686, l_2814, l_2942, l_3070, l_3390, l_3394, l_3395, l_3396, l_3397, n_leT, n_leF, n_ltT, n_ltF, n_eqT, n_eqF, nI_add, pk_mul, n_sub, z_ldn, z_san, z_bs, z_b2s, z_b3s, z_ocN, z_ocS, z_oxL, z_oxR, z_scL, z_scR, ↓reduceIte, Nat.zero_add, Nat.add_zero, Nat.zero_lt_succ, true_and, and_true, eq_self, n_div, n_mod, z_ldJn, z_saJn, f_blk, f_plc, l_9, l_10, l_13, l_14, l_17, l_18, l_19, l_20, l_21, l_22, l_24, l_28, l_60, l_61, l_62, l_64, l_98, l_99, z_ntR, z_ntwR, z_bz0, z_bz1, fL_snapshots_L2, g1, g2]
          · rw [if_pos ⟨⟨cl, co⟩, cr⟩]
            simp (disch := first | omega | assumption) only [l_0, l_1, l_2, l_3, l_4, l_5, l_6, l_7, l_8, l_11, l_12, l_15, l_16, l_31, l_32, l_66, l_80, l_100, l_127, l_128, l_768, l_2304, l_2310, l_2316, l_2388, l_2394, l_2406, l_2418, l_2430, l_2558, l_2686, l_2814, l_2942, l_3070, l_3390, l_3394, l_3395, l_3396, l_3397, n_leT, n_leF, n_ltT, n_ltF, n_eqT, n_eqF, nI_add, pk_mul, n_sub, z_ldn, z_san, z_bs, z_b2s, z_b3s, z_ocN, z_ocS, z_oxL, z_oxR, z_scL, z_scR, ↓reduceIte, Nat.zero_add, Nat.add_zero, Nat.zero_lt_succ, true_and, and_true, eq_self, n_div, n_mod, z_ldJn, z_saJn, f_blk, f_plc, l_9, l_10, l_13, l_14, l_17, l_18, l_19, l_20, l_21, l_22, l_24, l_28, l_60, l_61, l_62, l_64, l_98, l_99, z_ntR, z_ntwR, z_bz0, z_bz1, fL_snapshots_L2, g1, g2]
        · have ec : CN = 1 := by omega
          rw [ec]
          by_cases cr : orN S t 6 = 0
          · rw [if_neg (fun x => x.2 cr)]
            rw [cr] at hO
            simp (disch := first | omega | assumption) only [l_0, l_1, l_2, l_3, l_4, l_5, l_6, l_7, l_8, l_11, l_12, l_15, l_16, l_31, l_32, l_66, l_80, l_100, l_127, l_128, l_768, l_2304, l_2310, l_2316, l_2388, l_2394, l_2406, l_2418, l_2430, l_2558, l_2686, l_2814, l_2942, l_3070, l_3390, l_3394, l_3395, l_3396, l_3397, n_leT, n_leF, n_ltT, n_ltF, n_eqT, n_eqF, nI_add, pk_mul, n_sub, z_ldn, z_san, z_bs, z_b2s, z_b3s, z_ocN, z_ocS, z_oxL, z_oxR, z_scL, z_scR, ↓reduceIte, Nat.zero_add, Nat.add_zero, Nat.zero_lt_succ, true_and, and_true, eq_self, n_div, n_mod, z_ldJn, z_saJn, f_blk, f_plc, l_9, l_10, l_13, l_14, l_17, l_18, l_19, l_20, l_21, l_22, l_24, l_28, l_60, l_61, l_62, l_64, l_98, l_99, z_ntR, z_ntwR, z_bz0, z_bz1, fL_snapshots_L2, g1, g2, hO]
          · have er : orN S t 6 = 1 := by omega
            rw [if_pos ⟨⟨cl, co⟩, cr⟩]
            rw [er] at hO
            simp (disch := first | omega | assumption) only [l_0, l_1, l_2, l_3, l_4, l_5, l_6, l_7, l_8, l_11, l_12, l_15, l_16, l_31, l_32, l_66, l_80, l_100, l_127, l_128, l_768, l_2304, l_2310, l_2316, l_2388, l_2394, l_2406, l_2418, l_2430, l_2558, l_2686, l_2814, l_2942, l_3070, l_3390, l_3394, l_3395, l_3396, l_3397, n_leT, n_leF, n_ltT, n_ltF, n_eqT, n_eqF, nI_add, pk_mul, n_sub, z_ldn, z_san, z_bs, z_b2s, z_b3s, z_ocN, z_ocS, z_oxL, z_oxR, z_scL, z_scR, ↓reduceIte, Nat.zero_add, Nat.add_zero, Nat.zero_lt_succ, true_and, and_true, eq_self, n_div, n_mod, z_ldJn, z_saJn, f_blk, f_plc, l_9, l_10, l_13, l_14, l_17, l_18, l_19, l_20, l_21, l_22, l_24, l_28, l_60, l_61, l_62, l_64, l_98, l_99, z_ntR, z_ntwR, z_bz0, z_bz1, fL_snapshots_L2, g1, g2, hO]
      · rw [if_neg (fun x => co x.2), if_neg (fun x => co x.1.2)]
        by_cases cc : CN = 0
        · rw [cc]
          simp (disch := first | omega | assumption) only [l_0, l_1, l_2, l_3, l_4, l_5, l_6, l_7, l_8, l_11, l_12, l_15, l_16, l_31, l_32, l_66, l_80, l_100, l_127, l_128, l_768, l_2304, l_2310, l_2316, l_2388, l_2394, l_2406, l_2418, l_2430, l_2558, l_2686, l_2814, l_2942, l_3070, l_3390, l_3394, l_3395, l_3396, l_3397, n_leT, n_leF, n_ltT, n_ltF, n_eqT, n_eqF, nI_add, pk_mul, n_sub, z_ldn, z_san, z_bs, z_b2s, z_b3s, z_ocN, z_ocS, z_oxL, z_oxR, z_scL, z_scR, ↓reduceIte, Nat.zero_add, Nat.add_zero, Nat.zero_lt_succ, true_and, and_true, eq_self, n_div, n_mod, z_ldJn, z_saJn, f_blk, f_plc, l_9, l_10, l_13, l_14, l_17, l_18, l_19, l_20, l_21, l_22, l_24, l_28, l_60, l_61, l_62, l_64, l_98, l_99, z_ntR, z_ntwR, z_bz0, z_bz1, fL_snapshots_L2, g1, g2]
        · have ec : CN = 1 := by omega
          rw [ec]
          simp (disch := first | omega | assumption) only [l_0, l_1, l_2, l_3, l_4, l_5, l_6, l_7, l_8, l_11, l_12, l_15, l_16, l_31, l_32, l_66, l_80, l_100, l_127, l_128, l_768, l_2304, l_2310, l_2316, l_2388, l_2394, l_2406, l_2418, l_2430, l_2558, l_2686, l_2814, l_2942, l_3070, l_3390, l_3394, l_3395, l_3396, l_3397, n_leT, n_leF, n_ltT, n_ltF, n_eqT, n_eqF, nI_add, pk_mul, n_sub, z_ldn, z_san, z_bs, z_b2s, z_b3s, z_ocN, z_ocS, z_oxL, z_oxR, z_scL, z_scR, ↓reduceIte, Nat.zero_add, Nat.add_zero, Nat.zero_lt_succ, true_and, and_true, eq_self, n_div, n_mod, z_ldJn, z_saJn, f_blk, f_plc, l_9, l_10, l_13, l_14, l_17, l_18, l_19, l_20, l_21, l_22, l_24, l_28, l_60, l_61, l_62, l_64, l_98, l_99, z_ntR, z_ntwR, z_bz0, z_bz1, fL_snapshots_L2, g1, g2]
    · rw [if_neg (fun x => cl x.1), if_neg (fun x => cl x.1.1)]
      by_cases cc : CN = 0
      · rw [cc]
        simp (disch := first | omega | assumption) only [l_0, l_1, l_2, l_3, l_4, l_5, l_6, l_7, l_8, l_11, l_12, l_15, l_16, l_31, l_32, l_66, l_80, l_100, l_127, l_128, l_768, l_2304, l_2310, l_2316, l_2388, l_2394, l_2406, l_2418, l_2430, l_2558, l_2686, l_2814, l_2942, l_3070, l_3390, l_3394, l_3395, l_3396, l_3397, n_leT, n_leF, n_ltT, n_ltF, n_eqT, n_eqF, nI_add, pk_mul, n_sub, z_ldn, z_san, z_bs, z_b2s, z_b3s, z_ocN, z_ocS, z_oxL, z_oxR, z_scL, z_scR, ↓reduceIte, Nat.zero_add, Nat.add_zero, Nat.zero_lt_succ, true_and, and_true, eq_self, n_div, n_mod, z_ldJn, z_saJn, f_blk, f_plc, l_9, l_10, l_13, l_14, l_17, l_18, l_19, l_20, l_21, l_22, l_24, l_28, l_60, l_61, l_62, l_64, l_98, l_99, z_ntR, z_ntwR, z_bz0, z_bz1, fL_snapshots_L2, g1]
      · have ec : CN = 1 := by omega
        rw [ec]
        simp (disch := first | omega | assumption) only [l_0, l_1, l_2, l_3, l_4, l_5, l_6, l_7, l_8, l_11, l_12, l_15, l_16, l_31, l_32, l_66, l_80, l_100, l_127, l_128, l_768, l_2304, l_2310, l_2316, l_2388, l_2394, l_2406, l_2418, l_2430, l_2558, l_2686, l_2814, l_2942, l_3070, l_3390, l_3394, l_3395, l_3396, l_3397, n_leT, n_leF, n_ltT, n_ltF, n_eqT, n_eqF, nI_add, pk_mul, n_sub, z_ldn, z_san, z_bs, z_b2s, z_b3s, z_ocN, z_ocS, z_oxL, z_oxR, z_scL, z_scR, ↓reduceIte, Nat.zero_add, Nat.add_zero, Nat.zero_lt_succ, true_and, and_true, eq_self, n_div, n_mod, z_ldJn, z_saJn, f_blk, f_plc, l_9, l_10, l_13, l_14, l_17, l_18, l_19, l_20, l_21, l_22, l_24, l_28, l_60, l_61, l_62, l_64, l_98, l_99, z_ntR, z_ntwR, z_bz0, z_bz1, fL_snapshots_L2, g1]
