/-! ===== the calls that change nothing ===== -/
/-- cells that calls may change without changing what is stored -/
def z_same (M M' : zM) : Prop := ∀ k, k ≠ 167 → k ≠ 168 → k ≠ 169 → k ≠ 172 → k ≠ 173 → k ≠ 174 → (∀ r, r < 4 → k ≠ 68 + 5 * r) → M' k = M k
theorem z_P_same {n : Nat} {M M' : zM} (h : z_P n M) (hs : z_same M M') : z_P (n + 1) M' :=
  z_P_cg h (fun k q1 q2 q3 => hs k (by omega) (by omega) (by omega) (by omega) (by omega) (by omega) q3) (hs 170 (by decide) (by decide) (by decide) (by decide) (by decide) (by decide) (fun r _ => by omega)) (hs 171 (by decide) (by decide) (by decide) (by decide) (by decide) (by decide) (fun r _ => by omega))
theorem ro3 {n : Nat} {M : zM} (h : z_P n M) {Ho : Option (Int32 × zM)} {Mo : zM → Option (Int32 × zM)} (hh : (∃ k b M2 M4, k ≠ 0 ∧ Ho = some (k, M2) ∧ Mo M2 = some (b, M4) ∧ M4 169 4 = k ∧ z_same M M4) ∨ (∃ v M2 M4, Ho = some (0, z_st M2 174 0 v) ∧ Mo (z_st M2 174 0 v) = some (v, M4) ∧ M4 169 4 = 0 ∧ M4 174 0 = v ∧ z_same M M4)) : ∃ M9, (z_b2 Ho fun x1 M2 => z_b2 (Mo M2) fun x3 M4 => (fX7_thrown 169 M4).bind fun x5 => if x5 = x1 then (if x1 = 0 then ((z_ld M4 174 1 0).bind fun x8 => if (lg_cmp (x8).toInt64 (x3).toInt64) = 0 then (some ((1 : Int32), M4)) else (some (0, M4))) else (some (1, M4))) else (some (0, M4))) = some (1, M9) ∧ z_P (n + 1) M9 := by
  rcases hh with ⟨k, b, M2, M4, h0, h1, h2, h3, h4⟩ | ⟨v, M2, M4, h1, h2, h3, h4, h5⟩
  · exact ⟨M4, chk h1 h2 h3 (fun q => absurd q h0), z_P_same h h4⟩
  · exact ⟨M4, chk h1 h2 h3 (fun _ => h4), z_P_same h h5⟩
theorem z_same_st {M M' : zM} {k j : Nat} {v : Int32} (h : z_same M M') (hk : k = 167 ∨ k = 168 ∨ k = 169 ∨ k = 172 ∨ k = 173 ∨ k = 174) : z_same M (z_st M' k j v) := fun a q1 q2 q3 q4 q5 q6 q7 => by
  rw [s_n (by omega)]
  exact h a q1 q2 q3 q4 q5 q6 q7
theorem z_same_rfl {M : zM} : z_same M M := fun _ _ _ _ _ _ _ _ => rfl
/-- the class says E or v, and changes nothing; the model says so too -/
theorem ro2 {n : Nat} {M : zM} (h : z_P n M) {Ho : Option (Int32 × zM)} {Mo : zM → Option (Int32 × zM)} (hh : (∃ k b, k ≠ 0 ∧ Ho = some (k, M) ∧ Mo M = some (b, z_st M 169 4 k)) ∨ (∃ v, Ho = some (0, z_st M 174 0 v) ∧ ∀ M', M' 170 = M 170 → Mo M' = some (v, z_st M' 169 4 (nI 0)))) : ∃ M9, (z_b2 Ho fun x1 M2 => z_b2 (Mo M2) fun x3 M4 => (fX7_thrown 169 M4).bind fun x5 => if x5 = x1 then (if x1 = 0 then ((z_ld M4 174 1 0).bind fun x8 => if (lg_cmp (x8).toInt64 (x3).toInt64) = 0 then (some ((1 : Int32), M4)) else (some (0, M4))) else (some (1, M4))) else (some (0, M4))) = some (1, M9) ∧ z_P (n + 1) M9 := by
  refine ro3 h ?_
  rcases hh with ⟨k, b, h0, h1, h2⟩ | ⟨v, h1, h2⟩
  · exact Or.inl ⟨k, b, M, _, h0, h1, h2, by rw [s_s, u_s], z_same_st z_same_rfl (by omega)⟩
  · exact Or.inr ⟨v, M, _, h1, h2 _ rfl, by rw [s_s, u_s]; rfl, by rw [s_n (by decide), s_s, u_s], z_same_st (z_same_st z_same_rfl (by omega)) (by omega)⟩
theorem roIO {n : Nat} {M : zM} (h : z_P n M) {Hc : Option (String ⊕ Int32)} {Mo : zM → Option (Int32 × zM)} (hh : (Hc = some (.inl "java/lang/IndexOutOfBoundsException") ∧ ∃ b, Mo M = some (b, z_st M 169 4 (nI 1))) ∨ (∃ v, Hc = some (.inr v) ∧ ∀ M', M' 170 = M 170 → Mo M' = some (v, z_st M' 169 4 (nI 0)))) : ∃ M9, (z_b2 (Hc.bind fun o1 => z_ox o1 (fun E9 => if E9 = "java/lang/IndexOutOfBoundsException" then (some (1, M)) else (none)) (fun x2 => (z_sa M 174 1 0 x2).bind fun M3 => some (0, M3))) fun x1 M2 => z_b2 (Mo M2) fun x3 M4 => (fX7_thrown 169 M4).bind fun x5 => if x5 = x1 then (if x1 = 0 then ((z_ld M4 174 1 0).bind fun x8 => if (lg_cmp (x8).toInt64 (x3).toInt64) = 0 then (some ((1 : Int32), M4)) else (some (0, M4))) else (some (1, M4))) else (some (0, M4))) = some (1, M9) ∧ z_P (n + 1) M9 := by
  refine ro2 h ?_
  rcases hh with ⟨h1, b, h2⟩ | ⟨v, h1, h2⟩
  · exact Or.inl ⟨nI 1, b, by decide, by rw [h1, z_bs, z_oxL, if_pos rfl]; rfl, h2⟩
  · exact Or.inr ⟨v, by rw [h1, z_bs, z_oxR, show (0 : Int32) = nI 0 from rfl, z_san (by decide) (by decide), z_bs], h2⟩
/-- what calls read, of the class and of the model -/
theorem N1 {M : zM} {S : Nat → Nat} (h : z_N (M 170) S) : ∀ k, k < 2430 → M (169 + 1) k = nI (S k) := h.1
theorem N2 {M : zM} {S : Nat → Nat} (h : z_N (M 170) S) : ∀ k, 2558 ≤ k → k < 3070 → M (169 + 1) k = nI (S k) := h.2.1
theorem N3 {M : zM} {S : Nat → Nat} (h : z_N (M 170) S) : ∀ k, 3390 ≤ k → k < 3397 → M (169 + 1) k = nI (S k) := h.2.2
theorem cVal0 {sp : Nat} {M : zM} : fX3_valueOf sp (nI 0 - nI 1) M = some (nI 0) := by
  unfold fX3_valueOf
  simp (disch := first | omega | assumption) only [l_0, l_1, l_2, l_3, l_4, l_5, l_6, l_7, l_8, l_11, l_12, l_15, l_16, l_31, l_32, l_66, l_80, l_100, l_127, l_128, l_768, l_2304, l_2310, l_2316, l_2388, l_2394, l_2406, l_2418, l_2430, l_2558, l_2686, l_2814, l_2942, l_3070, l_3390, l_3394, l_3395, l_3396, l_3397, n_leT, n_leF, n_ltT, n_ltF, n_eqT, n_eqF, nI_add, pk_mul, n_sub, z_ldn, z_san, z_bs, z_b2s, z_b3s, z_ocN, z_ocS, z_oxL, z_oxR, z_scL, z_scR, ↓reduceIte, st_170, st_171, st_172, st_173, Nat.zero_add, Nat.add_zero, Nat.zero_lt_succ, true_and, and_true, eq_self, cIb0]
theorem cVal {sp b : Nat} {M : zM} (hb : b < 128) : fX3_valueOf sp (nI b) M = some (M (sp + 2) b) := by
  unfold fX3_valueOf
  simp (disch := first | omega | assumption) only [l_0, l_1, l_2, l_3, l_4, l_5, l_6, l_7, l_8, l_11, l_12, l_15, l_16, l_31, l_32, l_66, l_80, l_100, l_127, l_128, l_768, l_2304, l_2310, l_2316, l_2388, l_2394, l_2406, l_2418, l_2430, l_2558, l_2686, l_2814, l_2942, l_3070, l_3390, l_3394, l_3395, l_3396, l_3397, n_leT, n_leF, n_ltT, n_ltF, n_eqT, n_eqF, nI_add, pk_mul, n_sub, z_ldn, z_san, z_bs, z_b2s, z_b3s, z_ocN, z_ocS, z_oxL, z_oxR, z_scL, z_scR, ↓reduceIte, st_170, st_171, st_172, st_173, Nat.zero_add, Nat.add_zero, Nat.zero_lt_succ, true_and, and_true, eq_self, cIb]
theorem mVal0 {M : zM} {k : Nat} (hk : k < 3397) (h : M (169 + 1) k = nI 0) : fX7_valueAt 169 (nI k) M = some (nI 0) := by
  unfold fX7_valueAt
  simp (disch := first | omega | assumption) only [l_0, l_1, l_2, l_3, l_4, l_5, l_6, l_7, l_8, l_11, l_12, l_15, l_16, l_31, l_32, l_66, l_80, l_100, l_127, l_128, l_768, l_2304, l_2310, l_2316, l_2388, l_2394, l_2406, l_2418, l_2430, l_2558, l_2686, l_2814, l_2942, l_3070, l_3390, l_3394, l_3395, l_3396, l_3397, n_leT, n_leF, n_ltT, n_ltF, n_eqT, n_eqF, nI_add, pk_mul, n_sub, z_ldn, z_san, z_bs, z_b2s, z_b3s, z_ocN, z_ocS, z_oxL, z_oxR, z_scL, z_scR, ↓reduceIte, st_170, st_171, st_172, st_173, Nat.zero_add, Nat.add_zero, Nat.zero_lt_succ, true_and, and_true, eq_self, h]
theorem mVal {M : zM} {k x : Nat} (hk : k < 3397) (h : M (169 + 1) k = nI x) (h0 : 1 ≤ x) (h1 : x ≤ 128) : fX7_valueAt 169 (nI k) M = some (M (169 + 1) (2430 + (x - 1))) := by
  unfold fX7_valueAt
  have e : 2430 + x - 1 = 2430 + (x - 1) := by omega
  simp (disch := first | omega | assumption) only [l_0, l_1, l_2, l_3, l_4, l_5, l_6, l_7, l_8, l_11, l_12, l_15, l_16, l_31, l_32, l_66, l_80, l_100, l_127, l_128, l_768, l_2304, l_2310, l_2316, l_2388, l_2394, l_2406, l_2418, l_2430, l_2558, l_2686, l_2814, l_2942, l_3070, l_3390, l_3394, l_3395, l_3396, l_3397, n_leT, n_leF, n_ltT, n_ltF, n_eqT, n_eqF, nI_add, pk_mul, n_sub, z_ldn, z_san, z_bs, z_b2s, z_b3s, z_ocN, z_ocS, z_oxL, z_oxR, z_scL, z_scR, ↓reduceIte, st_170, st_171, st_172, st_173, Nat.zero_add, Nat.add_zero, Nat.zero_lt_succ, true_and, and_true, eq_self, h, e]
theorem z_bz0 {α : Type} {o : Option α} : z_bz (nI 0) o = o := if_pos (Or.inl rfl)
theorem z_bz1 {α : Type} {o : Option α} : z_bz (nI 1) o = o := if_pos (Or.inr rfl)
theorem mKn_ok {M : zM} {S : Nat → Nat} (hN : ∀ k, k < 2430 → M (169 + 1) k = nI (S k)) {d f i : Nat} (hd : d < 6) (h : S (2304 + d) = 1) (hf : f < 8) (hi : i < 16) : fX7_isKnown 169 (nI d) (nI f) (nI i) M = some (nI 1, z_st M 169 4 (nI 0)) := by
  unfold fX7_isKnown
  simp (disch := first | omega | assumption) only [l_0, l_1, l_2, l_3, l_4, l_5, l_6, l_7, l_8, l_11, l_12, l_15, l_16, l_31, l_32, l_66, l_80, l_100, l_127, l_128, l_768, l_2304, l_2310, l_2316, l_2388, l_2394, l_2406, l_2418, l_2430, l_2558, l_2686, l_2814, l_2942, l_3070, l_3390, l_3394, l_3395, l_3396, l_3397, n_leT, n_leF, n_ltT, n_ltF, n_eqT, n_eqF, nI_add, pk_mul, n_sub, z_ldn, z_san, z_bs, z_b2s, z_b3s, z_ocN, z_ocS, z_oxL, z_oxR, z_scL, z_scR, ↓reduceIte, st_170, st_171, st_172, st_173, Nat.zero_add, Nat.add_zero, Nat.zero_lt_succ, true_and, and_true, eq_self, mSet_ok hN hd h, mSpot_ok, mFits0, z_bz1]
theorem mKn_no {M : zM} {S : Nat → Nat} (hN : ∀ k, k < 2430 → M (169 + 1) k = nI (S k)) {a c e : Int32} (h : (∀ d, d < 6 → a = nI d → S (2304 + d) = 0) ∨ ∃ d, d < 6 ∧ a = nI d ∧ S (2304 + d) = 1 ∧ ¬ (z_is c 8 ∧ z_is e 16)) : fX7_isKnown 169 a c e M = some (nI 0, z_st M 169 4 (nI 1)) := by
  unfold fX7_isKnown
  rcases h with h | ⟨d, hd, rfl, h, h2⟩
  · simp (disch := first | omega | assumption) only [l_0, l_1, l_2, l_3, l_4, l_5, l_6, l_7, l_8, l_11, l_12, l_15, l_16, l_31, l_32, l_66, l_80, l_100, l_127, l_128, l_768, l_2304, l_2310, l_2316, l_2388, l_2394, l_2406, l_2418, l_2430, l_2558, l_2686, l_2814, l_2942, l_3070, l_3390, l_3394, l_3395, l_3396, l_3397, n_leT, n_leF, n_ltT, n_ltF, n_eqT, n_eqF, nI_add, pk_mul, n_sub, z_ldn, z_san, z_bs, z_b2s, z_b3s, z_ocN, z_ocS, z_oxL, z_oxR, z_scL, z_scR, ↓reduceIte, st_170, st_171, st_172, st_173, Nat.zero_add, Nat.add_zero, Nat.zero_lt_succ, true_and, and_true, eq_self, mSet_no hN h, mFits1, z_bz0]
  · simp (disch := first | omega | assumption) only [l_0, l_1, l_2, l_3, l_4, l_5, l_6, l_7, l_8, l_11, l_12, l_15, l_16, l_31, l_32, l_66, l_80, l_100, l_127, l_128, l_768, l_2304, l_2310, l_2316, l_2388, l_2394, l_2406, l_2418, l_2430, l_2558, l_2686, l_2814, l_2942, l_3070, l_3390, l_3394, l_3395, l_3396, l_3397, n_leT, n_leF, n_ltT, n_ltF, n_eqT, n_eqF, nI_add, pk_mul, n_sub, z_ldn, z_san, z_bs, z_b2s, z_b3s, z_ocN, z_ocS, z_oxL, z_oxR, z_scL, z_scR, ↓reduceIte, st_170, st_171, st_172, st_173, Nat.zero_add, Nat.add_zero, Nat.zero_lt_succ, true_and, and_true, eq_self, mSet_ok hN hd h, mSpot_no h2, mFits1, z_bz0]
theorem mSp {M : zM} {d f i : Nat} : fX7_spot (nI d) (nI f) (nI i) M = some (nI (128 * d + (16 * f + i))) := by
  unfold fX7_spot
  simp (disch := first | omega | assumption) only [l_0, l_1, l_2, l_3, l_4, l_5, l_6, l_7, l_8, l_11, l_12, l_15, l_16, l_31, l_32, l_66, l_80, l_100, l_127, l_128, l_768, l_2304, l_2310, l_2316, l_2388, l_2394, l_2406, l_2418, l_2430, l_2558, l_2686, l_2814, l_2942, l_3070, l_3390, l_3394, l_3395, l_3396, l_3397, n_leT, n_leF, n_ltT, n_ltF, n_eqT, n_eqF, nI_add, pk_mul, n_sub, z_ldn, z_san, z_bs, z_b2s, z_b3s, z_ocN, z_ocS, z_oxL, z_oxR, z_scL, z_scR, ↓reduceIte, st_170, st_171, st_172, st_173, Nat.zero_add, Nat.add_zero, Nat.zero_lt_succ, true_and, and_true, eq_self, Nat.add_assoc]
theorem op_1 {n : Nat} {M : zM} (h : z_P n M) (a1 a2 a3 a4 a5 a6 : Int32) : ∃ M9, fL_c1 a1 a2 a3 a4 a5 a6 M = some (1, M9) ∧ z_P (n + 1) M9 := by
  obtain ⟨S, S0, hN, _, hR, _, hI, _⟩ := id h
  unfold fL_c1 fL_read
  refine roIO h ?_
  have hN1 := N1 hN
  rcases ds_cases a1 (I_ex hI) with ⟨d, hd, rfl, h1⟩ | h1
  · rcases pl_cases a2 a3 with ⟨f, i, hf, hi, rfl, rfl⟩ | h2
    · have hp : 16 * f + i < 128 := by omega
      have hk := kd1_ds hd
      have hx := I_tab hI (128 * d + (16 * f + i)) (by omega)
      have hT := hR.1 d (by omega) (16 * f + i) hp
      right
      rcases Nat.eq_zero_or_pos (S (128 * d + (16 * f + i))) with q | q
      · refine ⟨nI 0, ?_, fun M' hM => ?_⟩
        · unfold fX6_read
          simp (disch := first | omega | assumption) only [l_0, l_1, l_2, l_3, l_4, l_5, l_6, l_7, l_8, l_11, l_12, l_15, l_16, l_31, l_32, l_66, l_80, l_100, l_127, l_128, l_768, l_2304, l_2310, l_2316, l_2388, l_2394, l_2406, l_2418, l_2430, l_2558, l_2686, l_2814, l_2942, l_3070, l_3390, l_3394, l_3395, l_3396, l_3397, n_leT, n_leF, n_ltT, n_ltF, n_eqT, n_eqF, nI_add, pk_mul, n_sub, z_ldn, z_san, z_bs, z_b2s, z_b3s, z_ocN, z_ocS, z_oxL, z_oxR, z_scL, z_scR, ↓reduceIte, st_170, st_171, st_172, st_173, Nat.zero_add, Nat.add_zero, Nat.zero_lt_succ, true_and, and_true, eq_self, cDs_ok hR.2.1 hd h1, z_gdp hk, cPl_ok hf hi, cBo hp, hT, q, cVal0]
        · have hN2 : ∀ k, k < 2430 → M' (169 + 1) k = nI (S k) := fun k hk => by rw [show M' (169 + 1) = M 170 from hM]; exact hN1 k hk
          unfold fX7_read
          rw [mKn_ok hN2 hd h1 hf hi, z_b2s]
          simp (disch := first | omega | assumption) only [l_0, l_1, l_2, l_3, l_4, l_5, l_6, l_7, l_8, l_11, l_12, l_15, l_16, l_31, l_32, l_66, l_80, l_100, l_127, l_128, l_768, l_2304, l_2310, l_2316, l_2388, l_2394, l_2406, l_2418, l_2430, l_2558, l_2686, l_2814, l_2942, l_3070, l_3390, l_3394, l_3395, l_3396, l_3397, n_leT, n_leF, n_ltT, n_ltF, n_eqT, n_eqF, nI_add, pk_mul, n_sub, z_ldn, z_san, z_bs, z_b2s, z_b3s, z_ocN, z_ocS, z_oxL, z_oxR, z_scL, z_scR, ↓reduceIte, st_170, st_171, st_172, st_173, Nat.zero_add, Nat.add_zero, Nat.zero_lt_succ, true_and, and_true, eq_self, mSp]
          rw [mVal0 (by omega) (by rw [st_170, hN2 _ (by omega), q]), z_bs]
      · refine ⟨M (1 + 3 + 2) (S (128 * d + (16 * f + i)) - 1), ?_, fun M' hM => ?_⟩
        · unfold fX6_read
          simp (disch := first | omega | assumption) only [l_0, l_1, l_2, l_3, l_4, l_5, l_6, l_7, l_8, l_11, l_12, l_15, l_16, l_31, l_32, l_66, l_80, l_100, l_127, l_128, l_768, l_2304, l_2310, l_2316, l_2388, l_2394, l_2406, l_2418, l_2430, l_2558, l_2686, l_2814, l_2942, l_3070, l_3390, l_3394, l_3395, l_3396, l_3397, n_leT, n_leF, n_ltT, n_ltF, n_eqT, n_eqF, nI_add, pk_mul, n_sub, z_ldn, z_san, z_bs, z_b2s, z_b3s, z_ocN, z_ocS, z_oxL, z_oxR, z_scL, z_scR, ↓reduceIte, st_170, st_171, st_172, st_173, Nat.zero_add, Nat.add_zero, Nat.zero_lt_succ, true_and, and_true, eq_self, cDs_ok hR.2.1 hd h1, z_gdp hk, cPl_ok hf hi, cBo hp, hT, cVal]
        · have hN2 : ∀ k, k < 2430 → M' (169 + 1) k = nI (S k) := fun k hk => by rw [show M' (169 + 1) = M 170 from hM]; exact hN1 k hk
          unfold fX7_read
          rw [mKn_ok hN2 hd h1 hf hi, z_b2s]
          simp (disch := first | omega | assumption) only [l_0, l_1, l_2, l_3, l_4, l_5, l_6, l_7, l_8, l_11, l_12, l_15, l_16, l_31, l_32, l_66, l_80, l_100, l_127, l_128, l_768, l_2304, l_2310, l_2316, l_2388, l_2394, l_2406, l_2418, l_2430, l_2558, l_2686, l_2814, l_2942, l_3070, l_3390, l_3394, l_3395, l_3396, l_3397, n_leT, n_leF, n_ltT, n_ltF, n_eqT, n_eqF, nI_add, pk_mul, n_sub, z_ldn, z_san, z_bs, z_b2s, z_b3s, z_ocN, z_ocS, z_oxL, z_oxR, z_scL, z_scR, ↓reduceIte, st_170, st_171, st_172, st_173, Nat.zero_add, Nat.add_zero, Nat.zero_lt_succ, true_and, and_true, eq_self, mSp]
          rw [mVal (by omega) (by rw [st_170, hN2 _ (by omega)]) q hx, z_bs, st_170, show M' (169 + 1) = M 170 from hM, (hR.2.2.2.1 _ (by omega)).2.1]
    · left
      refine ⟨?_, nI 0, ?_⟩
      · unfold fX6_read
        simp (disch := first | omega | assumption) only [l_0, l_1, l_2, l_3, l_4, l_5, l_6, l_7, l_8, l_11, l_12, l_15, l_16, l_31, l_32, l_66, l_80, l_100, l_127, l_128, l_768, l_2304, l_2310, l_2316, l_2388, l_2394, l_2406, l_2418, l_2430, l_2558, l_2686, l_2814, l_2942, l_3070, l_3390, l_3394, l_3395, l_3396, l_3397, n_leT, n_leF, n_ltT, n_ltF, n_eqT, n_eqF, nI_add, pk_mul, n_sub, z_ldn, z_san, z_bs, z_b2s, z_b3s, z_ocN, z_ocS, z_oxL, z_oxR, z_scL, z_scR, ↓reduceIte, st_170, st_171, st_172, st_173, Nat.zero_add, Nat.add_zero, Nat.zero_lt_succ, true_and, and_true, eq_self, cDs_ok hR.2.1 hd h1, z_gdp (kd1_ds hd), cPl_no h2]
      · unfold fX7_read
        rw [mKn_no hN1 (Or.inr ⟨d, hd, rfl, h1, h2⟩), z_b2s]
        simp (disch := first | omega | assumption) only [l_0, l_1, l_2, l_3, l_4, l_5, l_6, l_7, l_8, l_11, l_12, l_15, l_16, l_31, l_32, l_66, l_80, l_100, l_127, l_128, l_768, l_2304, l_2310, l_2316, l_2388, l_2394, l_2406, l_2418, l_2430, l_2558, l_2686, l_2814, l_2942, l_3070, l_3390, l_3394, l_3395, l_3396, l_3397, n_leT, n_leF, n_ltT, n_ltF, n_eqT, n_eqF, nI_add, pk_mul, n_sub, z_ldn, z_san, z_bs, z_b2s, z_b3s, z_ocN, z_ocS, z_oxL, z_oxR, z_scL, z_scR, ↓reduceIte, st_170, st_171, st_172, st_173, Nat.zero_add, Nat.add_zero, Nat.zero_lt_succ, true_and, and_true, eq_self]
  · left
    refine ⟨?_, nI 0, ?_⟩
    · unfold fX6_read
      simp (disch := first | omega | assumption) only [l_0, l_1, l_2, l_3, l_4, l_5, l_6, l_7, l_8, l_11, l_12, l_15, l_16, l_31, l_32, l_66, l_80, l_100, l_127, l_128, l_768, l_2304, l_2310, l_2316, l_2388, l_2394, l_2406, l_2418, l_2430, l_2558, l_2686, l_2814, l_2942, l_3070, l_3390, l_3394, l_3395, l_3396, l_3397, n_leT, n_leF, n_ltT, n_ltF, n_eqT, n_eqF, nI_add, pk_mul, n_sub, z_ldn, z_san, z_bs, z_b2s, z_b3s, z_ocN, z_ocS, z_oxL, z_oxR, z_scL, z_scR, ↓reduceIte, st_170, st_171, st_172, st_173, Nat.zero_add, Nat.add_zero, Nat.zero_lt_succ, true_and, and_true, eq_self, cDs_no hR.2.1 h1]
    · unfold fX7_read
      rw [mKn_no hN1 (Or.inl h1), z_b2s]
      simp (disch := first | omega | assumption) only [l_0, l_1, l_2, l_3, l_4, l_5, l_6, l_7, l_8, l_11, l_12, l_15, l_16, l_31, l_32, l_66, l_80, l_100, l_127, l_128, l_768, l_2304, l_2310, l_2316, l_2388, l_2394, l_2406, l_2418, l_2430, l_2558, l_2686, l_2814, l_2942, l_3070, l_3390, l_3394, l_3395, l_3396, l_3397, n_leT, n_leF, n_ltT, n_ltF, n_eqT, n_eqF, nI_add, pk_mul, n_sub, z_ldn, z_san, z_bs, z_b2s, z_b3s, z_ocN, z_ocS, z_oxL, z_oxR, z_scL, z_scR, ↓reduceIte, st_170, st_171, st_172, st_173, Nat.zero_add, Nat.add_zero, Nat.zero_lt_succ, true_and, and_true, eq_self]
