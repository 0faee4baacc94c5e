theorem z_Is_S3 {n m : Nat} {S S' : Nat → Nat} (h : z_Is n S) (hc : ∀ k, 2304 ≤ k → k < 2430 → S' k = S k) (h94 : S' 3394 = S 3394) (b1 : ∀ r, r < 4 → S' (3390 + r) ≤ 34) (b2 : S' 3394 ≤ m ∧ S' 3395 ≤ m + 1 ∧ S' 3396 ≤ 4 * m) (b3 : ∀ s, s < 12 → S' (2406 + s) ≤ m + 1) : z_Is m S' := by
  have h2 := z_Is_S (S' := fun k => if k < 2430 then S' k else S k) h (fun k k1 k2 => by
    show (if k < 2430 then S' k else S k) = S k
    rw [if_pos k2]
    exact hc k k1 k2) (fun k k1 k2 => if_neg (by omega))
  obtain ⟨i1, i2, i3, i4, i5, i6, i7, i8, _, _⟩ := h
  have e0 : ∀ d, d < 6 → S' (2304 + d) = S (2304 + d) := fun d hd => hc _ (by omega) (by omega)
  have e1 : ∀ d, d < 6 → S' (2310 + d) = S (2310 + d) := fun d hd => hc _ (by omega) (by omega)
  have e2 : ∀ d, d < 6 → S' (2388 + d) = S (2388 + d) := fun d hd => hc _ (by omega) (by omega)
  have e3 : ∀ s, s < 12 → S' (2394 + s) = S (2394 + s) := fun d hd => hc _ (by omega) (by omega)
  have e4 : ∀ s, s < 12 → S' (2418 + s) = S (2418 + s) := fun d hd => hc _ (by omega) (by omega)
  have e5 : ∀ d r, d < 6 → r < 12 → z_ord S' d r = z_ord S d r := fun d r hd hr => hc _ (by omega) (by omega)
  refine ⟨fun d hd => by rw [e0 d hd]; exact i1 d hd, ?_, fun d hd => by rw [e0 d hd, e1 d hd, e2 d hd]; exact i3 d hd, fun s hs => ?_, fun s t hs ht => by rw [e3 s hs, e3 t ht]; exact i5 s t hs ht, fun d hd => ?_, fun d hd r q hr hq => ?_, fun d hd => ?_, b1, b2.1, b2.2.1, b2.2.2, b3⟩
  · obtain ⟨d, hd, q⟩ := i2
    exact ⟨d, hd, by rw [e0 d hd]; exact q⟩
  · rw [e3 s hs]
    intro q
    obtain ⟨q1, q2, q3, r, q4, q5⟩ := i4 s hs q
    have hk := (i6 _ q2).1
    refine ⟨by rw [e3 s hs, h94]; exact q1, by rw [e4 s hs]; exact q2, by rw [e4 s hs, e0 _ q2]; exact q3, r, by rw [e4 s hs, e2 _ q2]; exact q4, by rw [e4 s hs, e5 _ _ q2 (by omega)]; exact q5⟩
  · rw [e2 d hd]
    refine ⟨(i6 d hd).1, fun r hr => ?_⟩
    have hk := (i6 d hd).1
    have hz := (i6 d hd).2 r hr
    rw [e5 d r hd (by omega), e3 _ hz.1, e4 _ hz.1]
    exact hz
  · rw [e2 d hd] at hq
    have hk := (i6 d hd).1
    rw [e5 d r hd (by omega), e5 d q hd (by omega), e3 _ ((i6 d hd).2 r (by omega)).1, e3 _ ((i6 d hd).2 q (by omega)).1]
    exact i7 d hd r q hr hq
  · rw [e1 d hd, e2 d hd]
    refine ⟨(i8 d hd).1, fun q => ?_⟩
    have hk := (i6 d hd).1
    have hx := (i8 d hd).1
    rw [e3 _ (by omega)]
    refine ⟨((i8 d hd).2 q).1, fun r hr => ?_⟩
    rw [e5 d r hd (by omega), e3 _ ((i6 d hd).2 r hr).1]
    exact ((i8 d hd).2 q).2 r hr
theorem cm_I {n n' : Nat} {S : Nat → Nat} (hIs : z_Is n' S) (hIt : z_It n S) (h1 : S 3394 ≤ n + 1) (hI5 : S 3395 ≤ n + 1) (hI6 : S 3396 ≤ 4 * n) (h2 : ∀ s, s < 12 → S (2406 + s) ≤ n + 1) : z_I (n + 1) (cmS S) := by
  refine ⟨z_Is_S3 hIs (fun k k1 k2 => cm_o (by omega)) (cm_o (by omega)) (fun r hr => by rw [cm_l hr]; exact cmN_le) ⟨by rw [cm_o (by omega)]; exact h1, by rw [cm_5]; omega, by rw [cm_6]; have := cmQ_le (S := S) (i := 4); omega⟩ (fun s hs => by rw [cm_o (by omega)]; have := h2 s hs; omega), ?_⟩
  obtain ⟨t1, t2, t3, t4, t5, t6⟩ := hIt
  refine ⟨fun k hk => by rw [cm_o (by omega)]; exact t1 k hk, fun d hd q p hp => by
    rw [cm_o (by omega)] at q ⊢
    exact t2 d hd q p hp, fun s hs q p hp => by
    rw [cm_o (by omega)] at q ⊢
    exact t3 s hs q p hp, fun b hb => by
    rw [cm_o (by omega), t4 b hb]
    exact cntN_cg (fun i hi => (cm_o (by omega)).symm), fun b hb => by
    rw [cm_p hb]
    exact ⟨Nat.zero_le _, fun _ => rfl⟩, fun b hb => by
    rw [cm_o (by omega)]
    have := t6 b hb
    omega⟩
theorem cm_Bf {S : Nat → Nat} : z_Bf (cmS S) (cmS S) := fun b hb => by
  rw [cm_b hb, cm_o (by omega)]
  by_cases q : S (2814 + b) = 0
  · rw [if_pos q, if_neg (fun x => x q)]
  · rw [if_neg q, if_pos q]
theorem cRel {M : zM} {S : Nat → Nat} (hst : ∀ b, b < 128 → M (1 + 3 + 1) b = nI (z_sta S b)) : ∃ M', fX3_releasePending (1 + 3) M = some M' ∧ (∀ b, b < 128 → M' (1 + 3 + 1) b = nI (cmA S b)) ∧ ∀ a, a ≠ 1 + 3 + 1 → M' a = M a := by
  unfold fX3_releasePending
  obtain ⟨M', e1, e2, e3⟩ := z_loopM (f := fun x : Int32 × zM => fX3_releasePending_L1 (1 + 3) x.1 x.2) (fun i M' => (∀ b, b < 128 → M' (1 + 3 + 1) b = nI (if b < i then cmA S b else z_sta S b)) ∧ ∀ a, a ≠ 1 + 3 + 1 → M' a = M a) (fun M' => (∀ b, b < 128 → M' (1 + 3 + 1) b = nI (cmA S b)) ∧ ∀ a, a ≠ 1 + 3 + 1 → M' a = M a) 0 128 (by decide) (s := 0) (M := M) rfl ⟨fun b hb => by rw [if_neg (by omega)]; exact hst b hb, fun _ _ => rfl⟩ (fun i M' hi hI => by
    obtain ⟨b1, b2⟩ := hI
    have c1 := b1 i hi
    rw [if_neg (Nat.lt_irrefl i)] at c1
    have c2 := z_sta2 (S := S) (b := i)
    by_cases q : z_sta S i = 2
    · have hA : cmA S i = 0 := by
        unfold z_sta at q
        unfold cmA
        by_cases y : S (2814 + i) = 0
        · rw [if_pos y]
        · rw [if_pos y] at q
          exact absurd q (by decide)
      rw [q] at c1
      refine ⟨z_st M' (1 + 3 + 1) i (nI 0), by simp (disch := first | omega | assumption) only [l_0, l_1, l_2, l_3, l_4, l_5, l_6, l_7, l_8, l_11, l_12, l_15, l_16, l_31, l_32, l_66, l_80, l_100, l_127, l_128, l_768, l_2304, l_2310, l_2316, l_2388, l_2394, l_2406, l_2418, l_2430, l_2558, l_2686, l_2814, l_2942, l_3070, l_3390, l_3394, l_3395, l_3396, l_3397, n_leT, n_leF, n_ltT, n_ltF, n_eqT, n_eqF, nI_add, pk_mul, n_sub, z_ldn, z_san, z_bs, z_b2s, z_b3s, z_ocN, z_ocS, z_oxL, z_oxR, z_scL, z_scR, ↓reduceIte, st_170, st_171, st_172, st_173, Nat.zero_add, Nat.add_zero, Nat.zero_lt_succ, true_and, and_true, eq_self, fX3_releasePending_L1, c1], fun b hb => ?_, fun a ha => by rw [s_n ha]; exact b2 a ha⟩
      rw [s_s]
      by_cases y : b = i
      · rw [y, u_s, if_pos (Nat.lt_succ_self i), hA]
      · rw [u_n y, b1 b hb]
        by_cases y2 : b < i
        · rw [if_pos y2, if_pos (by omega)]
        · rw [if_neg y2, if_neg (by omega)]
    · have hA : cmA S i = z_sta S i := by
        unfold z_sta at q ⊢
        unfold cmA
        by_cases y : S (2814 + i) = 0
        · rw [if_neg (fun x => x y)] at q
          rw [if_pos y, if_neg (fun x => x y)]
          by_cases y2 : S (2686 + i) = 0
          · rw [if_neg (fun x => x y2)]
          · rw [if_pos y2] at q
            exact absurd rfl q
        · rw [if_neg y, if_pos y]
      refine ⟨M', by simp (disch := first | omega | assumption) only [l_0, l_1, l_2, l_3, l_4, l_5, l_6, l_7, l_8, l_11, l_12, l_15, l_16, l_31, l_32, l_66, l_80, l_100, l_127, l_128, l_768, l_2304, l_2310, l_2316, l_2388, l_2394, l_2406, l_2418, l_2430, l_2558, l_2686, l_2814, l_2942, l_3070, l_3390, l_3394, l_3395, l_3396, l_3397, n_leT, n_leF, n_ltT, n_ltF, n_eqT, n_eqF, nI_add, pk_mul, n_sub, z_ldn, z_san, z_bs, z_b2s, z_b3s, z_ocN, z_ocS, z_oxL, z_oxR, z_scL, z_scR, ↓reduceIte, st_170, st_171, st_172, st_173, Nat.zero_add, Nat.add_zero, Nat.zero_lt_succ, true_and, and_true, eq_self, fX3_releasePending_L1, c1], fun b hb => ?_, b2⟩
      rw [b1 b hb]
      by_cases y : b = i
      · rw [y, if_neg (Nat.lt_irrefl i), if_pos (Nat.lt_succ_self i), hA]
      · by_cases y2 : b < i
        · rw [if_pos y2, if_pos (by omega)]
        · rw [if_neg y2, if_neg (by omega)]) (fun M' hI => ⟨M', by simp (disch := first | omega | assumption) only [l_0, l_1, l_2, l_3, l_4, l_5, l_6, l_7, l_8, l_11, l_12, l_15, l_16, l_31, l_32, l_66, l_80, l_100, l_127, l_128, l_768, l_2304, l_2310, l_2316, l_2388, l_2394, l_2406, l_2418, l_2430, l_2558, l_2686, l_2814, l_2942, l_3070, l_3390, l_3394, l_3395, l_3396, l_3397, n_leT, n_leF, n_ltT, n_ltF, n_eqT, n_eqF, nI_add, pk_mul, n_sub, z_ldn, z_san, z_bs, z_b2s, z_b3s, z_ocN, z_ocS, z_oxL, z_oxR, z_scL, z_scR, ↓reduceIte, st_170, st_171, st_172, st_173, Nat.zero_add, Nat.add_zero, Nat.zero_lt_succ, true_and, and_true, eq_self, fX3_releasePending_L1], fun b hb => by rw [hI.1 b hb, if_pos hb], hI.2⟩)
  exact ⟨M', by rw [e1]; rfl, e2, e3⟩
/-- the class's log of region r after a commit -/
def cLf (S : Nat → Nat) (M1 M' : zM) (r : Nat) : Prop := M' (1 + 63 + 5 * r) 0 = nI (32 * r) ∧ M' (1 + 63 + 5 * r) 4 = nI (cmN S r) ∧ ∀ j, j < cmN S r → (cmO S r j → ∀ q, 1 ≤ q → q ≤ 3 → M' (1 + 63 + 5 * r + q) j = M1 (1 + 63 + 5 * r + q) j) ∧ (¬ cmO S r j → M' (1 + 63 + 5 * r + 1) j = nI (32 * r + (cmE S r j).1) ∧ M' (1 + 63 + 5 * r + 2) j = nI (cmE S r j).2.1 ∧ M' (1 + 63 + 5 * r + 3) j = nI (cmE S r j).2.2)
theorem cLogs {M1 : zM} {S S0 : Nat → Nat} (hl : ∀ r, r < 4 → M1 (1 + 63 + 5 * r) 0 = nI (32 * r) ∧ M1 (1 + 63 + 5 * r) 4 = nI (S (3390 + r)) ∧ S (3390 + r) ≤ 34) (ha : ∀ b, b < 128 → M1 (1 + 3 + 1) b = nI (cmA S b)) (hb : ∀ b, b < 128 → M1 (84 + 3 + 1) b = nI (z_sta S0 b)) (hB : z_Bf S S0) (hc : M1 1 6 = nI (S 3396)) : ∃ M', z_loop (fun x : Int32 × zM => fX6_closeTransaction_L1 0 x.1 x.2) z_FU (nI 0, M1) = some M' ∧ (∀ a, a ≠ 1 → (a < 64 ∨ 84 ≤ a) → M' a = M1 a) ∧ M' 1 6 = nI (S 3396 + cmQ S 4) ∧ (∀ j, j ≠ 6 → M' 1 j = M1 1 j) ∧ ∀ r, r < 4 → cLf S M1 M' r := by
  have hA1 : ∀ b, cmA S b ≤ 2 := fun b => by
    unfold cmA
    split <;> omega
  have hA : ∀ b, cmA S b = 1 ↔ S (2814 + b) ≠ 0 := fun b => by
    unfold cmA
    by_cases q : S (2814 + b) = 0
    · rw [if_pos q]
      exact ⟨fun x => absurd x (by decide), fun x => absurd q x⟩
    · rw [if_neg q]
      exact ⟨fun _ => q, fun _ => rfl⟩
  have hZ : ∀ b, b < 128 → (z_sta S0 b = 1 ↔ S (2942 + b) = 1) := fun b hb => by
    rw [hB b hb]
    unfold z_sta
    by_cases q : S0 (2814 + b) ≠ 0
    · rw [if_pos q, if_pos q]
    · rw [if_neg q, if_neg q]
      by_cases q2 : S0 (2686 + b) ≠ 0
      · rw [if_pos q2]
        exact ⟨fun x => absurd x (by decide), fun x => absurd x (by decide)⟩
      · rw [if_neg q2]
  refine z_loopM (f := fun x : Int32 × zM => fX6_closeTransaction_L1 0 x.1 x.2) (fun i M' => (∀ a, a ≠ 1 → (a < 64 ∨ 84 ≤ a) → M' a = M1 a) ∧ M' 1 6 = nI (S 3396 + cmQ S i) ∧ (∀ j, j ≠ 6 → M' 1 j = M1 1 j) ∧ ∀ r, r < 4 → (r < i → cLf S M1 M' r) ∧ (i ≤ r → ∀ q, q < 5 → M' (1 + 63 + 5 * r + q) = M1 (1 + 63 + 5 * r + q))) (fun M' => (∀ a, a ≠ 1 → (a < 64 ∨ 84 ≤ a) → M' a = M1 a) ∧ M' 1 6 = nI (S 3396 + cmQ S 4) ∧ (∀ j, j ≠ 6 → M' 1 j = M1 1 j) ∧ ∀ r, r < 4 → cLf S M1 M' r) 0 4 (by decide) (s := nI 0) (M := M1) rfl ⟨fun _ _ _ => rfl, hc, fun _ _ => rfl, fun r hr => ⟨fun x => absurd x (Nat.not_lt_zero r), fun _ _ _ => rfl⟩⟩ (fun i M' hi hI9 => by
      obtain ⟨b1, b2, b3, b4⟩ := hI9
      have b5 := (b4 i hi).2 (Nat.le_refl i)
      obtain ⟨h1, h2, h3⟩ := hl i hi
      have b50 : M' (1 + 63 + 5 * i) = M1 (1 + 63 + 5 * i) := b5 0 (by decide)
      obtain ⟨M2, f1, f2, f3, f4, f5⟩ := cRec (X := 1 + 63 + 5 * i) (a := 1 + 3) (b := 84 + 3) (r := i) (k := S (3390 + i)) (M := M') (sa := cmA S) (sb := z_sta S0) (g1 := gR S 1 i) (g0 := gR S 0 i) (g2 := gR S 2 i) hi (by rw [b50]; exact h1) (by rw [b50]; exact h2) h3 (fun c hc => ⟨by rw [b1 _ (by decide) (by decide)]; exact ha c hc, hA1 c⟩) (fun c hc => ⟨by rw [b1 _ (by decide) (by decide)]; exact hb c hc, z_sta2⟩) (by omega) (by omega) (fun p hp => by
        rw [gR_in hp]
        show (if S (2814 + (32 * i + p)) ≠ 0 ∧ S (2942 + (32 * i + p)) ≠ 1 then 1 else 0) = _
        have e1 := hA (32 * i + p)
        have e2 := hZ (32 * i + p) (by omega)
        by_cases y : S (2814 + (32 * i + p)) ≠ 0 ∧ S (2942 + (32 * i + p)) ≠ 1
        · rw [if_pos y, if_pos ⟨e1.mpr y.1, fun z => y.2 (e2.mp z)⟩]
        · rw [if_neg y, if_neg (fun z => y ⟨e1.mp z.1, fun w => z.2 (e2.mpr w)⟩)]) (fun p hp => by
        rw [gR_in hp]
        show (if S (2814 + (32 * i + p)) = 0 ∧ S (2942 + (32 * i + p)) = 1 then 1 else 0) = _
        have e1 := hA (32 * i + p)
        have e2 := hZ (32 * i + p) (by omega)
        by_cases y : S (2814 + (32 * i + p)) = 0 ∧ S (2942 + (32 * i + p)) = 1
        · rw [if_pos y, if_pos ⟨e2.mpr y.2, fun z => e1.mp z y.1⟩]
        · rw [if_neg y, if_neg (fun z => y ⟨Classical.byContradiction (fun w => z.2 (e1.mpr w)), e2.mp z.1⟩)]) (fun p hp => by
        rw [gR_in hp]
        show (if S (2814 + (32 * i + p)) = 0 then 0 else 1) = _
        have e1 := hA (32 * i + p)
        by_cases y : S (2814 + (32 * i + p)) = 0
        · rw [if_pos y, if_neg (fun z => e1.mp z y)]
        · rw [if_neg y, if_pos (e1.mpr y)]) (fun _ => gR_1) (fun _ => gR_1) (fun _ => gR_1) (gR_z (Nat.le_refl _)) (gR_z (Nat.le_refl _)) (gR_z (Nat.le_refl _))
      have e13 := z_lq13 (V := 1) hi
      have cellI : ∀ j, j < cmN S i → (cmO S i j → ∀ q, 1 ≤ q → q ≤ 3 → M2 (1 + 63 + 5 * i + q) j = M1 (1 + 63 + 5 * i + q) j) ∧ (¬ cmO S i j → M2 (1 + 63 + 5 * i + 1) j = nI (32 * i + (cmE S i j).1) ∧ M2 (1 + 63 + 5 * i + 2) j = nI (cmE S i j).2.1 ∧ M2 (1 + 63 + 5 * i + 3) j = nI (cmE S i j).2.2) := fun j hj => ⟨fun x q q1 q3 => by rw [(f4 j hj).1 x q q1 q3, b5 q (by omega)], (f4 j hj).2⟩
      have cl : ∀ (M3 : zM), (∀ a, a ≠ 1 → M3 a = M2 a) → ∀ r, r < 4 → (r < i + 1 → cLf S M1 M3 r) ∧ (i + 1 ≤ r → ∀ q, q < 5 → M3 (1 + 63 + 5 * r + q) = M1 (1 + 63 + 5 * r + q)) := fun M3 h3 r hr => ⟨fun x => by
        have h30 : M3 (1 + 63 + 5 * r) = M2 (1 + 63 + 5 * r) := h3 _ (by omega)
        have h3q : ∀ q, M3 (1 + 63 + 5 * r + q) = M2 (1 + 63 + 5 * r + q) := fun q => h3 _ (by omega)
        unfold cLf
        rw [h30, h3q 1, h3q 2, h3q 3]
        by_cases y : r = i
        · subst y
          refine ⟨f2, f3, fun j hj => ⟨fun z q q1 q3 => ?_, (cellI j hj).2⟩⟩
          rw [h3q]
          exact (cellI j hj).1 z q q1 q3
        · obtain ⟨k1, k2, k3⟩ := (b4 r hr).1 (by omega)
          have g0 : M2 (1 + 63 + 5 * r) = M' (1 + 63 + 5 * r) := f5 _ (by omega)
          have gq : ∀ q, q < 5 → M2 (1 + 63 + 5 * r + q) = M' (1 + 63 + 5 * r + q) := fun q hq => f5 _ (by omega)
          rw [g0, gq 1 (by omega), gq 2 (by omega), gq 3 (by omega)]
          refine ⟨k1, k2, fun j hj => ⟨fun z q q1 q3 => ?_, (k3 j hj).2⟩⟩
          rw [h3q, gq q (by omega)]
          exact (k3 j hj).1 z q q1 q3, fun x q hq => by
        rw [h3 _ (by omega), f5 _ (by omega)]
        exact (b4 r hr).2 (by omega) q hq⟩
      have h21 : M2 1 = M' 1 := f5 _ (by omega)
      by_cases y : cmC S i
      · have c6 : M2 1 6 = nI (S 3396 + cmQ S i) := by rw [h21]; exact b2
        rw [if_pos y] at f1
        refine ⟨z_st M2 1 6 (nI (S 3396 + cmQ S i + 1)), ?_, fun a a1 a2 => by rw [s_n a1, f5 a (by omega)]; exact b1 a a1 a2, ?_, fun j hj => by rw [s_s, u_n hj, h21]; exact b3 j hj, cl _ (fun a ha => s_n ha)⟩
        · simp (disch := first | omega | assumption) only [l_0, l_1, l_2, l_3, l_4, l_5, l_6, l_7, l_8, l_11, l_12, l_15, l_16, l_31, l_32, l_66, l_80, l_100, l_127, l_128, l_768, l_2304, l_2310, l_2316, l_2388, l_2394, l_2406, l_2418, l_2430, l_2558, l_2686, l_2814, l_2942, l_3070, l_3390, l_3394, l_3395, l_3396, l_3397, n_leT, n_leF, n_ltT, n_ltF, n_eqT, n_eqF, nI_add, pk_mul, n_sub, z_ldn, z_san, z_bs, z_b2s, z_b3s, z_ocN, z_ocS, z_oxL, z_oxR, z_scL, z_scR, ↓reduceIte, st_170, st_171, st_172, st_173, Nat.zero_add, Nat.add_zero, Nat.zero_lt_succ, true_and, and_true, eq_self, fX6_closeTransaction_L1, e13, f1, c6]
        · rw [s_s, u_s]
          show nI (S 3396 + cmQ S i + 1) = nI (S 3396 + (cmQ S i + (if cmC S i then 1 else 0)))
          rw [if_pos y, Nat.add_assoc]
      · rw [if_neg y] at f1
        refine ⟨M2, ?_, fun a a1 a2 => by rw [f5 a (by omega)]; exact b1 a a1 a2, ?_, fun j hj => by rw [h21]; exact b3 j hj, cl _ (fun a ha => rfl)⟩
        · simp (disch := first | omega | assumption) only [l_0, l_1, l_2, l_3, l_4, l_5, l_6, l_7, l_8, l_11, l_12, l_15, l_16, l_31, l_32, l_66, l_80, l_100, l_127, l_128, l_768, l_2304, l_2310, l_2316, l_2388, l_2394, l_2406, l_2418, l_2430, l_2558, l_2686, l_2814, l_2942, l_3070, l_3390, l_3394, l_3395, l_3396, l_3397, n_leT, n_leF, n_ltT, n_ltF, n_eqT, n_eqF, nI_add, pk_mul, n_sub, z_ldn, z_san, z_bs, z_b2s, z_b3s, z_ocN, z_ocS, z_oxL, z_oxR, z_scL, z_scR, ↓reduceIte, st_170, st_171, st_172, st_173, Nat.zero_add, Nat.add_zero, Nat.zero_lt_succ, true_and, and_true, eq_self, fX6_closeTransaction_L1, e13, f1]
        · rw [h21, b2]
          show nI (S 3396 + cmQ S i) = nI (S 3396 + (cmQ S i + (if cmC S i then 1 else 0)))
          rw [if_neg y, Nat.add_zero]) (fun M' hI9 => ⟨M', by simp (disch := first | omega | assumption) only [l_0, l_1, l_2, l_3, l_4, l_5, l_6, l_7, l_8, l_11, l_12, l_15, l_16, l_31, l_32, l_66, l_80, l_100, l_127, l_128, l_768, l_2304, l_2310, l_2316, l_2388, l_2394, l_2406, l_2418, l_2430, l_2558, l_2686, l_2814, l_2942, l_3070, l_3390, l_3394, l_3395, l_3396, l_3397, n_leT, n_leF, n_ltT, n_ltF, n_eqT, n_eqF, nI_add, pk_mul, n_sub, z_ldn, z_san, z_bs, z_b2s, z_b3s, z_ocN, z_ocS, z_oxL, z_oxR, z_scL, z_scR, ↓reduceIte, st_170, st_171, st_172, st_173, Nat.zero_add, Nat.add_zero, Nat.zero_lt_succ, true_and, and_true, eq_self, fX6_closeTransaction_L1], hI9.1, hI9.2.1, hI9.2.2.1, fun r hr => (hI9.2.2.2 r hr).1 hr⟩)
