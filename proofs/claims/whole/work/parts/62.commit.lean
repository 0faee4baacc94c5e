/-! ===== commit, both sides ===== -/
abbrev cmC (S : Nat → Nat) (r : Nat) : Prop := lgC (S (3390 + r)) (gR S 1 r) (gR S 0 r) (gR S 2 r)
def cmN (S : Nat → Nat) (r : Nat) : Nat := lgN (S (3390 + r)) (gR S 1 r) (gR S 0 r) (gR S 2 r)
abbrev cmO (S : Nat → Nat) (r j : Nat) : Prop := lgO (S (3390 + r)) (gR S 1 r) (gR S 0 r) (gR S 2 r) j
def cmE (S : Nat → Nat) (r j : Nat) : Nat × Nat × Nat := lgE (S (3390 + r)) (gR S 1 r) (gR S 0 r) (gR S 2 r) j
def cmQ (S : Nat → Nat) (i : Nat) : Nat := sumN (fun r => if cmC S r then 1 else 0) i
/-- the state after a commit -/
def cmS (S : Nat → Nat) : Nat → Nat := fun k => if 2686 ≤ k ∧ k < 2814 then 0 else if 2942 ≤ k ∧ k < 3070 then (if S (2814 + (k - 2942)) = 0 then 0 else 1) else if 3390 ≤ k ∧ k < 3394 then cmN S (k - 3390) else if k = 3395 then S 3395 + 1 else if k = 3396 then S 3396 + cmQ S 4 else S k
section
variable {S : Nat → Nat}
theorem cm_o {k : Nat} (h : k < 2686 ∨ (2814 ≤ k ∧ k < 2942) ∨ (3070 ≤ k ∧ k < 3390) ∨ k = 3394) : cmS S k = S k := by
  unfold cmS
  rw [if_neg (by omega), if_neg (by omega), if_neg (by omega), if_neg (by omega), if_neg (by omega)]
theorem cm_p {b : Nat} (h : b < 128) : cmS S (2686 + b) = 0 := if_pos ⟨by omega, by omega⟩
theorem cm_b {b : Nat} (h : b < 128) : cmS S (2942 + b) = if S (2814 + b) = 0 then 0 else 1 := by
  unfold cmS
  rw [if_neg (by omega), if_pos ⟨by omega, by omega⟩, Nat.add_sub_cancel_left]
theorem cm_l {r : Nat} (h : r < 4) : cmS S (3390 + r) = cmN S r := by
  unfold cmS
  rw [if_neg (by omega), if_neg (by omega), if_pos ⟨by omega, by omega⟩, Nat.add_sub_cancel_left]
theorem cm_5 : cmS S 3395 = S 3395 + 1 := by
  unfold cmS
  rw [if_neg (by omega), if_neg (by omega), if_neg (by omega), if_pos rfl]
theorem cm_6 : cmS S 3396 = S 3396 + cmQ S 4 := by
  unfold cmS
  rw [if_neg (by omega), if_neg (by omega), if_neg (by omega), if_neg (by omega), if_pos rfl]
theorem cmQ_le {i : Nat} : cmQ S i ≤ i := by
  have := sumN_le (g := fun r => if cmC S r then 1 else 0) (c := 1) (n := i) (fun r _ => by
    show (if cmC S r then 1 else 0) ≤ 1
    split <;> omega)
  unfold cmQ
  omega
theorem cmN_le {r : Nat} : cmN S r ≤ 34 := lgN_le
end
/-- what a commit makes of the logs' entries -/
def Fcm (S : Nat → Nat) (N N' : Nat → Int32) : Prop := (∀ k, 2430 ≤ k → k < 2558 → N' k = N k) ∧ ∀ r, r < 4 → ∀ j, j < cmN S r → (cmO S r j → N' (3070 + 80 * r + j) = N (3070 + 80 * r + j)) ∧ (¬ cmO S r j → z_entry (N' (3070 + 80 * r + j)) (32 * r + (cmE S r j).1) (cmE S r j).2.1 (nI (cmE S r j).2.2))
def cmA (S : Nat → Nat) (b : Nat) : Nat := if S (2814 + b) = 0 then 0 else 1
theorem mCm {n : Nat} {Mm : zM} {S : Nat → Nat} (hN : z_N (Mm 170) S) (hI : z_I n S) (hn : n < 600) (hbf : ∀ b, b < 128 → S (2942 + b) ≤ 1) : ∃ M', fX7_commits 169 Mm = some (nI (S 3395), M') ∧ z_N (M' 170) (cmS S) ∧ Fcm S (Mm 170) (M' 170) ∧ (∀ k, k < 3397 → M' 171 k = M' 170 k) ∧ ∀ a, a ≠ 170 → a ≠ 171 → M' a = Mm a := by
  have hr3 := I_r2304 hI
  -- the logs
  obtain ⟨M1, e1, e2, e3, e4, e5⟩ := z_loopM (f := fun x : Int32 × zM => fX7_commits_L1 169 x.1 x.2) (fun i M' => (∀ a, a ≠ 170 → M' a = Mm a) ∧ (∀ r, r < 4 → (r < i → M' 170 (3390 + r) = nI (cmN S r) ∧ ∀ j, j < cmN S r → (cmO S r j → M' 170 (3070 + 80 * r + j) = Mm 170 (3070 + 80 * r + j)) ∧ (¬ cmO S r j → z_entry (M' 170 (3070 + 80 * r + j)) (32 * r + (cmE S r j).1) (cmE S r j).2.1 (nI (cmE S r j).2.2))) ∧ (i ≤ r → M' 170 (3390 + r) = nI (S (3390 + r)) ∧ ∀ j, j < 80 → M' 170 (3070 + 80 * r + j) = Mm 170 (3070 + 80 * r + j))) ∧ M' 170 3396 = nI (S 3396 + cmQ S i) ∧ ∀ k, k < 3070 ∨ k = 3394 ∨ k = 3395 → M' 170 k = Mm 170 k) (fun M' => (∀ a, a ≠ 170 → M' a = Mm a) ∧ (∀ r, r < 4 → M' 170 (3390 + r) = nI (cmN S r) ∧ ∀ j, j < cmN S r → (cmO S r j → M' 170 (3070 + 80 * r + j) = Mm 170 (3070 + 80 * r + j)) ∧ (¬ cmO S r j → z_entry (M' 170 (3070 + 80 * r + j)) (32 * r + (cmE S r j).1) (cmE S r j).2.1 (nI (cmE S r j).2.2))) ∧ M' 170 3396 = nI (S 3396 + cmQ S 4) ∧ ∀ k, k < 3070 ∨ k = 3394 ∨ k = 3395 → M' 170 k = Mm 170 k) 0 4 (by decide) (s := nI 0) (M := Mm) rfl ⟨fun _ _ => rfl, fun r hr => ⟨fun x => absurd x (Nat.not_lt_zero r), fun _ => ⟨hN.2.2 _ (by omega) (by omega), fun _ _ => rfl⟩⟩, hN.2.2 _ (by omega) (by omega), fun _ _ => rfl⟩ (fun i M' hi hI9 => by
      obtain ⟨b1, b2, b3, b4⟩ := hI9
      obtain ⟨b5, b6⟩ := (b2 i hi).2 (Nat.le_refl i)
      obtain ⟨M2, f1, f2, f3, f4, f5, f6⟩ := mRec (M := M') (S := S) (k := S (3390 + i)) hi (I_log hI i hi) b5 b3 (fun b hb => ⟨by rw [b4 _ (by omega)]; exact hN.2.1 _ (by omega) (by omega), hr3 b hb⟩) (fun b hb => ⟨by rw [b4 _ (by omega)]; exact hN.2.1 _ (by omega) (by omega), hbf b hb⟩)
      refine ⟨M2, by rw [Nat.zero_add]; exact f1, fun a ha => by rw [f2 a ha, b1 a ha], fun r hr => ⟨fun x => ?_, fun x => ?_⟩, ?_, fun k hk => by rw [f6 k (by omega) (by omega) (by omega), b4 k hk]⟩
      · by_cases y : r = i
        · subst y
          refine ⟨f3, fun j hj => ?_⟩
          have hj34 := cmN_le (S := S) (r := r)
          obtain ⟨g1, g2⟩ := f4 j hj
          exact ⟨fun z => by rw [g1 z, b6 j (by omega)], g2⟩
        · have hj34 := cmN_le (S := S) (r := r)
          obtain ⟨g1, g2⟩ := (b2 r hr).1 (by omega)
          refine ⟨by rw [f6 _ (by omega) (by omega) (by omega)]; exact g1, fun j hj => ?_⟩
          rw [f6 _ (by omega) (by omega) (by omega)]
          exact g2 j hj
      · obtain ⟨g1, g2⟩ := (b2 r hr).2 (by omega)
        refine ⟨by rw [f6 _ (by omega) (by omega) (by omega)]; exact g1, fun j hj => ?_⟩
        rw [f6 _ (by omega) (by omega) (by omega)]
        exact g2 j hj
      · rw [f5, Nat.add_assoc]
        rfl) (fun M' hI9 => ⟨M', by simp (disch := first | omega | assumption) only [l_0, l_1, l_2, l_3, l_4, l_5, l_6, l_7, l_8, l_11, l_12, l_15, l_16, l_31, l_32, l_66, l_80, l_100, l_127, l_128, l_768, l_2304, l_2310, l_2316, l_2388, l_2394, l_2406, l_2418, l_2430, l_2558, l_2686, l_2814, l_2942, l_3070, l_3390, l_3394, l_3395, l_3396, l_3397, n_leT, n_leF, n_ltT, n_ltF, n_eqT, n_eqF, nI_add, pk_mul, n_sub, z_ldn, z_san, z_bs, z_b2s, z_b3s, z_ocN, z_ocS, z_oxL, z_oxR, z_scL, z_scR, ↓reduceIte, st_170, st_171, st_172, st_173, Nat.zero_add, Nat.add_zero, Nat.zero_lt_succ, true_and, and_true, eq_self, fX7_commits_L1], hI9.1, fun r hr => (hI9.2.1 r hr).1 hr, hI9.2.2⟩)
  -- pending, before
  have hfr1 : ∀ b, b < 128 → M1 170 (2814 + b) = nI (S (2814 + b)) := fun b hb => by rw [e5 _ (by omega)]; exact hN.2.1 _ (by omega) (by omega)
  obtain ⟨M2, g1, g2, g3⟩ := z_loopM (f := fun x : Int32 × zM => fX7_commits_L2 169 x.1 x.2) (fun i M' => (∀ a, a ≠ 170 → M' a = M1 a) ∧ ∀ k, M' 170 k = if 2686 ≤ k ∧ k < 2686 + i then nI 0 else if 2942 ≤ k ∧ k < 2942 + i then nI (cmA S (k - 2942)) else M1 170 k) (fun M' => (∀ a, a ≠ 170 → M' a = M1 a) ∧ ∀ k, M' 170 k = if 2686 ≤ k ∧ k < 2686 + 128 then nI 0 else if 2942 ≤ k ∧ k < 2942 + 128 then nI (cmA S (k - 2942)) else M1 170 k) 0 128 (by decide) (s := nI 0) (M := M1) rfl ⟨fun _ _ => rfl, fun k => by rw [if_neg (by omega), if_neg (by omega)]⟩ (fun i M' hi hI9 => by
      obtain ⟨b1, b2⟩ := hI9
      obtain ⟨Ma, hMa⟩ : ∃ Ma, Ma = z_st M' (169 + 1) (2686 + i) (nI 0) := ⟨_, rfl⟩
      have hMar : Ma 170 = upd (M' 170) (2686 + i) (nI 0) := by rw [hMa, show (170 : Nat) = 169 + 1 from rfl, s_s]
      have hal := mAl (M := Ma) (S := S) (fun b hb => by
        show Ma 170 (2814 + b) = _
        rw [hMar, u_n (by omega), b2, if_neg (by omega), if_neg (by omega)]
        exact hfr1 b hb) hi (hr3 i hi)
      refine ⟨z_st Ma (169 + 1) (2942 + i) (nI (cmA S i)), ?_, fun a ha => by rw [s_n ha, hMa, s_n ha]; exact b1 a ha, fun k => ?_⟩
      · by_cases q : S (2814 + i) = 0
        · rw [if_pos q] at hal
          have hA : cmA S i = 0 := if_pos q
          simp (disch := first | omega | assumption) only [l_0, l_1, l_2, l_3, l_4, l_5, l_6, l_7, l_8, l_11, l_12, l_15, l_16, l_31, l_32, l_66, l_80, l_100, l_127, l_128, l_768, l_2304, l_2310, l_2316, l_2388, l_2394, l_2406, l_2418, l_2430, l_2558, l_2686, l_2814, l_2942, l_3070, l_3390, l_3394, l_3395, l_3396, l_3397, n_leT, n_leF, n_ltT, n_ltF, n_eqT, n_eqF, nI_add, pk_mul, n_sub, z_ldn, z_san, z_bs, z_b2s, z_b3s, z_ocN, z_ocS, z_oxL, z_oxR, z_scL, z_scR, ↓reduceIte, st_170, st_171, st_172, st_173, Nat.zero_add, Nat.add_zero, Nat.zero_lt_succ, true_and, and_true, eq_self, fX7_commits_L2, ← hMa, hal, hA]
        · rw [if_neg q] at hal
          have hA : cmA S i = 1 := if_neg q
          simp (disch := first | omega | assumption) only [l_0, l_1, l_2, l_3, l_4, l_5, l_6, l_7, l_8, l_11, l_12, l_15, l_16, l_31, l_32, l_66, l_80, l_100, l_127, l_128, l_768, l_2304, l_2310, l_2316, l_2388, l_2394, l_2406, l_2418, l_2430, l_2558, l_2686, l_2814, l_2942, l_3070, l_3390, l_3394, l_3395, l_3396, l_3397, n_leT, n_leF, n_ltT, n_ltF, n_eqT, n_eqF, nI_add, pk_mul, n_sub, z_ldn, z_san, z_bs, z_b2s, z_b3s, z_ocN, z_ocS, z_oxL, z_oxR, z_scL, z_scR, ↓reduceIte, st_170, st_171, st_172, st_173, Nat.zero_add, Nat.add_zero, Nat.zero_lt_succ, true_and, and_true, eq_self, fX7_commits_L2, ← hMa, hal, hA]
      · rw [show (170 : Nat) = 169 + 1 from rfl, s_s, show Ma (169 + 1) = Ma 170 from rfl, hMar]
        by_cases y : k = 2942 + i
        · rw [y, u_s, if_neg (by omega), if_pos (by omega), Nat.add_sub_cancel_left]
        · rw [u_n y]
          by_cases y2 : k = 2686 + i
          · rw [y2, u_s, if_pos (by omega)]
          · rw [u_n y2, b2 k]
            by_cases y3 : 2686 ≤ k ∧ k < 2686 + i
            · rw [if_pos y3, if_pos (by omega)]
            · rw [if_neg y3, if_neg (show ¬ (2686 ≤ k ∧ k < 2686 + (i + 1)) by omega)]
              by_cases y4 : 2942 ≤ k ∧ k < 2942 + i
              · rw [if_pos y4, if_pos (by omega)]
              · rw [if_neg y4, if_neg (by omega)]) (fun M' hI9 => ⟨M', by simp (disch := first | omega | assumption) only [l_0, l_1, l_2, l_3, l_4, l_5, l_6, l_7, l_8, l_11, l_12, l_15, l_16, l_31, l_32, l_66, l_80, l_100, l_127, l_128, l_768, l_2304, l_2310, l_2316, l_2388, l_2394, l_2406, l_2418, l_2430, l_2558, l_2686, l_2814, l_2942, l_3070, l_3390, l_3394, l_3395, l_3396, l_3397, n_leT, n_leF, n_ltT, n_ltF, n_eqT, n_eqF, nI_add, pk_mul, n_sub, z_ldn, z_san, z_bs, z_b2s, z_b3s, z_ocN, z_ocS, z_oxL, z_oxR, z_scL, z_scR, ↓reduceIte, st_170, st_171, st_172, st_173, Nat.zero_add, Nat.add_zero, Nat.zero_lt_succ, true_and, and_true, eq_self, fX7_commits_L2], hI9⟩)
  have g3' : ∀ k, ¬ (2686 ≤ k ∧ k < 2814) → ¬ (2942 ≤ k ∧ k < 3070) → M2 170 k = M1 170 k := fun k k1 k2 => by rw [g3 k, if_neg (by omega), if_neg (by omega)]
  have c5 : M2 (169 + 1) 3395 = nI (S 3395) := by
    rw [show M2 (169 + 1) = M2 170 from rfl, g3' _ (by omega) (by omega), e5 _ (by omega)]
    exact hN.2.2 _ (by omega) (by omega)
  obtain ⟨M3, hM3⟩ : ∃ M3, M3 = z_st M2 (169 + 1) 3395 (nI (S 3395 + 1)) := ⟨_, rfl⟩
  have hM3r : M3 170 = upd (M2 170) 3395 (nI (S 3395 + 1)) := by rw [hM3, show (170 : Nat) = 169 + 1 from rfl, s_s]
  obtain ⟨M4, u1, u2, u3⟩ := z_loopR (f := fun x : Int32 × zM => fX7_commits_L3 169 x.1 x.2) (169 + 2) 0 0 3397 (fun j => M3 170 j) (by decide) (s := nI 0) (M := M3) rfl (fun j M' hj q1 _ => by
    have c1 : M' (169 + 1) j = M3 170 j := by rw [q1 _ (by decide)]
    simp (disch := first | omega | assumption) only [l_0, l_1, l_2, l_3, l_4, l_5, l_6, l_7, l_8, l_11, l_12, l_15, l_16, l_31, l_32, l_66, l_80, l_100, l_127, l_128, l_768, l_2304, l_2310, l_2316, l_2388, l_2394, l_2406, l_2418, l_2430, l_2558, l_2686, l_2814, l_2942, l_3070, l_3390, l_3394, l_3395, l_3396, l_3397, n_leT, n_leF, n_ltT, n_ltF, n_eqT, n_eqF, nI_add, pk_mul, n_sub, z_ldn, z_san, z_bs, z_b2s, z_b3s, z_ocN, z_ocS, z_oxL, z_oxR, z_scL, z_scR, ↓reduceIte, st_170, st_171, st_172, st_173, Nat.zero_add, Nat.add_zero, Nat.zero_lt_succ, true_and, and_true, eq_self, fX7_commits_L3, c1]) (fun M' => by simp (disch := first | omega | assumption) only [l_0, l_1, l_2, l_3, l_4, l_5, l_6, l_7, l_8, l_11, l_12, l_15, l_16, l_31, l_32, l_66, l_80, l_100, l_127, l_128, l_768, l_2304, l_2310, l_2316, l_2388, l_2394, l_2406, l_2418, l_2430, l_2558, l_2686, l_2814, l_2942, l_3070, l_3390, l_3394, l_3395, l_3396, l_3397, n_leT, n_leF, n_ltT, n_ltF, n_eqT, n_eqF, nI_add, pk_mul, n_sub, z_ldn, z_san, z_bs, z_b2s, z_b3s, z_ocN, z_ocS, z_oxL, z_oxR, z_scL, z_scR, ↓reduceIte, st_170, st_171, st_172, st_173, Nat.zero_add, Nat.add_zero, Nat.zero_lt_succ, true_and, and_true, eq_self, fX7_commits_L3])
  have h4 : M4 170 = M3 170 := u2 _ (by decide)
  have c9 : M4 (169 + 1) 3395 = nI (S 3395 + 1) := by rw [show M4 (169 + 1) = M4 170 from rfl, h4, hM3r, u_s]
  have hS3 := (I_bnd hI).2.1
  have row : ∀ k, k ≠ 3395 → ¬ (2686 ≤ k ∧ k < 2814) → ¬ (2942 ≤ k ∧ k < 3070) → M4 170 k = M1 170 k := fun k k1 k2 k3 => by rw [h4, hM3r, u_n k1, g3' k k2 k3]
  refine ⟨M4, ?_, ⟨fun k hk => ?_, fun k k1 k2 => ?_, fun k k1 k2 => ?_⟩, ⟨fun k k1 k2 => ?_, fun r hr j hj => ?_⟩, fun k hk => ?_, fun a a1 a2 => ?_⟩
  · unfold fX7_commits
    rw [show z_loop _ z_FU ((0 : Int32), Mm) = _ from e1, z_bs, show z_loop _ z_FU ((0 : Int32), M1) = _ from g1, z_bs]
    simp (disch := first | omega | assumption) only [l_0, l_1, l_2, l_3, l_4, l_5, l_6, l_7, l_8, l_11, l_12, l_15, l_16, l_31, l_32, l_66, l_80, l_100, l_127, l_128, l_768, l_2304, l_2310, l_2316, l_2388, l_2394, l_2406, l_2418, l_2430, l_2558, l_2686, l_2814, l_2942, l_3070, l_3390, l_3394, l_3395, l_3396, l_3397, n_leT, n_leF, n_ltT, n_ltF, n_eqT, n_eqF, nI_add, pk_mul, n_sub, z_ldn, z_san, z_bs, z_b2s, z_b3s, z_ocN, z_ocS, z_oxL, z_oxR, z_scL, z_scR, ↓reduceIte, st_170, st_171, st_172, st_173, Nat.zero_add, Nat.add_zero, Nat.zero_lt_succ, true_and, and_true, eq_self, c5, ← hM3, u1, c9, Nat.add_sub_cancel]
  · rw [row k (by omega) (by omega) (by omega), e5 k (by omega), cm_o (by omega)]
    exact hN.1 k hk
  · by_cases y1 : k < 2686
    · rw [row k (by omega) (by omega) (by omega), e5 k (by omega), cm_o (by omega)]
      exact hN.2.1 k k1 k2
    · by_cases y2 : k < 2814
      · rw [h4, hM3r, u_n (by omega), g3 k, if_pos (by omega), show k = 2686 + (k - 2686) by omega, cm_p (by omega)]
      · by_cases y3 : k < 2942
        · rw [row k (by omega) (by omega) (by omega), e5 k (by omega), cm_o (by omega)]
          exact hN.2.1 k k1 k2
        · obtain ⟨b, hb, rfl⟩ : ∃ b, b < 128 ∧ k = 2942 + b := ⟨k - 2942, by omega, by omega⟩
          rw [h4, hM3r, u_n (by omega), g3, if_neg (by omega), if_pos (by omega), cm_b hb, Nat.add_sub_cancel_left]
          rfl
  · by_cases y1 : k < 3394
    · obtain ⟨r, hr, rfl⟩ : ∃ r, r < 4 ∧ k = 3390 + r := ⟨k - 3390, by omega, by omega⟩
      rw [row _ (by omega) (by omega) (by omega), cm_l hr]
      exact (e3 r hr).1
    · have : k = 3394 ∨ k = 3395 ∨ k = 3396 := by omega
      rcases this with y | y | y <;> subst y
      · rw [row _ (by omega) (by omega) (by omega), e5 _ (by omega), cm_o (by omega)]
        exact hN.2.2 _ (by omega) (by omega)
      · rw [cm_5]
        exact c9
      · rw [row _ (by omega) (by omega) (by omega), cm_6]
        exact e4
  · rw [row k (by omega) (by omega) (by omega), e5 k (by omega)]
  · have hj34 := cmN_le (S := S) (r := r)
    rw [row _ (by omega) (by omega) (by omega)]
    exact (e3 r hr).2 j hj
  · rw [show M4 171 k = _ from u3 k, if_pos ⟨Nat.zero_le _, by omega⟩, Nat.sub_zero, h4]
  · rw [u2 a a2, hM3, s_n a1, g2 a a1, e2 a a1]
