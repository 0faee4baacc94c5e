/-! ===== runs of marks, and what logs tell after a commit ===== -/
section
variable {g : Nat → Nat}
theorem rl_stab : ∀ {q p j : Nat}, j < (rl g p).1 → (rl g (p + q)).2 j = (rl g p).2 j ∧ (rl g p).1 ≤ (rl g (p + q)).1
  | 0, p, j, _ => ⟨rfl, Nat.le_refl _⟩
  | q + 1, p, j, h => by
    obtain ⟨h1, h2⟩ := rl_stab (q := q) h
    by_cases c : g (p + q) = 0 ∧ trl g (p + q) ≠ 0
    · rw [show p + (q + 1) = p + q + 1 from rfl, rl_y c.1 c.2]
      show (if j = (rl g (p + q)).1 then (p + q - trl g (p + q), trl g (p + q)) else (rl g (p + q)).2 j) = (rl g p).2 j ∧ (rl g p).1 ≤ (rl g (p + q)).1 + 1
      rw [if_neg (by omega)]
      exact ⟨h1, by omega⟩
    · have e : rl g (p + q + 1) = rl g (p + q) := if_neg c
      rw [show p + (q + 1) = p + q + 1 from rfl, e]
      exact ⟨h1, h2⟩
theorem rl_at {w m : Nat} (h0 : trl g w = 0) (hm : 1 ≤ m) (h1 : ∀ j, j < m → g (w + j) ≠ 0) (h2 : g (w + m) = 0) (h3 : w + m < 33) : (rl g w).1 < (rl g 33).1 ∧ (rl g 33).2 (rl g w).1 = (w, m) := by
  obtain ⟨a1, a2⟩ := rl_run h0 h1
  have e := rl_y h2 (by omega)
  rw [a1, a2] at e
  have hlt : (rl g w).1 < (rl g (w + m + 1)).1 := by
    rw [e]
    exact Nat.lt_succ_self _
  obtain ⟨s1, s2⟩ := rl_stab (g := g) (q := 33 - (w + m + 1)) (p := w + m + 1) (j := (rl g w).1) hlt
  rw [show w + m + 1 + (33 - (w + m + 1)) = 33 by omega] at s1 s2
  refine ⟨by omega, ?_⟩
  rw [s1, e]
  show (if (rl g w).1 = (rl g w).1 then (w + m - m, m) else (rl g w).2 (rl g w).1) = (w, m)
  rw [if_pos rfl, Nat.add_sub_cancel]
theorem trl_nz : ∀ {P p : Nat}, p < P → P ≤ p + trl g P → g p ≠ 0
  | 0, p, h, _ => by omega
  | P + 1, p, h, h2 => by
    by_cases c : g P = 0
    · rw [trl_0 c] at h2
      omega
    · rw [trl_1 c] at h2
      by_cases e : p = P
      · rw [e]
        exact c
      · exact trl_nz (P := P) (by omega) (by omega)
/-- what the runs cover -/
def q_cv (g : Nat → Nat) (P p : Nat) : Prop := ∃ j, j < (rl g P).1 ∧ ((rl g P).2 j).1 ≤ p ∧ p < ((rl g P).2 j).1 + ((rl g P).2 j).2
theorem cv_iff : ∀ {P p : Nat}, q_cv g P p ↔ p + trl g P < P ∧ g p ≠ 0
  | 0, p => ⟨fun h => by
      obtain ⟨j, h1, _⟩ := h
      exact absurd h1 (Nat.not_lt_zero _), fun h => absurd h.1 (by omega)⟩
  | P + 1, p => by
    have ih := cv_iff (P := P) (p := p)
    by_cases c : g P = 0
    · rw [trl_0 c]
      by_cases c2 : trl g P = 0
      · have e : rl g (P + 1) = rl g P := rl_n (Or.inr c2)
        have e2 : q_cv g (P + 1) p ↔ q_cv g P p := by
          unfold q_cv
          rw [e]
        rw [e2, ih, c2]
        refine ⟨fun h => ⟨by omega, h.2⟩, fun h => ⟨?_, h.2⟩⟩
        have : p ≠ P := fun x => h.2 (by rw [x]; exact c)
        omega
      · have e : rl g (P + 1) = ((rl g P).1 + 1, fun j => if j = (rl g P).1 then (P - trl g P, trl g P) else (rl g P).2 j) := rl_y c c2
        have e2 : q_cv g (P + 1) p ↔ q_cv g P p ∨ (P - trl g P ≤ p ∧ p < P - trl g P + trl g P) := by
          constructor
          · intro h
            obtain ⟨j, h1, h2, h3⟩ := h
            rw [e] at h1 h2 h3
            have h1 : j < (rl g P).1 + 1 := h1
            have h2 : (if j = (rl g P).1 then (P - trl g P, trl g P) else (rl g P).2 j).1 ≤ p := h2
            have h3 : p < (if j = (rl g P).1 then (P - trl g P, trl g P) else (rl g P).2 j).1 + (if j = (rl g P).1 then (P - trl g P, trl g P) else (rl g P).2 j).2 := h3
            by_cases z : j = (rl g P).1
            · rw [if_pos z] at h2 h3
              exact Or.inr ⟨h2, h3⟩
            · rw [if_neg z] at h2 h3
              exact Or.inl ⟨j, by omega, h2, h3⟩
          · intro h
            rcases h with ⟨j, h1, h2, h3⟩ | ⟨h2, h3⟩
            · refine ⟨j, ?_, ?_, ?_⟩
              · rw [e]
                show j < (rl g P).1 + 1
                omega
              · rw [e]
                show (if j = (rl g P).1 then (P - trl g P, trl g P) else (rl g P).2 j).1 ≤ p
                rw [if_neg (by omega)]
                exact h2
              · rw [e]
                show p < (if j = (rl g P).1 then (P - trl g P, trl g P) else (rl g P).2 j).1 + (if j = (rl g P).1 then (P - trl g P, trl g P) else (rl g P).2 j).2
                rw [if_neg (by omega)]
                exact h3
            · refine ⟨(rl g P).1, ?_, ?_, ?_⟩
              · rw [e]
                exact Nat.lt_succ_self _
              · rw [e]
                show (if (rl g P).1 = (rl g P).1 then (P - trl g P, trl g P) else (rl g P).2 (rl g P).1).1 ≤ p
                rw [if_pos rfl]
                exact h2
              · rw [e]
                show p < (if (rl g P).1 = (rl g P).1 then (P - trl g P, trl g P) else (rl g P).2 (rl g P).1).1 + (if (rl g P).1 = (rl g P).1 then (P - trl g P, trl g P) else (rl g P).2 (rl g P).1).2
                rw [if_pos rfl]
                exact h3
        have hle := trl_le (g := g) (p := P)
        rw [e2, ih]
        constructor
        · intro h
          rcases h with h | h
          · exact ⟨by omega, h.2⟩
          · exact ⟨by omega, trl_nz (P := P) (by omega) (by omega)⟩
        · intro h
          have : p ≠ P := fun x => h.2 (by rw [x]; exact c)
          by_cases z : p + trl g P < P
          · exact Or.inl ⟨z, h.2⟩
          · exact Or.inr ⟨by omega, by omega⟩
    · have e : rl g (P + 1) = rl g P := rl_n (Or.inl c)
      have e2 : q_cv g (P + 1) p ↔ q_cv g P p := by
        unfold q_cv
        rw [e]
      rw [e2, ih, trl_1 c]
      exact ⟨fun h => ⟨by omega, h.2⟩, fun h => ⟨by omega, h.2⟩⟩
theorem cv_33 (h32 : g 32 = 0) {p : Nat} (hp : p < 32) : q_cv g 33 p ↔ g p ≠ 0 := by
  rw [cv_iff, trl_0 h32]
  exact ⟨fun h => h.2, fun h => ⟨by omega, h⟩⟩
end
/-- entries put behind others -/
theorem rep_app {F : Nat → Nat × Nat × Nat} {k m p : Nat} : ∀ {c : Nat}, (∀ j, j < c → (F (k + j)).2.2 = m) → ((∃ j, j < c ∧ (F (k + j)).1 ≤ p ∧ p < (F (k + j)).1 + (F (k + j)).2.1) → repN F (k + c) p = m) ∧ ((¬ ∃ j, j < c ∧ (F (k + j)).1 ≤ p ∧ p < (F (k + j)).1 + (F (k + j)).2.1) → repN F (k + c) p = repN F k p)
  | 0, _ => ⟨fun h => by
      obtain ⟨j, h1, _⟩ := h
      omega, fun _ => rfl⟩
  | c + 1, h => by
    obtain ⟨a1, a2⟩ := rep_app (F := F) (k := k) (m := m) (p := p) (c := c) (fun j hj => h j (by omega))
    have e : repN F (k + (c + 1)) p = if (F (k + c)).1 ≤ p ∧ p < (F (k + c)).1 + (F (k + c)).2.1 then (F (k + c)).2.2 else repN F (k + c) p := rfl
    rw [e]
    by_cases z : (F (k + c)).1 ≤ p ∧ p < (F (k + c)).1 + (F (k + c)).2.1
    · rw [if_pos z]
      exact ⟨fun _ => h c (by omega), fun x => absurd ⟨c, by omega, z⟩ x⟩
    · rw [if_neg z]
      refine ⟨fun x => a1 ?_, fun x => a2 (fun y => x ?_)⟩
      · obtain ⟨j, h1, h2⟩ := x
        by_cases w : j = c
        · rw [w] at h2
          exact absurd h2 z
        · exact ⟨j, by omega, h2⟩
      · obtain ⟨j, h1, h2⟩ := y
        exact ⟨j, by omega, h2⟩
theorem rep_rl {F : Nat → Nat × Nat × Nat} {g : Nat → Nat} {k m p : Nat} (h32 : g 32 = 0) (hp : p < 32) (h : ∀ j, j < (rl g 33).1 → F (k + j) = (((rl g 33).2 j).1, ((rl g 33).2 j).2, m)) : (g p ≠ 0 → repN F (k + (rl g 33).1) p = m) ∧ (g p = 0 → repN F (k + (rl g 33).1) p = repN F k p) := by
  obtain ⟨a1, a2⟩ := rep_app (F := F) (k := k) (m := m) (p := p) (c := (rl g 33).1) (fun j hj => by rw [h j hj])
  have e : (∃ j, j < (rl g 33).1 ∧ (F (k + j)).1 ≤ p ∧ p < (F (k + j)).1 + (F (k + j)).2.1) ↔ g p ≠ 0 := by
    rw [← cv_33 h32 hp]
    constructor
    · intro x
      obtain ⟨j, h1, h2, h3⟩ := x
      rw [h j h1] at h2 h3
      exact ⟨j, h1, h2, h3⟩
    · intro x
      obtain ⟨j, h1, h2, h3⟩ := x
      refine ⟨j, h1, ?_, ?_⟩
      · rw [h j h1]
        exact h2
      · rw [h j h1]
        exact h3
  exact ⟨fun x => a1 (e.mpr x), fun x => a2 (fun y => (e.mp y) x)⟩
theorem rep_cg {F G : Nat → Nat × Nat × Nat} {p : Nat} : ∀ {k : Nat}, (∀ j, j < k → F j = G j) → repN F k p = repN G k p
  | 0, _ => rfl
  | k + 1, h => by
    show (if (F k).1 ≤ p ∧ p < (F k).1 + (F k).2.1 then (F k).2.2 else repN F k p) = (if (G k).1 ≤ p ∧ p < (G k).1 + (G k).2.1 then (G k).2.2 else repN G k p)
    rw [h k (by omega), rep_cg (fun j hj => h j (by omega))]
theorem lr_cm {N N' : Nat → Int32} {S : Nat → Nat} {r : Nat} (hr : r < 4) (hL : y_lr N S r) (hF : Fcm S N N') (hb : ∀ b, b < 128 → S (2942 + b) ≤ 1) : y_lr N' (cmS S) r := by
  obtain ⟨F, f1, f2, f3⟩ := hL
  obtain ⟨F', hF'⟩ : ∃ F' : Nat → Nat × Nat × Nat, ∀ j, F' j = if ¬ cmC S r ∧ j < S (3390 + r) then F j else cmE S r j := ⟨fun j => if ¬ cmC S r ∧ j < S (3390 + r) then F j else cmE S r j, fun j => rfl⟩
  refine ⟨F', fun j => ?_, fun j hj => ?_, fun p hp => ?_⟩
  · rw [hF']
    split
    · exact f1 j
    · exact lgE_m
  · rw [cm_l hr] at hj
    obtain ⟨e1, e2⟩ := hF.2 r hr j hj
    rw [hF']
    by_cases c : ¬ cmC S r ∧ j < S (3390 + r)
    · rw [if_pos c, e1 c]
      exact f2 j c.2
    · rw [if_neg c]
      obtain ⟨v1, v2, v3⟩ := lgE_val hj c
      exact ⟨v1, v2, e2 c⟩
  · rw [cm_l hr, show 2942 + 32 * r + p = 2942 + (32 * r + p) by omega, cm_b (by omega)]
    have g1d : gR S 1 r p = gm S 1 (32 * r + p) := gR_in hp
    have g0d : gR S 0 r p = gm S 0 (32 * r + p) := gR_in hp
    have g2d : gR S 2 r p = gm S 2 (32 * r + p) := gR_in hp
    have hbb := hb (32 * r + p) (by omega)
    by_cases c : cmC S r
    · have eN : cmN S r = 0 + (rl (gR S 2 r) 33).1 := by
        rw [Nat.zero_add]
        exact if_pos c
      obtain ⟨a1, a2⟩ := rep_rl (F := F') (g := gR S 2 r) (k := 0) (m := 1) (gR_z (by omega)) hp (fun j hj => by
        rw [hF', if_neg (fun x => x.1 c), Nat.zero_add]
        exact if_pos c)
      rw [eN]
      by_cases z : S (2814 + (32 * r + p)) = 0
      · rw [if_pos z, a2 (by rw [g2d]; unfold gm; rw [if_pos rfl, if_pos z])]
        rfl
      · rw [if_neg z, a1 (by rw [g2d]; unfold gm; rw [if_pos rfl, if_neg z]; decide)]
    · have eN : cmN S r = S (3390 + r) + (rl (gR S 1 r) 33).1 + (rl (gR S 0 r) 33).1 := if_neg c
      obtain ⟨a1, a2⟩ := rep_rl (F := F') (g := gR S 1 r) (k := S (3390 + r)) (m := 1) (gR_z (by omega)) hp (fun j hj => by
        rw [hF', if_neg (fun x => by omega)]
        unfold cmE lgE
        rw [if_neg c, if_pos (by omega), Nat.add_sub_cancel_left])
      obtain ⟨b1, b2⟩ := rep_rl (F := F') (g := gR S 0 r) (k := S (3390 + r) + (rl (gR S 1 r) 33).1) (m := 0) (gR_z (by omega)) hp (fun j hj => by
        rw [hF', if_neg (fun x => by omega)]
        unfold cmE lgE
        rw [if_neg c, if_neg (by omega), Nat.add_sub_cancel_left])
      have c0 : repN F' (S (3390 + r)) p = S (2942 + 32 * r + p) := by
        rw [rep_cg (F := F') (G := F) (fun j hj => by rw [hF', if_pos ⟨c, hj⟩])]
        exact f3 p hp
      rw [show 2942 + 32 * r + p = 2942 + (32 * r + p) by omega] at c0
      rw [eN]
      by_cases z : S (2814 + (32 * r + p)) = 0
      · have z1 : gR S 1 r p = 0 := by
          rw [g1d]
          unfold gm
          rw [if_neg (by decide), if_pos rfl, if_neg (fun x => x.1 z)]
        rw [if_pos z]
        by_cases y : S (2942 + (32 * r + p)) = 1
        · rw [b1 (by
            rw [g0d]
            unfold gm
            rw [if_neg (by decide), if_neg (by decide), if_pos ⟨z, y⟩]
            decide)]
        · rw [b2 (by
            rw [g0d]
            unfold gm
            rw [if_neg (by decide), if_neg (by decide), if_neg (fun x => y x.2)]), a2 z1, c0]
          omega
      · have z0 : gR S 0 r p = 0 := by
          rw [g0d]
          unfold gm
          rw [if_neg (by decide), if_neg (by decide), if_neg (fun x => z x.1)]
        rw [if_neg z, b2 z0]
        by_cases y : S (2942 + (32 * r + p)) = 1
        · rw [a2 (by
            rw [g1d]
            unfold gm
            rw [if_neg (by decide), if_pos rfl, if_neg (fun x => x.2 y)]), c0]
          exact y
        · rw [a1 (by
            rw [g1d]
            unfold gm
            rw [if_neg (by decide), if_pos rfl, if_pos ⟨z, y⟩]
            decide)]
