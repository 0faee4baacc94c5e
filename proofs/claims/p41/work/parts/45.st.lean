/-! ===== all that holds between two steps ===== -/
/-- pending blocks, and old ones, were allocated at the commit before -/
def q_pd (S : Nat → Nat) : Prop := ∀ b, b < 128 → (S (2686 + b) ≠ 0 → S (2942 + b) ≠ 0) ∧ (S (2814 + b) ≠ 0 → S (2558 + b) = S 3395 ∨ S (2942 + b) ≠ 0)
def Q_A (V n : Nat) (M : zM) (N : Nat → Int32) (S : Nat → Nat) : Prop := z_R1 V M N S ∧ z_I n S ∧ q_sm S ∧ q_pd S ∧ ∀ r, r < 4 → y_lr N S r
def Q_L (X B C : Nat) (M : zM) (N : Nat → Int32) (S : Nat → Nat) : Prop := L_x X M S ∧ L_b B M N S ∧ L_m C M S
def Q_st (n : Nat) (M : zM) (N N0 : Nat → Int32) (S S0 : Nat → Nat) : Prop := Q_A 1 n M N S ∧ Q_L 169 170 171 M N S ∧ Q_A 84 n M N0 S0 ∧ Q_L 172 173 174 M N0 S0 ∧ z_Bf S S0 ∧ z_Bf S0 S0
theorem Q_LR {n : Nat} {M : zM} {N N0 : Nat → Int32} {S S0 : Nat → Nat} (h : Q_st n M N N0 S S0) : Q_R n M N S := ⟨h.1.1, h.1.2.1, h.1.2.2.1, h.2.1.1, h.2.1.2.1, h.2.1.2.2⟩
theorem Q_L_cg {X B C : Nat} {M M' : zM} {N : Nat → Int32} {S : Nat → Nat} (h : Q_L X B C M N S) (h1 : M' X = M X) (h2 : M' B = M B) (h3 : M' C = M C) : Q_L X B C M' N S := ⟨L_x_cg h.1 h1, L_b_cg h.2.1 h2, L_m_cg h.2.2 h3⟩
theorem sm_st {n : Nat} {M M' : zM} {N N0 : Nat → Int32} {S S0 : Nat → Nat} (hs : y_same M M') (h : Q_st n M N N0 S S0) : Q_st n M' N N0 S S0 := by
  obtain ⟨⟨a1, a2⟩, l1, ⟨b1, b2⟩, l2, f⟩ := h
  exact ⟨⟨sm_R hs a1, a2⟩, Q_L_cg l1 (sm_c hs (by decide)) (sm_c hs (by decide)) (sm_c hs (by decide)), ⟨sm_R84 hs b1, b2⟩, Q_L_cg l2 (sm_c hs (by decide)) (sm_c hs (by decide)) (sm_c hs (by decide)), f⟩
theorem st_mono {n : Nat} {M : zM} {N N0 : Nat → Int32} {S S0 : Nat → Nat} (h : Q_st n M N N0 S S0) : Q_st (n + 1) M N N0 S S0 := by
  obtain ⟨⟨a1, a2, a3⟩, l1, ⟨b1, b2, b3⟩, l2, f⟩ := h
  exact ⟨⟨a1, z_I_mono a2, a3⟩, l1, ⟨b1, z_I_mono b2, b3⟩, l2, f⟩
theorem L_x_mk {X : Nat} {M : zM} {S : Nat → Nat} (h : L_x X M S) : L_x X M (y_mk S) := fun k hk => by
  rw [y_mk_o (Or.inl (by have := ps_2304 hk; omega))]
  exact h k hk
theorem L_m_mk {C : Nat} {M : zM} {S : Nat → Nat} (h : L_m C M S) (ho : ∀ d, d < 3 → S (2310 + d) ≤ 12) : L_m C M (y_mk S) := by
  obtain ⟨⟨h1, h2, h3⟩, h4, h5⟩ := h
  refine ⟨⟨?_, ?_, ?_⟩, fun d hd => ⟨?_, ?_⟩, fun s hs => ?_⟩
  · rw [y_mk_o (Or.inr (by decide))]; exact h1
  · rw [y_mk_o (Or.inr (by decide))]; exact h2
  · rw [y_mk_o (Or.inr (by decide))]; exact h3
  · rw [y_mk_o (Or.inl (by omega))]; exact (h4 d hd).1
  · have e : z_onum (y_mk S) d = z_onum S d := by
      have := ho d hd
      unfold z_onum
      rw [y_mk_o (k := 2310 + d) (Or.inl (by omega)), y_mk_o (k := 2394 + (S (2310 + d) - 1)) (Or.inl (by omega))]
    rw [e]; exact (h4 d hd).2
  · rw [y_mk_o (Or.inl (by omega)), y_mk_o (Or.inl (by omega)), y_mk_o (Or.inl (by omega))]
    exact h5 s hs
theorem mk_al {S S1 : Nat → Nat} (hk : ∀ k, k < 2304 → S1 k = 0 ∨ (∃ j, j < 2304 ∧ S j = S1 k) ∨ ∃ i, i < 64 ∧ S1 k = q_bl i + 1 ∧ S1 (2558 + q_bl i) = S1 3395) {b : Nat} (h : cntN S1 (b + 1) 2304 ≠ 0) : (∃ j, j < 2304 ∧ S j = b + 1) ∨ ∃ i, i < 64 ∧ b = q_bl i ∧ S1 (2558 + b) = S1 3395 := by
  obtain ⟨k, h1, h2⟩ := cntN_pos.mp h
  rcases hk k h1 with q | ⟨j, q1, q2⟩ | ⟨i, q1, q2, q3⟩
  · omega
  · exact Or.inl ⟨j, q1, by omega⟩
  · have e : b = q_bl i := by omega
    exact Or.inr ⟨i, q1, e, by rw [e]; exact q3⟩
theorem st_mk {n : Nat} {M M3 : zM} {N N0 N' : Nat → Int32} {S S0 S1 : Nat → Nat} (hQ : Q_st n M N N0 S S0) (hR : z_R1 1 M3 N' (y_mk S1)) (hI : z_I n (y_mk S1)) (hf : ∀ a, 84 ≤ a → a < 167 → M3 a = M a) (hf2 : ∀ a, 172 ≤ a → a < 175 → M3 a = M a) (hX : L_x 169 M3 S1) (hB : L_b 170 M3 N' (y_mk S1)) (hC : L_m 171 M3 S1) (hoff : q_off S1) (hds : ∀ d, 3 ≤ d → d < 6 → S1 (2304 + d) = 0) (hsn : ∀ s, 4 ≤ s → s < 12 → S1 (2394 + s) = 0) (hb : ∀ b, b < 128 → S1 (2558 + b) = S (2558 + b) ∨ S1 (2558 + b) = S1 3395) (h2 : ∀ k, 2686 ≤ k → k < 3070 → S1 k = S k) (h3 : ∀ k, 3390 ≤ k → k < 3394 → S1 k = S k) (h5 : S1 3395 = S 3395) (hN : ∀ k, 3070 ≤ k → N' k = N k) (hk : ∀ k, k < 2304 → S1 k = 0 ∨ (∃ j, j < 2304 ∧ S j = S1 k) ∨ ∃ i, i < 64 ∧ S1 k = q_bl i + 1 ∧ S1 (2558 + q_bl i) = S1 3395) : Q_st n M3 N' N0 (y_mk S1) S0 := by
  obtain ⟨⟨a1, a2, a3, a4, a5⟩, l1, ⟨b1, b2⟩, l2, f1, f2⟩ := hQ
  refine ⟨⟨hR, hI, ⟨fun k q1 q2 => ?_, fun d q1 q2 => ?_, fun s q1 q2 => ?_, fun b q1 q2 => ?_⟩, fun b q1 => ⟨fun q => ?_, fun q => ?_⟩, fun r hr => ?_⟩, ⟨L_x_mk hX, hB, L_m_mk hC (fun d hd => ?_)⟩, ⟨z_R1_cg b1 (fun k q1 q2 _ => hf k q1 (by omega)), b2⟩, Q_L_cg l2 (hf2 172 (by decide) (by decide)) (hf2 173 (by decide) (by decide)) (hf2 174 (by decide) (by decide)), fun b q1 => ?_, f2⟩
  · rw [y_mk_o (Or.inl (by omega))]
    exact hoff k q1 q2
  · rw [y_mk_o (Or.inl (by omega))]
    exact hds d q1 q2
  · rw [y_mk_o (Or.inl (by omega))]
    exact hsn s q1 q2
  · have h0 := a3.2.2.2 b q1 q2
    have hc : cntN S1 (b + 1) 2304 = 0 := Classical.byContradiction (fun x => by
      rcases mk_al hk x with ⟨j, y1, y2⟩ | ⟨i, y1, y2, _⟩
      · have h4 : cntN S (b + 1) 2304 ≠ 0 := cntN_pos.mpr ⟨j, y1, y2⟩
        rw [← I_ref a2 b q1, h0.1] at h4
        exact h4 rfl
      · rw [y2, bl_32] at q2
        omega)
    have hl : ¬ lostN S1 b = 1 := fun x => by
      have := ((y_mk_ty q1).mp x).2
      rw [h2 _ (by omega) (by omega)] at this
      exact this h0.1
    refine ⟨by rw [y_mk_ref q1]; exact hc, ?_, ?_⟩
    · rw [y_mk_pen q1, if_neg hl, h2 _ (by omega) (by omega)]
      exact h0.2.1
    · rw [y_mk_o (Or.inr (by omega)), h2 _ (by omega) (by omega)]
      exact h0.2.2
  · rw [y_mk_o (Or.inr (by omega)), h2 _ (by omega) (by omega)]
    rw [y_mk_pen q1] at q
    by_cases hl : lostN S1 b = 1
    · rw [if_pos hl] at q
      have h4 := ((y_mk_ty q1).mp hl).2
      rw [h2 _ (by omega) (by omega)] at h4
      have h6 : ¬ S1 (2558 + b) = S1 3395 := fun x => by
        rw [if_pos x] at q
        exact q rfl
      rcases hb b q1 with y | y
      · rcases (a4 b q1).2 h4 with z | z
        · exact absurd (by rw [y, z, h5]) h6
        · exact z
      · exact absurd y h6
    · rw [if_neg hl, h2 _ (by omega) (by omega)] at q
      exact (a4 b q1).1 q
  · rw [y_mk_ref q1] at q
    rw [y_mk_o (k := 2558 + b) (Or.inl (by omega)), y_mk_o (k := 3395) (Or.inr (by decide)), y_mk_o (k := 2942 + b) (Or.inr (by omega)), h2 (2942 + b) (by omega) (by omega)]
    rcases mk_al hk q with ⟨j, y1, y2⟩ | ⟨i, y1, y2, y3⟩
    · have h4 : cntN S (b + 1) 2304 ≠ 0 := cntN_pos.mpr ⟨j, y1, y2⟩
      rw [← I_ref a2 b q1] at h4
      rcases hb b q1 with y | y
      · rcases (a4 b q1).2 h4 with z | z
        · exact Or.inl (by rw [y, z, h5])
        · exact Or.inr z
      · exact Or.inl y
    · exact Or.inl y3
  · obtain ⟨F, g1, g2, g3⟩ := a5 r hr
    have e : y_mk S1 (3390 + r) = S (3390 + r) := by rw [y_mk_o (Or.inr (by omega)), h3 _ (by omega) (by omega)]
    refine ⟨F, g1, fun j hj => ?_, fun p hp => ?_⟩
    · rw [e] at hj
      rw [hN _ (by omega)]
      exact g2 j hj
    · rw [e, y_mk_o (Or.inr (by omega)), h2 _ (by omega) (by omega)]
      exact g3 p hp
  · have := (I_ori hI d (by omega)).1
    rw [y_mk_o (Or.inl (by omega))] at this
    exact this
  · rw [y_mk_o (Or.inr (by omega)), h2 _ (by omega) (by omega)]
    exact f1 b q1
/-! ===== a block is free ===== -/
theorem sumN_mo {f g : Nat → Nat} : ∀ {n : Nat}, (∀ i, i < n → f i ≤ g i) → sumN f n ≤ sumN g n
  | 0, _ => Nat.le_refl _
  | n + 1, h => by
    have h1 := sumN_mo (f := f) (g := g) (n := n) (fun i hi => h i (by omega))
    have h2 := h n (by omega)
    show sumN f n + f n ≤ sumN g n + g n
    omega
theorem low_n {P : Nat → Prop} : ∀ {n : Nat}, (∃ w, w < n ∧ P w) → ∃ w, w < n ∧ P w ∧ ∀ v, v < w → ¬ P v
  | 0, h => by
    obtain ⟨w, h1, _⟩ := h
    omega
  | n + 1, h => by
    by_cases c : ∃ w, w < n ∧ P w
    · obtain ⟨w, h1, h2, h3⟩ := low_n c
      exact ⟨w, by omega, h2, h3⟩
    · obtain ⟨w, h1, h2⟩ := h
      have e : w = n := Classical.byContradiction (fun x => c ⟨w, by omega, h2⟩)
      subst e
      exact ⟨w, h1, h2, fun v hv hp => c ⟨v, hv, hp⟩⟩
theorem bR_mx {g : Nat → Nat} : ∀ {i r : Nat}, r ≤ i → g r ≤ g (bR g i)
  | 0, r, h => by
    have e : r = 0 := by omega
    subst e
    exact Nat.le_refl _
  | i + 1, r, h => by
    unfold bR
    by_cases c : g (i + 1) ≤ g (bR g i)
    · rw [if_pos c]
      by_cases q : r = i + 1
      · rw [q]
        exact c
      · exact bR_mx (by omega)
    · rw [if_neg c]
      by_cases q : r = i + 1
      · rw [q]
        exact Nat.le_refl _
      · have := bR_mx (g := g) (i := i) (r := r) (by omega)
        omega
theorem live_28 {n : Nat} {S : Nat → Nat} (hI : z_I n S) (hs : q_sm S) : sumN (fun b => if S (2814 + b) = 0 then 0 else 1) 128 ≤ 28 := by
  have e : sumN (fun b => if S (2814 + b) = 0 then 0 else 1) 128 = q_D (fun k => S (q_ps k)) (fun _ => True) 28 := by
    unfold q_D
    refine sumN_cg (fun b hb => ?_)
    rw [I_ref hI b hb, cnt_ps hs.1]
    by_cases c : cntN (fun k => S (q_ps k)) (b + 1) 28 = 0
    · rw [if_pos c, if_neg (fun x => x.1 c)]
    · rw [if_neg c, if_pos ⟨c, trivial⟩]
  rw [e, D_sum (fun j hj => I_tab hI _ (ps_2304 hj))]
  have := sumN_le (g := fun j => if S (q_ps j) ≠ 0 ∧ cntN (fun k => S (q_ps k)) (S (q_ps j)) j = 0 ∧ True then 1 else 0) (c := 1) (n := 28) (fun i hi => by
    show (if _ then 1 else 0) ≤ 1
    split <;> decide)
  omega
theorem us_56 {n : Nat} {S S0 : Nat → Nat} (hI : z_I n S) (hs : q_sm S) (hI0 : z_I n S0) (hs0 : q_sm S0) (hB : z_Bf S S0) (hp : q_pd S) : sumN (q_us S) 64 ≤ 56 := by
  have h1 := live_28 hI hs
  have h2 := live_28 hI0 hs0
  have h3 : sumN (fun b => if S (2686 + b) = 0 then 0 else 1) 128 ≤ sumN (fun b => if S0 (2814 + b) = 0 then 0 else 1) 128 := sumN_mo (fun b hb => by
    show (if S (2686 + b) = 0 then 0 else 1) ≤ (if S0 (2814 + b) = 0 then 0 else 1)
    by_cases c : S (2686 + b) = 0
    · rw [if_pos c]
      exact Nat.zero_le _
    · rw [if_neg c]
      have h4 := (hp b hb).1 c
      rw [hB b hb] at h4
      by_cases c2 : S0 (2814 + b) = 0
      · rw [c2] at h4
        exact absurd rfl h4
      · rw [if_neg c2]
        exact Nat.le_refl _)
  have e1 : sumN (fun b => if S (2814 + b) = 0 then 0 else 1) 128 = sumN (fun i => if S (2814 + q_bl i) = 0 then 0 else 1) 64 := sum_bl (g := fun b => if S (2814 + b) = 0 then 0 else 1) (fun b hb hq => if_pos (hs.2.2.2 b hb hq).1)
  have e2 : sumN (fun b => if S (2686 + b) = 0 then 0 else 1) 128 = sumN (fun i => if S (2686 + q_bl i) = 0 then 0 else 1) 64 := sum_bl (g := fun b => if S (2686 + b) = 0 then 0 else 1) (fun b hb hq => if_pos (hs.2.2.2 b hb hq).2.1)
  have e3 := sumN_add (f := fun i => if S (2814 + q_bl i) = 0 then 0 else 1) (g := fun i => if S (2686 + q_bl i) = 0 then 0 else 1) (n := 64)
  have e4 : sumN (q_us S) 64 ≤ sumN (fun i => (if S (2814 + q_bl i) = 0 then 0 else 1) + (if S (2686 + q_bl i) = 0 then 0 else 1)) 64 := sumN_mo (fun i hi => by
    show q_us S i ≤ (if S (2814 + q_bl i) = 0 then 0 else 1) + (if S (2686 + q_bl i) = 0 then 0 else 1)
    by_cases c : S (2686 + q_bl i) = 0
    · by_cases c2 : S (2814 + q_bl i) = 0
      · rw [us_0 c c2]
        exact Nat.zero_le _
      · rw [us_a c2, if_neg c2]
        omega
    · rw [us_p c, if_neg c]
      omega)
  omega
theorem free_w {n : Nat} {M : zM} {N : Nat → Int32} {S S0 : Nat → Nat} (hI : z_I n S) (hs : q_sm S) (hI0 : z_I n S0) (hs0 : q_sm S0) (hB : z_Bf S S0) (hp : q_pd S) (hL : L_b 170 M N S) : ∃ w i, w < 16 ∧ i < 64 ∧ i = 16 * bR (gF S) 3 + w ∧ q_bl i = 32 * bR (gF S) 3 + w ∧ z_sta S (q_bl i) = 0 ∧ (∀ j, j < w → ¬ z_sta S (32 * bR (gF S) 3 + j) = 0) ∧ fL_next 170 M = some (nI i) := by
  have h0 := us_56 hI hs hI0 hs0 hB hp
  have hR3 := bR_le (g := gF S) (i := 3)
  have hrr : ∀ b, b < 128 → 16 ≤ b % 32 → S (2814 + b) = 0 ∧ S (2686 + b) = 0 := fun b hb q => ⟨(hs.2.2.2 b hb q).1, (hs.2.2.2 b hb q).2.1⟩
  have e1 : sumN (q_us S) (16 * 4) = sumN (fun t => q_G S t) 4 := sumN_mu
  have e1 : sumN (q_us S) 64 = 0 + q_G S 0 + q_G S 1 + q_G S 2 + q_G S 3 := e1
  have g0 := gF_G hrr (r := 0) (by decide)
  have g1 := gF_G hrr (r := 1) (by decide)
  have g2 := gF_G hrr (r := 2) (by decide)
  have g3 := gF_G hrr (r := 3) (by decide)
  have gR := gF_G hrr (r := bR (gF S) 3) (by omega)
  have m0 := bR_mx (g := gF S) (i := 3) (r := 0) (by decide)
  have m1 := bR_mx (g := gF S) (i := 3) (r := 1) (by decide)
  have m2 := bR_mx (g := gF S) (i := 3) (r := 2) (by decide)
  have m3 := bR_mx (g := gF S) (i := 3) (r := 3) (by decide)
  have hG : q_G S (bR (gF S) 3) < 16 := by omega
  have hex : ∃ w, w < 16 ∧ q_us S (16 * bR (gF S) 3 + w) = 0 := Classical.byContradiction (fun x => by
    have e2 : q_G S (bR (gF S) 3) = sumN (fun _ => 1) 16 := sumN_cg (fun j hj => by
      have h1 := us_1 (S := S) (i := 16 * bR (gF S) 3 + j)
      have h2 : q_us S (16 * bR (gF S) 3 + j) ≠ 0 := fun y => x ⟨j, hj, y⟩
      omega)
    have e3 : sumN (fun _ => 1) 16 = 1 * 16 := sum_c
    omega)
  obtain ⟨w, w1, w2, w3⟩ := low_n hex
  have e4 : ∀ v, v < 16 → q_bl (16 * bR (gF S) 3 + v) = 32 * bR (gF S) 3 + v := fun v hv => by
    unfold q_bl
    omega
  refine ⟨w, 16 * bR (gF S) 3 + w, w1, by omega, rfl, e4 w w1, sta_us.mpr w2, fun j hj => ?_, f_next hL hrr w1 w2 w3⟩
  rw [← e4 j (by omega)]
  exact fun x => w3 j hj (sta_us.mp x)
