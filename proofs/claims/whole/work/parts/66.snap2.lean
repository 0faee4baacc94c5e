theorem Fcm_cg {S : Nat → Nat} {N N2 N' : Nat → Int32} (h : Fcm S N2 N') (h1 : ∀ k, 2430 ≤ k → k < 2558 → N2 k = N k) (h2 : ∀ k, 3070 ≤ k → k < 3390 → N2 k = N k) : Fcm S N N' :=
  ⟨fun k k1 k2 => by rw [← h1 k k1 k2]; exact h.1 k k1 k2, fun r hr j hj => by
    have := cmN_le (S := S) (r := r)
    obtain ⟨a1, a2⟩ := h.2 r hr j hj
    exact ⟨fun x => by rw [← h2 _ (by omega) (by omega)]; exact a1 x, a2⟩⟩
theorem Fcm_ex {n : Nat} {S : Nat → Nat} (N : Nat → Int32) (hI : z_I n S) (hn : n < 600) (hbf : ∀ b, b < 128 → S (2942 + b) ≤ 1) : ∃ N', Fcm S N N' := by
  obtain ⟨M', _, _, h, _, _⟩ := mCm (Mm := fun a => if a = 170 then (fun k => if (2430 ≤ k ∧ k < 2558) ∨ (3070 ≤ k ∧ k < 3390) then N k else nI (S k)) else fun _ => 0) (S := S) (by
    show z_N (if (170 : Nat) = 170 then (fun k => if (2430 ≤ k ∧ k < 2558) ∨ (3070 ≤ k ∧ k < 3390) then N k else nI (S k)) else fun _ => 0) S
    rw [if_pos rfl]
    exact ⟨fun k hk => if_neg (by omega), fun k k1 k2 => if_neg (by omega), fun k k1 k2 => if_neg (by omega)⟩) hI hn hbf
  refine ⟨_, Fcm_cg h (fun k k1 k2 => ?_) (fun k k1 k2 => ?_)⟩
  · show (if (170 : Nat) = 170 then (fun k => if (2430 ≤ k ∧ k < 2558) ∨ (3070 ≤ k ∧ k < 3390) then N k else nI (S k)) else fun _ => 0) k = N k
    rw [if_pos rfl]
    exact if_pos (Or.inl ⟨k1, k2⟩)
  · show (if (170 : Nat) = 170 then (fun k => if (2430 ≤ k ∧ k < 2558) ∨ (3070 ≤ k ∧ k < 3390) then N k else nI (S k)) else fun _ => 0) k = N k
    rw [if_pos rfl]
    exact if_pos (Or.inr ⟨k1, k2⟩)
theorem cTk {n : Nat} {M : zM} {S : Nat → Nat} {d s c : Nat} (hR : z_R1 1 M (M 170) S) (hI : z_I n S) (hd : d < 6) (hs : s < 12) (h0 : S (2394 + s) = 0) (hcc : c = S (2388 + d)) : ∃ M8, fX5_take 1 (1 + 27 + 3 * s) (1 + 9 + 3 * d) (nI d) M = some M8 ∧ y_Q 1 M8 (M 170) (snS S d s c) (z_sta S) ∧ ∀ a, 84 ≤ a → M8 a = M a := by
  have hc : c ≤ 11 := by rw [hcc]; exact own11 hI hd hs h0
  have hQ := z_Q_of hR hI
  have c5 : M 1 5 = nI (S 3394) := hR.2.2.2.2.2.2.1
  have c4 : M 1 4 = nI (S 3395) := hR.2.2.2.2.2.1
  have hso := cSo hR.2.2.1 hI hd
  rw [← hcc] at hso
  obtain ⟨M2, hM2⟩ : ∃ M2, M2 = z_st M (1 + 27 + 3 * s) 4 (nI c) := ⟨_, rfl⟩
  obtain ⟨M3, hM3⟩ : ∃ M3, M3 = z_st M2 (1 + 27 + 3 * s) 3 (nI d) := ⟨_, rfl⟩
  have k3 : M3 1 5 = nI (S 3394) := by rw [hM3, s_n (by omega), hM2, s_n (by omega)]; exact c5
  obtain ⟨M4, hM4⟩ : ∃ M4, M4 = z_st M3 (1 + 27 + 3 * s) 2 (nI (S 3394)) := ⟨_, rfl⟩
  have k4 : M4 1 4 = nI (S 3395) := by rw [hM4, s_n (by omega), hM3, s_n (by omega), hM2, s_n (by omega)]; exact c4
  obtain ⟨M5, hM5⟩ : ∃ M5, M5 = z_st M4 (1 + 27 + 3 * s) 5 (nI (S 3395)) := ⟨_, rfl⟩
  obtain ⟨M6, hM6⟩ : ∃ M6, M6 = z_st M5 (1 + 27 + 3 * s) 1 (nI 1) := ⟨_, rfl⟩
  have f6 : ∀ a, a ≠ 1 + 27 + 3 * s → M6 a = M a := fun a ha => by rw [hM6, s_n ha, hM5, s_n ha, hM4, s_n ha, hM3, s_n ha, hM2, s_n ha]
  have r6 : M6 (1 + 27 + 3 * s) = upd (upd (upd (upd (upd (M (1 + 27 + 3 * s)) 4 (nI c)) 3 (nI d)) 2 (nI (S 3394))) 5 (nI (S 3395))) 1 (nI 1) := by rw [hM6, s_s, hM5, s_s, hM4, s_s, hM3, s_s, hM2, s_s]
  obtain ⟨M7, e1, e2, e3⟩ := cFill (t := 6 + s) (u := d) (z_T_cg hQ.1 (f6 _ (by omega)) (fun t ht => f6 _ (by omega))) (by omega) (by omega) (by omega)
  rw [show 1 + 9 + 3 * (6 + s) + 1 = 1 + 27 + 3 * s + 1 by omega] at e1
  have k7 : M7 1 5 = nI (S 3394) := by rw [e3 _ (by omega) (by omega), f6 _ (by omega)]; exact c5
  obtain ⟨M8, hM8⟩ : ∃ M8, M8 = z_st M7 1 5 (nI (S 3394 + 1)) := ⟨_, rfl⟩
  have fM : ∀ a, a ≠ 1 → a ≠ 1 + 3 + 4 → a ≠ 1 + 27 + 3 * s + 1 + 1 → a ≠ 1 + 27 + 3 * s → M8 a = M a := fun a q1 q2 q3 q4 => by rw [hM8, s_n q1, e3 a q2 (by omega), f6 a q4]
  have r8 : M8 (1 + 27 + 3 * s) = M6 (1 + 27 + 3 * s) := by rw [hM8, s_n (by omega), e3 _ (by omega) (by omega)]
  have eE := fun {k : Nat} (h : (2304 ≤ k ∧ k < 2316) ∨ (2430 ≤ k ∧ k ≠ 3394)) => sn_E (S := S) hd hs hc h
  have eO := fun {e r : Nat} (he : e < 6) (hr : r < 12) => sn_O (S := S) hd hs hc he hr
  have eC := fun {e : Nat} (he : e < 6) => sn_C (S := S) hd hs hc he
  have eN := fun {t : Nat} (ht : t < 12) => sn_N (S := S) hd hs hc ht
  have eX := fun {t : Nat} (ht : t < 12) => sn_X (S := S) hd hs hc ht
  have eW := fun {t : Nat} (ht : t < 12) => sn_W (S := S) hd hs hc ht
  have eT := fun {k : Nat} (hk : k < 2304) => sn_T (S := S) hd hs hc hk
  have e9 := sn_9 (S := S) hd hs hc
  obtain ⟨rk, hsl, hrk, _⟩ := z_rk2 hR.2.2.1 hI.1
  have hsl8 : y_sl 1 M8 (updN (z_ex S) s 1) (updN (fun t => S (2418 + t)) s d) (updN rk s c) := fun t ht => by
    by_cases q : t = s
    · subst q
      rw [upN_s, upN_s, upN_s, r8, r6, u_s, u_n (by decide), u_n (by decide), u_n (by decide), u_s, u_n (by decide), u_n (by decide), u_n (by decide), u_n (by decide), u_s]
      exact ⟨rfl, Nat.le_refl _, fun _ => ⟨rfl, hd, rfl, by omega⟩⟩
    · rw [upN_n q, upN_n q, upN_n q, fM _ (by omega) (by omega) (by omega) (by omega)]
      exact hsl t ht
  have hsn : R_sn 1 M8 (snS S d s c) := R_sn_of hsl8 (fun t ht => by
      rw [eN ht]
      by_cases q : t = s
      · rw [if_pos q, q, upN_s]
        exact ⟨fun x => by omega, fun x => absurd x (by decide)⟩
      · rw [if_neg q, upN_n q]
        by_cases y : S (2394 + t) = 0
        · rw [ex_0 y, y]
        · rw [ex_1 y]
          exact ⟨fun x => absurd x y, fun x => absurd x (by decide)⟩) (fun t ht q => by
      rw [eN ht, eX ht, eW ht]
      by_cases y : t = s
      · subst y
        rw [if_pos rfl, if_pos rfl, if_pos rfl, upN_s, upN_s, r8, r6, u_n (by decide), u_n (by decide), u_s, u_n (by decide), u_s, eC hd, if_pos rfl, eO hd (by omega), if_pos ⟨rfl, rfl⟩]
        exact ⟨rfl, rfl, rfl, by omega, rfl⟩
      · rw [upN_n y] at q
        have q1 : S (2394 + t) ≠ 0 := fun x => q (ex_0 x)
        obtain ⟨l1, l2, l3, _⟩ := (hR.2.2.1 t ht).2 q1
        obtain ⟨k1, k2⟩ := hrk t ht q1
        have l4 := (I_liv hI t ht q1).2.1
        have l5 := (I_ord hI _ l4).1
        rw [if_neg y, if_neg y, if_neg y, upN_n y, upN_n y, fM _ (by omega) (by omega) (by omega) (by omega)]
        refine ⟨l1, l3, rfl, ?_⟩
        show rk t < snS S d s c (2388 + S (2418 + t)) ∧ z_ord (snS S d s c) (S (2418 + t)) (rk t) = t
        rw [eC l4, eO l4 (by omega), if_neg (show ¬ (S (2418 + t) = d ∧ rk t = c) from fun x => by
          have x2 := x.2
          rw [x.1] at k1
          omega)]
        refine ⟨?_, k2⟩
        by_cases z : S (2418 + t) = d
        · rw [if_pos z]
          rw [z] at k1
          omega
        · rw [if_neg z]
          exact k1)
  refine ⟨M8, ?_, y_Q_gen hQ (z_T_cg (z_T_T e2 (fun k hk => ?_)) (by rw [hM8, s_n (by omega)]) (fun t ht => by rw [hM8, s_n (by omega)])) (fun e he => ?_) hsn ?_ (fun k k1 k2 => eE (by omega)) (fun a k1 k2 => fM a (by omega) (by omega) (by omega) (by omega)) (fun a k1 k2 => fM a (by omega) (by omega) (by omega) (by omega)), fun a ha => fM a (by omega) (by omega) (by omega) (by omega)⟩
  · unfold fX5_take
    simp (disch := first | omega | assumption) only [l_0, l_1, l_2, l_3, l_4, l_5, l_6, l_7, l_8, l_11, l_12, l_15, l_16, l_31, l_32, l_66, l_80, l_100, l_127, l_128, l_768, l_2304, l_2310, l_2316, l_2388, l_2394, l_2406, l_2418, l_2430, l_2558, l_2686, l_2814, l_2942, l_3070, l_3390, l_3394, l_3395, l_3396, l_3397, n_leT, n_leF, n_ltT, n_ltF, n_eqT, n_eqF, nI_add, pk_mul, n_sub, z_ldn, z_san, z_bs, z_b2s, z_b3s, z_ocN, z_ocS, z_oxL, z_oxR, z_scL, z_scR, ↓reduceIte, st_170, st_171, st_172, st_173, Nat.zero_add, Nat.add_zero, Nat.zero_lt_succ, true_and, and_true, eq_self, hso, ← hM2, ← hM3, k3, ← hM4, k4, ← hM5, z_pz1, ← hM6, e1, k7, ← hM8]
  · rw [eT hk]
    unfold z_fillT
    rw [show 128 * (6 + s) = 768 + 128 * s by omega]
  · have ho : z_onum (snS S d s c) e = z_onum S e := by
      have q1 := (I_ori hI e he).1
      unfold z_onum
      rw [eE (by omega)]
      by_cases q : S (2310 + e) = 0
      · rw [if_pos q, if_pos q]
      · rw [if_neg q, if_neg q, eN (by omega), if_neg]
        intro x
        have := ((I_ori hI e he).2 q).1
        rw [x] at this
        exact this h0
    rw [fM _ (by omega) (by omega) (by omega) (by omega), ho, eE (by omega)]
    exact hR.2.1 e he
  · have e : M8 1 = upd (M 1) 5 (nI (S 3394 + 1)) := by rw [hM8, s_s, e3 _ (by omega) (by omega), f6 _ (by omega)]
    refine ⟨?_, ?_, ?_⟩
    · rw [e, u_n (by decide), eE (by omega)]
      exact c4
    · rw [e, u_s, e9]
    · rw [e, u_n (by decide), eE (by omega)]
      exact hR.2.2.2.2.2.2.2
