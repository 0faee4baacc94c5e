/-! ===== the memory's part: numbers, loops, cells ===== -/
theorem n_lit (n : Nat) [NeZero n] : (OfNat.ofNat n : Int32) = nI n := rfl
theorem n_0 : (0 : Int32) = nI 0 := rfl
theorem n_1 : (1 : Int32) = nI 1 := rfl
theorem n_lit' (n : Nat) : (OfNat.ofNat n : Int32) = nI n := rfl
theorem n_ne {a b : Nat} (ha : a < 2 ^ 31) (hb : b < 2 ^ 31) (h : a ≠ b) : nI a ≠ nI b := fun q => h ((nI_eq ha hb).mp q)
theorem n_m1 {a : Nat} (ha : a < 2 ^ 31) : nI a - nI 1 = -1 ↔ a = 0 := by
  constructor
  · intro h
    rcases Nat.eq_zero_or_pos a with q | q
    · exact q
    · rw [pk_sub q] at h
      have h2 : (nI (a - 1)).toInt = (-1 : Int32).toInt := by rw [h]
      rw [nI_toInt (by omega)] at h2
      have h3 : (-1 : Int32).toInt = -1 := rfl
      omega
  · intro h
    subst h
    rfl
theorem n_pm1 {a : Nat} (h : a ≠ 0) : nI a - nI 1 = nI (a - 1) := pk_sub (by omega)
theorem n_sub_eq {a b : Nat} (ha : a < 2 ^ 30) (hb : b < 2 ^ 30) : nI a - nI 1 = nI b - nI 1 ↔ a = b := by
  constructor
  · intro h
    have h2 : (nI a - nI 1).toInt = (nI b - nI 1).toInt := by rw [h]
    rw [pk_sub_toInt ha (by decide), pk_sub_toInt hb (by decide)] at h2
    omega
  · intro h
    rw [h]
theorem n_neg {a : Nat} (ha : a < 2 ^ 31) : nI a < nI 0 ↔ False := by
  rw [nI_ltI ha (by decide)]
  exact ⟨fun h => absurd h (Nat.not_lt_zero _), False.elim⟩
/-- an int is negative, or too large, or one of the first n numbers -/
theorem n_ix (x : Int32) {n : Nat} (hn : n < 2 ^ 31) : x < nI 0 ∨ nI n ≤ x ∨ ∃ j : Nat, j < n ∧ x = nI j := pk_ix x hn
theorem z_ldn {M : zM} {k n i : Nat} (h : i < n) (hn : n < 2 ^ 31) : z_ld M k n (nI i) = some (M k i) := by
  unfold z_ld
  rw [if_neg (fun q => q.elim (fun q => nI_pos (show i < 2 ^ 31 by omega) q) (fun q => by rw [nI_clamp (by omega)] at q; omega)), nI_clamp (by omega)]
theorem z_san {M : zM} {k n i : Nat} {v : Int32} (h : i < n) (hn : n < 2 ^ 31) : z_sa M k n (nI i) v = some (z_st M k i v) := by
  unfold z_sa
  rw [if_neg (fun q => q.elim (fun q => nI_pos (show i < 2 ^ 31 by omega) q) (fun q => by rw [nI_clamp (by omega)] at q; omega)), nI_clamp (by omega)]
theorem z_sbn {M : zM} {k n i : Nat} {v : Int32} (h : i < n) (hn : n < 2 ^ 31) (hv : v = 0 ∨ v = 1) : z_sb M k n (nI i) v = some (z_st M k i v) := by
  unfold z_sb
  rw [if_neg (fun q => q.elim (fun q => nI_pos (show i < 2 ^ 31 by omega) q) (fun q => by rw [nI_clamp (by omega)] at q; omega)), if_pos hv, nI_clamp (by omega)]
theorem z_pzn {M : zM} {k j : Nat} {v : Int32} (hv : v = 0 ∨ v = 1) : z_pz M k j v = some (z_st M k j v) := by
  unfold z_pz
  rw [if_pos hv]
theorem z_lqn {c k n i : Nat} (h : i < n) (hn : n < 2 ^ 31) : z_lq c k n (nI i) = some (z_rf c k i) := by
  unfold z_lq
  rw [if_neg (fun q => q.elim (fun q => nI_pos (show i < 2 ^ 31 by omega) q) (fun q => by rw [nI_clamp (by omega)] at q; omega)), nI_clamp (by omega)]
theorem z_lq11 {V d : Nat} (h : d < 6) : z_lq 11 (V + 1) 6 (nI d) = some (V + 9 + 3 * d) := by
  rw [z_lqn h (by decide)]
  show some (V + 1 + 8 + 3 * d) = _
  exact congrArg some (by omega)
theorem z_lq12 {V s : Nat} (h : s < 12) : z_lq 12 (V + 2) 12 (nI s) = some (V + 27 + 3 * s) := by
  rw [z_lqn h (by decide)]
  show some (V + 2 + 25 + 3 * s) = _
  exact congrArg some (by omega)
theorem z_lq13 {V r : Nat} (h : r < 4) : z_lq 13 (V + 8) 4 (nI r) = some (V + 63 + 5 * r) := by
  rw [z_lqn h (by decide)]
  show some (V + 8 + 55 + 5 * r) = _
  exact congrArg some (by omega)
theorem z_gdp {α : Type} {x c : Nat} {o : Option α} (h : z_kd x = c) : z_gd x c o = o := if_pos h
theorem z_bzp {α : Type} {x : Int32} {o : Option α} (h : x = 0 ∨ x = 1) : z_bz x o = o := if_pos h
theorem z_b2s {A B γ : Type} {a : A} {b : B} {f : A → B → Option γ} : z_b2 (some (a, b)) f = f a b := rfl
theorem z_b3s {A B C γ : Type} {a : A} {b : B} {c : C} {f : A → B → C → Option γ} : z_b3 (some (a, b, c)) f = f a b c := rfl
theorem z_bs {A γ : Type} {a : A} {f : A → Option γ} : (some a).bind f = f a := rfl
theorem z_ocN {α : Type} {a : Option α} {f : Nat → Option α} : z_oc none a f = a := rfl
theorem z_ocS {α : Type} {a : Option α} {f : Nat → Option α} {x : Nat} : z_oc (some x) a f = f x := rfl
theorem z_oxL {τ α : Type} {g : String → Option α} {f : τ → Option α} {E : String} : z_ox (.inl E) g f = g E := rfl
theorem z_oxR {τ α : Type} {g : String → Option α} {f : τ → Option α} {x : τ} : z_ox (.inr x) g f = f x := rfl
theorem z_scL {ξ ρ α : Type} {f : ξ → Option α} {g : ρ → Option α} {x : ξ} : z_sc (.inl x) f g = f x := rfl
theorem z_scR {ξ ρ α : Type} {f : ξ → Option α} {g : ρ → Option α} {x : ρ} : z_sc (.inr x) f g = g x := rfl
/-- a loop: what holds at its head with i steps done, its end after at most e of them -/
theorem z_loopG {σ ρ : Type} {f : σ → Option (σ ⊕ ρ)} (I : Nat → σ → Prop) (Q : ρ → Prop) (e : Nat) (hs : ∀ i s, i ≤ e → I i s → (i < e ∧ ∃ s', f s = some (.inl s') ∧ I (i + 1) s') ∨ ∃ r, f s = some (.inr r) ∧ Q r) : ∀ (n i : Nat) (s : σ), i ≤ e → e < i + n → I i s → ∃ r, z_loop f n s = some r ∧ Q r := by
  intro n
  induction n with
  | zero =>
    intro i s h1 h2
    omega
  | succ n ih =>
    intro i s h1 h2 hI
    rcases hs i s h1 hI with ⟨hi, s', e1, hI'⟩ | ⟨r, e1, hQ⟩
    · obtain ⟨r, e2, hQ⟩ := ih (i + 1) s' hi (by omega) hI'
      exact ⟨r, by show (f s).bind _ = _; rw [e1]; exact e2, hQ⟩
    · exact ⟨r, by show (f s).bind _ = _; rw [e1]; rfl, hQ⟩
theorem z_loopF {σ ρ : Type} {f : σ → Option (σ ⊕ ρ)} (I : Nat → σ → Prop) (Q : ρ → Prop) (e : Nat) {s : σ} (he : e < 4000) (hs : ∀ i s, i ≤ e → I i s → (i < e ∧ ∃ s', f s = some (.inl s') ∧ I (i + 1) s') ∨ ∃ r, f s = some (.inr r) ∧ Q r) (h0 : I 0 s) : ∃ r, z_loop f z_FU s = some r ∧ Q r := z_loopG I Q e hs z_FU 0 s (Nat.zero_le _) (by unfold z_FU; omega) h0
theorem z_loopC {σ ρ : Type} {f : σ → Option (σ ⊕ ρ)} (st : Nat → σ) (e : Nat) (r : ρ) (he : e < 4000) (hs : ∀ i, i < e → f (st i) = some (.inl (st (i + 1)))) (hx : f (st e) = some (.inr r)) : z_loop f z_FU (st 0) = some r := by
  obtain ⟨r', h1, h2⟩ := z_loopF (f := f) (fun i s => s = st i) (fun r' => r' = r) e he (fun i s hi hI => by
    subst hI
    rcases Nat.lt_or_ge i e with q | q
    · exact Or.inl ⟨q, _, hs i q, rfl⟩
    · have : i = e := by omega
      subst this
      exact Or.inr ⟨r, hx, rfl⟩) rfl
  rw [h1, h2]
theorem u_s {f : Nat → Int32} {k : Nat} {x : Int32} : upd f k x k = x := if_pos rfl
theorem u_n {f : Nat → Int32} {k j : Nat} {x : Int32} (h : j ≠ k) : upd f k x j = f j := if_neg h
theorem s_s {M : zM} {k j : Nat} {v : Int32} : z_st M k j v k = upd (M k) j v := if_pos rfl
theorem s_n {M : zM} {k j a : Nat} {v : Int32} (h : a ≠ k) : z_st M k j v a = M a := if_neg h
theorem z_rfl {α : Type} {a : α} : (some a = some a) = True := eq_true rfl
