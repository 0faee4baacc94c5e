/-! ===== the memory's part: numbers, loops, cells ===== -/
theorem n_lit (n : Nat) [NeZero n] : (OfNat.ofNat n : Int32) = nI n := rfl
theorem n_0 : (0 : Int32) = nI 0 := rfl
theorem n_1 : (1 : Int32) = nI 1 := rfl
theorem n_lit' (n : Nat) : (OfNat.ofNat n : Int32) = nI n := rfl
theorem n_ne {a b : Nat} (ha : a < 2 ^ 31) (hb : b < 2 ^ 31) (h : a ≠ b) : nI a ≠ nI b := fun q => h ((nI_eq ha hb).mp q)
theorem n_m1 {a : Nat} (ha : a < 2 ^ 31) : nI a - nI 1 = -1 ↔ a = 0 := by
  constructor
  · intro h
    rcases Nat.eq_zero_or_pos a with q | q
    · exact q
    · rw [pk_sub q] at h
      have h2 : (nI (a - 1)).toInt = (-1 : Int32).toInt := by rw [h]
      rw [nI_toInt (by omega)] at h2
      have h3 : (-1 : Int32).toInt = -1 := rfl
      omega
  · intro h
    subst h
    rfl
theorem n_pm1 {a : Nat} (h : a ≠ 0) : nI a - nI 1 = nI (a - 1) := pk_sub (by omega)
theorem n_sub_eq {a b : Nat} (ha : a < 2 ^ 30) (hb : b < 2 ^ 30) : nI a - nI 1 = nI b - nI 1 ↔ a = b := by
  constructor
  · intro h
    have h2 : (nI a - nI 1).toInt = (nI b - nI 1).toInt := by rw [h]
    rw [pk_sub_toInt ha (by decide), pk_sub_toInt hb (by decide)] at h2
    omega
  · intro h
    rw [h]
theorem n_neg {a : Nat} (ha : a < 2 ^ 31) : nI a < nI 0 ↔ False := by
  rw [nI_ltI ha (by decide)]
  exact ⟨fun h => absurd h (Nat.not_lt_zero _), False.elim⟩
/-- an int is negative, or too large, or one of the first n numbers -/
theorem n_ix (x : Int32) {n : Nat} (hn : n < 2 ^ 31) : x < nI 0 ∨ nI n ≤ x ∨ ∃ j : Nat, j < n ∧ x = nI j := pk_ix x hn
theorem z_ldn {M : zM} {k n i : Nat} (h : i < n) (hn : n < 2 ^ 31) : z_ld M k n (nI i) = some (M k i) := by
  unfold z_ld
  rw [if_neg (fun q => q.elim (fun q => nI_pos (show i < 2 ^ 31 by omega) q) (fun q => by rw [nI_clamp (by omega)] at q; omega)), nI_clamp (by omega)]
theorem z_san {M : zM} {k n i : Nat} {v : Int32} (h : i < n) (hn : n < 2 ^ 31) : z_sa M k n (nI i) v = some (z_st M k i v) := by
  unfold z_sa
  rw [if_neg (fun q => q.elim (fun q => nI_pos (show i < 2 ^ 31 by omega) q) (fun q => by rw [nI_clamp (by omega)] at q; omega)), nI_clamp (by omega)]
theorem z_sbn {M : zM} {k n i : Nat} {v : Int32} (h : i < n) (hn : n < 2 ^ 31) (hv : v = 0 ∨ v = 1) : z_sb M k n (nI i) v = some (z_st M k i v) := by
  unfold z_sb
  rw [if_neg (fun q => q.elim (fun q => nI_pos (show i < 2 ^ 31 by omega) q) (fun q => by rw [nI_clamp (by omega)] at q; omega)), if_pos hv, nI_clamp (by omega)]
theorem z_pzn {M : zM} {k j : Nat} {v : Int32} (hv : v = 0 ∨ v = 1) : z_pz M k j v = some (z_st M k j v) := by
  unfold z_pz
  rw [if_pos hv]
theorem z_lqn {c k n i : Nat} (h : i < n) (hn : n < 2 ^ 31) : z_lq c k n (nI i) = some (z_rf c k i) := by
  unfold z_lq
  rw [if_neg (fun q => q.elim (fun q => nI_pos (show i < 2 ^ 31 by omega) q) (fun q => by rw [nI_clamp (by omega)] at q; omega)), nI_clamp (by omega)]
theorem z_lq11 {V d : Nat} (h : d < 6) : z_lq 11 (V + 1) 6 (nI d) = some (V + 9 + 3 * d) := by
  rw [z_lqn h (by decide)]
  show some (V + 1 + 8 + 3 * d) = _
  exact congrArg some (by omega)
theorem z_lq12 {V s : Nat} (h : s < 12) : z_lq 12 (V + 2) 12 (nI s) = some (V + 27 + 3 * s) := by
  rw [z_lqn h (by decide)]
  show some (V + 2 + 25 + 3 * s) = _
  exact congrArg some (by omega)
theorem z_lq13 {V r : Nat} (h : r < 4) : z_lq 13 (V + 8) 4 (nI r) = some (V + 63 + 5 * r) := by
  rw [z_lqn h (by decide)]
  show some (V + 8 + 55 + 5 * r) = _
  exact congrArg some (by omega)
theorem z_gdp {α : Type} {x c : Nat} {o : Option α} (h : z_kd x = c) : z_gd x c o = o := if_pos h
theorem z_bzp {α : Type} {x : Int32} {o : Option α} (h : x = 0 ∨ x = 1) : z_bz x o = o := if_pos h
theorem z_b2s {A B γ : Type} {a : A} {b : B} {f : A → B → Option γ} : z_b2 (some (a, b)) f = f a b := rfl
theorem z_b3s {A B C γ : Type} {a : A} {b : B} {c : C} {f : A → B → C → Option γ} : z_b3 (some (a, b, c)) f = f a b c := rfl
theorem z_bs {A γ : Type} {a : A} {f : A → Option γ} : (some a).bind f = f a := rfl
theorem z_ocN {α : Type} {a : Option α} {f : Nat → Option α} : z_oc none a f = a := rfl
theorem z_ocS {α : Type} {a : Option α} {f : Nat → Option α} {x : Nat} : z_oc (some x) a f = f x := rfl
theorem z_oxL {τ α : Type} {g : String → Option α} {f : τ → Option α} {E : String} : z_ox (.inl E) g f = g E := rfl
theorem z_oxR {τ α : Type} {g : String → Option α} {f : τ → Option α} {x : τ} : z_ox (.inr x) g f = f x := rfl
theorem z_scL {ξ ρ α : Type} {f : ξ → Option α} {g : ρ → Option α} {x : ξ} : z_sc (.inl x) f g = f x := rfl
theorem z_scR {ξ ρ α : Type} {f : ξ → Option α} {g : ρ → Option α} {x : ρ} : z_sc (.inr x) f g = g x := rfl
/-- a loop: what holds at its head with i steps done, its end after at most e of them -/
theorem z_loopG {σ ρ : Type} {f : σ → Option (σ ⊕ ρ)} (I : Nat → σ → Prop) (Q : ρ → Prop) (e : Nat) (hs : ∀ i s, i ≤ e → I i s → (i < e ∧ ∃ s', f s = some (.inl s') ∧ I (i + 1) s') ∨ ∃ r, f s = some (.inr r) ∧ Q r) : ∀ (n i : Nat) (s : σ), i ≤ e → e < i + n → I i s → ∃ r, z_loop f n s = some r ∧ Q r := by
  intro n
  induction n with
  | zero =>
    intro i s h1 h2
    omega
  | succ n ih =>
    intro i s h1 h2 hI
    rcases hs i s h1 hI with ⟨hi, s', e1, hI'⟩ | ⟨r, e1, hQ⟩
    · obtain ⟨r, e2, hQ⟩ := ih (i + 1) s' hi (by omega) hI'
      exact ⟨r, by show (f s).bind _ = _; rw [e1]; exact e2, hQ⟩
    · exact ⟨r, by show (f s).bind _ = _; rw [e1]; rfl, hQ⟩
theorem z_loopF {σ ρ : Type} {f : σ → Option (σ ⊕ ρ)} (I : Nat → σ → Prop) (Q : ρ → Prop) (e : Nat) {s : σ} (he : e < 4000) (hs : ∀ i s, i ≤ e → I i s → (i < e ∧ ∃ s', f s = some (.inl s') ∧ I (i + 1) s') ∨ ∃ r, f s = some (.inr r) ∧ Q r) (h0 : I 0 s) : ∃ r, z_loop f z_FU s = some r ∧ Q r := z_loopG I Q e hs z_FU 0 s (Nat.zero_le _) (by unfold z_FU; omega) h0
theorem z_loopC {σ ρ : Type} {f : σ → Option (σ ⊕ ρ)} (st : Nat → σ) (e : Nat) (r : ρ) (he : e < 4000) (hs : ∀ i, i < e → f (st i) = some (.inl (st (i + 1)))) (hx : f (st e) = some (.inr r)) : z_loop f z_FU (st 0) = some r := by
  obtain ⟨r', h1, h2⟩ := z_loopF (f := f) (fun i s => s = st i) (fun r' => r' = r) e he (fun i s hi hI => by
    subst hI
    rcases Nat.lt_or_ge i e with q | q
    · exact Or.inl ⟨q, _, hs i q, rfl⟩
    · have : i = e := by omega
      subst this
      exact Or.inr ⟨r, hx, rfl⟩) rfl
  rw [h1, h2]
theorem u_s {f : Nat → Int32} {k : Nat} {x : Int32} : upd f k x k = x := if_pos rfl
theorem u_n {f : Nat → Int32} {k j : Nat} {x : Int32} (h : j ≠ k) : upd f k x j = f j := if_neg h
theorem s_s {M : zM} {k j : Nat} {v : Int32} : z_st M k j v k = upd (M k) j v := if_pos rfl
theorem s_n {M : zM} {k j a : Nat} {v : Int32} (h : a ≠ k) : z_st M k j v a = M a := if_neg h
theorem z_rfl {α : Type} {a : α} : (some a = some a) = True := eq_true rfl
/-! ===== the relation: S, what the model's row 'now' holds as natural numbers; V, a volume of the class ===== -/
/-- a sum of the first n -/
def sumN (g : Nat → Nat) : Nat → Nat
  | 0 => 0
  | n + 1 => sumN g n + g n
/-- how many of the first n places of T are x -/
def cntN (T : Nat → Nat) (x n : Nat) : Nat := sumN (fun i => if T i = x then 1 else 0) n
def updN (T : Nat → Nat) (k x : Nat) : Nat → Nat := fun j => if j = k then x else T j
def z_N (N : Nat → Int32) (S : Nat → Nat) : Prop := (∀ k, k < 2430 → N k = nI (S k)) ∧ (∀ k, 2558 ≤ k → k < 3070 → N k = nI (S k)) ∧ ∀ k, 3390 ≤ k → k < 3397 → N k = nI (S k)
def z_sta (S : Nat → Nat) (b : Nat) : Nat := if S (2814 + b) ≠ 0 then 1 else if S (2686 + b) ≠ 0 then 2 else 0
def z_onum (S : Nat → Nat) (d : Nat) : Nat := if S (2310 + d) = 0 then 0 else S (2394 + (S (2310 + d) - 1))
/-- a dataset's order of snapshots -/
def z_ord (S : Nat → Nat) (d r : Nat) : Nat := S (2316 + 12 * d + r)
/-- tables: 0 to 5 the datasets', 6 to 17 the snapshots' -/
def R_tab (V : Nat) (M : zM) (S : Nat → Nat) : Prop := ∀ t, t < 18 → ∀ p, p < 128 → M (V + 9 + 3 * t + 1 + 1) p = nI (S (128 * t + p)) - nI 1
def R_ds (V : Nat) (M : zM) (S : Nat → Nat) : Prop := ∀ d, d < 6 → M (V + 9 + 3 * d) 1 = nI (S (2304 + d)) ∧ M (V + 9 + 3 * d) 2 = nI (z_onum S d) - nI 1
/-- a snapshot of the class, in a slot that is taken -/
def R_sn1 (V : Nat) (M : zM) (S : Nat → Nat) (s : Nat) : Prop := M (V + 27 + 3 * s) 2 = nI (S (2394 + s) - 1) ∧ M (V + 27 + 3 * s) 3 = nI (S (2418 + s)) ∧ M (V + 27 + 3 * s) 5 = nI (S (2406 + s)) ∧ ∃ r, M (V + 27 + 3 * s) 4 = nI r ∧ r < S (2388 + S (2418 + s)) ∧ z_ord S (S (2418 + s)) r = s
def R_sn (V : Nat) (M : zM) (S : Nat → Nat) : Prop := ∀ s, s < 12 → M (V + 27 + 3 * s) 1 = nI (if S (2394 + s) = 0 then 0 else 1) ∧ (S (2394 + s) ≠ 0 → R_sn1 V M S s)
def R_sp (V : Nat) (M : zM) (N : Nat → Int32) (S : Nat → Nat) : Prop := ∀ b, b < 128 → M (V + 3 + 1) b = nI (z_sta S b) ∧ M (V + 3 + 2) b = N (2430 + b) ∧ M (V + 3 + 3) b = nI (S (2558 + b)) ∧ M (V + 3 + 4) b = nI (S (2814 + b))
/-- an entry of a log: first block f, l blocks, marked as allocated or not; its number in the model's row -/
def z_entry (x : Int32) (f l : Nat) (m : Int32) : Prop := (m = nI 1 ∧ x = nI (100 * f + l)) ∨ (m = nI 0 ∧ x = -nI (100 * f + l))
def R_lg1 (V : Nat) (M : zM) (N : Nat → Int32) (r j : Nat) : Prop := ∃ f l, 1 ≤ l ∧ 32 * r ≤ f ∧ f + l ≤ 32 * r + 32 ∧ M (V + 63 + 5 * r + 1) j = nI f ∧ M (V + 63 + 5 * r + 2) j = nI l ∧ z_entry (N (3070 + 80 * r + j)) f l (M (V + 63 + 5 * r + 3) j)
def R_lg (V : Nat) (M : zM) (N : Nat → Int32) (S : Nat → Nat) : Prop := ∀ r, r < 4 → M (V + 63 + 5 * r) 0 = nI (32 * r) ∧ M (V + 63 + 5 * r) 4 = nI (S (3390 + r)) ∧ ∀ j, j < S (3390 + r) → R_lg1 V M N r j
def R_sc (V : Nat) (M : zM) (S : Nat → Nat) : Prop := M V 4 = nI (S 3395) ∧ M V 5 = nI (S 3394) ∧ M V 6 = nI (S 3396)
def z_R1 (V : Nat) (M : zM) (N : Nat → Int32) (S : Nat → Nat) : Prop := R_tab V M S ∧ R_ds V M S ∧ R_sn V M S ∧ R_sp V M N S ∧ R_lg V M N S ∧ R_sc V M S
/-- a snapshot's slot that is taken: its number, its owner, its place in the owner's order -/
def z_liv (S : Nat → Nat) (s : Nat) : Prop := S (2394 + s) ≤ S 3394 ∧ S (2418 + s) < 6 ∧ S (2304 + S (2418 + s)) = 1 ∧ ∃ r, r < S (2388 + S (2418 + s)) ∧ z_ord S (S (2418 + s)) r = s
/-- what holds of the datasets and snapshots -/
def z_Is (n : Nat) (S : Nat → Nat) : Prop :=
  (∀ d, d < 6 → S (2304 + d) ≤ 1) ∧
  (∃ d, d < 6 ∧ S (2304 + d) = 1) ∧
  (∀ d, d < 6 → S (2304 + d) = 0 → S (2310 + d) = 0 ∧ S (2388 + d) = 0) ∧
  (∀ s, s < 12 → S (2394 + s) ≠ 0 → z_liv S s) ∧
  (∀ s t, s < 12 → t < 12 → S (2394 + s) ≠ 0 → S (2394 + s) = S (2394 + t) → s = t) ∧
  (∀ d, d < 6 → S (2388 + d) ≤ 12 ∧ ∀ r, r < S (2388 + d) → z_ord S d r < 12 ∧ S (2394 + z_ord S d r) ≠ 0 ∧ S (2418 + z_ord S d r) = d) ∧
  (∀ d, d < 6 → ∀ r q, r < q → q < S (2388 + d) → S (2394 + z_ord S d r) < S (2394 + z_ord S d q)) ∧
  (∀ d, d < 6 → S (2310 + d) ≤ 12 ∧ (S (2310 + d) ≠ 0 → S (2394 + (S (2310 + d) - 1)) ≠ 0 ∧ ∀ r, r < S (2388 + d) → S (2394 + (S (2310 + d) - 1)) < S (2394 + z_ord S d r))) ∧
  (∀ r, r < 4 → S (3390 + r) ≤ 34) ∧
  (S 3394 ≤ n ∧ S 3395 ≤ n + 1 ∧ S 3396 ≤ 4 * n ∧ ∀ s, s < 12 → S (2406 + s) ≤ n + 1)
/-- what holds of the tables and the space -/
def z_It (n : Nat) (S : Nat → Nat) : Prop :=
  (∀ k, k < 2304 → S k ≤ 128) ∧
  (∀ d, d < 6 → S (2304 + d) = 0 → ∀ p, p < 128 → S (128 * d + p) = 0) ∧
  (∀ s, s < 12 → S (2394 + s) = 0 → ∀ p, p < 128 → S (768 + 128 * s + p) = 0) ∧
  (∀ b, b < 128 → S (2814 + b) = cntN S (b + 1) 2304) ∧
  (∀ b, b < 128 → S (2686 + b) ≤ 1 ∧ (S (2814 + b) ≠ 0 → S (2686 + b) = 0)) ∧
  (∀ b, b < 128 → S (2558 + b) ≤ n + 1)
def z_I (n : Nat) (S : Nat → Nat) : Prop := z_Is n S ∧ z_It n S
/-- what was allocated at the commit before -/
def z_Bf (S S0 : Nat → Nat) : Prop := ∀ b, b < 128 → S (2942 + b) = if S0 (2814 + b) ≠ 0 then 1 else 0
theorem I_ex {n : Nat} {S : Nat → Nat} (h : z_I n S) : ∀ d, d < 6 → S (2304 + d) ≤ 1 := h.1.1
theorem I_one {n : Nat} {S : Nat → Nat} (h : z_I n S) : ∃ d, d < 6 ∧ S (2304 + d) = 1 := h.1.2.1
theorem I_emp {n : Nat} {S : Nat → Nat} (h : z_I n S) : ∀ d, d < 6 → S (2304 + d) = 0 → S (2310 + d) = 0 ∧ S (2388 + d) = 0 := h.1.2.2.1
theorem I_liv {n : Nat} {S : Nat → Nat} (h : z_I n S) : ∀ s, s < 12 → S (2394 + s) ≠ 0 → z_liv S s := h.1.2.2.2.1
theorem I_num {n : Nat} {S : Nat → Nat} (h : z_I n S) : ∀ s t, s < 12 → t < 12 → S (2394 + s) ≠ 0 → S (2394 + s) = S (2394 + t) → s = t := h.1.2.2.2.2.1
theorem I_ord {n : Nat} {S : Nat → Nat} (h : z_I n S) : ∀ d, d < 6 → S (2388 + d) ≤ 12 ∧ ∀ r, r < S (2388 + d) → z_ord S d r < 12 ∧ S (2394 + z_ord S d r) ≠ 0 ∧ S (2418 + z_ord S d r) = d := h.1.2.2.2.2.2.1
theorem I_asc {n : Nat} {S : Nat → Nat} (h : z_I n S) : ∀ d, d < 6 → ∀ r q, r < q → q < S (2388 + d) → S (2394 + z_ord S d r) < S (2394 + z_ord S d q) := h.1.2.2.2.2.2.2.1
theorem I_ori {n : Nat} {S : Nat → Nat} (h : z_I n S) : ∀ d, d < 6 → S (2310 + d) ≤ 12 ∧ (S (2310 + d) ≠ 0 → S (2394 + (S (2310 + d) - 1)) ≠ 0 ∧ ∀ r, r < S (2388 + d) → S (2394 + (S (2310 + d) - 1)) < S (2394 + z_ord S d r)) := h.1.2.2.2.2.2.2.2.1
theorem I_log {n : Nat} {S : Nat → Nat} (h : z_I n S) : ∀ r, r < 4 → S (3390 + r) ≤ 34 := h.1.2.2.2.2.2.2.2.2.1
theorem I_bnd {n : Nat} {S : Nat → Nat} (h : z_I n S) : S 3394 ≤ n ∧ S 3395 ≤ n + 1 ∧ S 3396 ≤ 4 * n ∧ ∀ s, s < 12 → S (2406 + s) ≤ n + 1 := h.1.2.2.2.2.2.2.2.2.2
theorem I_tab {n : Nat} {S : Nat → Nat} (h : z_I n S) : ∀ k, k < 2304 → S k ≤ 128 := h.2.1
theorem I_te {n : Nat} {S : Nat → Nat} (h : z_I n S) : ∀ d, d < 6 → S (2304 + d) = 0 → ∀ p, p < 128 → S (128 * d + p) = 0 := h.2.2.1
theorem I_se {n : Nat} {S : Nat → Nat} (h : z_I n S) : ∀ s, s < 12 → S (2394 + s) = 0 → ∀ p, p < 128 → S (768 + 128 * s + p) = 0 := h.2.2.2.1
theorem I_ref {n : Nat} {S : Nat → Nat} (h : z_I n S) : ∀ b, b < 128 → S (2814 + b) = cntN S (b + 1) 2304 := h.2.2.2.2.1
theorem I_pen {n : Nat} {S : Nat → Nat} (h : z_I n S) : ∀ b, b < 128 → S (2686 + b) ≤ 1 ∧ (S (2814 + b) ≠ 0 → S (2686 + b) = 0) := h.2.2.2.2.2.1
theorem I_bir {n : Nat} {S : Nat → Nat} (h : z_I n S) : ∀ b, b < 128 → S (2558 + b) ≤ n + 1 := h.2.2.2.2.2.2
theorem I_nb {n : Nat} {S : Nat → Nat} (h : z_I n S) : ∀ s, s < 12 → S (2394 + s) ≤ n := fun s hs => by
  rcases Nat.eq_zero_or_pos (S (2394 + s)) with q | q
  · omega
  · have := (I_liv h s hs (by omega)).1
    have := (I_bnd h).1
    omega
theorem z_Is_mono {n : Nat} {S : Nat → Nat} (h : z_Is n S) : z_Is (n + 1) S := by
  obtain ⟨i1, i2, i3, i4, i5, i6, i7, i8, i9, j1, j2, j3, j5⟩ := h
  exact ⟨i1, i2, i3, i4, i5, i6, i7, i8, i9, by omega, by omega, by omega, fun s hs => by have := j5 s hs; omega⟩
theorem z_I_mono {n : Nat} {S : Nat → Nat} (h : z_I n S) : z_I (n + 1) S :=
  ⟨z_Is_mono h.1, h.2.1, h.2.2.1, h.2.2.2.1, h.2.2.2.2.1, h.2.2.2.2.2.1, fun b hb => by have := I_bir h b hb; omega⟩
-- other cells: the relation's parts
theorem R_tab_cg {V : Nat} {M M' : zM} {S : Nat → Nat} (h : R_tab V M S) (hc : ∀ k, V + 11 ≤ k → k < V + 63 → M' k = M k) : R_tab V M' S := fun t ht p hp => by
  rw [hc _ (by omega) (by omega)]
  exact h t ht p hp
theorem R_ds_cg {V : Nat} {M M' : zM} {S : Nat → Nat} (h : R_ds V M S) (hc : ∀ k, V + 9 ≤ k → k < V + 27 → M' k = M k) : R_ds V M' S := fun d hd => by
  rw [hc _ (by omega) (by omega)]
  exact h d hd
theorem R_sn_cg {V : Nat} {M M' : zM} {S : Nat → Nat} (h : R_sn V M S) (hc : ∀ k, V + 27 ≤ k → k < V + 63 → M' k = M k) : R_sn V M' S := fun s hs => by
  unfold R_sn1
  rw [hc _ (by omega) (by omega)]
  exact h s hs
theorem R_sp_cg {V : Nat} {M M' : zM} {N : Nat → Int32} {S : Nat → Nat} (h : R_sp V M N S) (hc : ∀ k, V + 4 ≤ k → k < V + 8 → M' k = M k) : R_sp V M' N S := fun b hb => by
  rw [hc (V + 3 + 1) (by omega) (by omega), hc (V + 3 + 2) (by omega) (by omega), hc (V + 3 + 3) (by omega) (by omega), hc (V + 3 + 4) (by omega) (by omega)]
  exact h b hb
theorem R_lg_cg {V : Nat} {M M' : zM} {N : Nat → Int32} {S : Nat → Nat} (h : R_lg V M N S) (hc : ∀ r q, r < 4 → q < 4 → M' (V + 63 + 5 * r + q) = M (V + 63 + 5 * r + q)) : R_lg V M' N S := fun r hr => by
  unfold R_lg1
  have h0 : M' (V + 63 + 5 * r) = M (V + 63 + 5 * r) := hc r 0 hr (by decide)
  rw [h0, hc r 1 hr (by decide), hc r 2 hr (by decide), hc r 3 hr (by decide)]
  exact h r hr
theorem R_sc_cg {V : Nat} {M M' : zM} {S : Nat → Nat} (h : R_sc V M S) (hc : M' V = M V) : R_sc V M' S := by
  unfold R_sc
  rw [hc]
  exact h
/-- all but the rows of marks, which the class writes anew before it reads them -/
theorem z_R1_cg {V : Nat} {M M' : zM} {N : Nat → Int32} {S : Nat → Nat} (h : z_R1 V M N S) (hc : ∀ k, V ≤ k → k < V + 83 → (∀ r, r < 4 → k ≠ V + 67 + 5 * r) → M' k = M k) : z_R1 V M' N S :=
  ⟨R_tab_cg h.1 (fun k q1 q2 => hc k (by omega) (by omega) (fun r _ => by omega)), R_ds_cg h.2.1 (fun k q1 q2 => hc k (by omega) (by omega) (fun r _ => by omega)), R_sn_cg h.2.2.1 (fun k q1 q2 => hc k (by omega) (by omega) (fun r _ => by omega)), R_sp_cg h.2.2.2.1 (fun k q1 q2 => hc k (by omega) (by omega) (fun r _ => by omega)), R_lg_cg h.2.2.2.2.1 (fun r q q1 q2 => hc _ (by omega) (by omega) (fun r _ => by omega)), R_sc_cg h.2.2.2.2.2 (hc V (by omega) (by omega) (fun r _ => by omega))⟩
-- other numbers: the relation's parts
theorem z_onum_cg {S S' : Nat → Nat} {d : Nat} (hd : d < 6) (h : S (2310 + d) ≤ 12) (hc : ∀ k, 2304 ≤ k → k < 2430 → S' k = S k) : z_onum S' d = z_onum S d := by
  unfold z_onum
  rw [hc (2310 + d) (by omega) (by omega), hc (2394 + (S (2310 + d) - 1)) (by omega) (by omega)]
theorem R_ds_S {V : Nat} {M : zM} {S S' : Nat → Nat} (h : R_ds V M S) (ho : ∀ d, d < 6 → S (2310 + d) ≤ 12) (hc : ∀ k, 2304 ≤ k → k < 2430 → S' k = S k) : R_ds V M S' := fun d hd => by
  rw [z_onum_cg hd (ho d hd) hc, hc (2304 + d) (by omega) (by omega)]
  exact h d hd
theorem R_sn_S {V : Nat} {M : zM} {S S' : Nat → Nat} (h : R_sn V M S) (hl : ∀ s, s < 12 → S (2394 + s) ≠ 0 → z_liv S s) (hk : ∀ d, d < 6 → S (2388 + d) ≤ 12) (hc : ∀ k, 2304 ≤ k → k < 2430 → S' k = S k) : R_sn V M S' := fun s hs => by
  rw [hc (2394 + s) (by omega) (by omega)]
  refine ⟨(h s hs).1, fun q => ?_⟩
  obtain ⟨q1, q2, q3, r, q4, q5, q6⟩ := (h s hs).2 q
  have ho := (hl s hs q).2.1
  have hk2 := hk _ ho
  refine ⟨?_, ?_, ?_, r, q4, ?_, ?_⟩
  · rw [hc (2394 + s) (by omega) (by omega)]
    exact q1
  · rw [hc (2418 + s) (by omega) (by omega)]
    exact q2
  · rw [hc (2406 + s) (by omega) (by omega)]
    exact q3
  · rw [hc (2418 + s) (by omega) (by omega), hc (2388 + S (2418 + s)) (by omega) (by omega)]
    exact q5
  · unfold z_ord at q6 ⊢
    rw [hc (2418 + s) (by omega) (by omega), hc _ (by omega) (by omega)]
    exact q6
theorem z_Is_S {n : Nat} {S S' : Nat → Nat} (h : z_Is n S) (hc : ∀ k, 2304 ≤ k → k < 2430 → S' k = S k) (hl : ∀ k, 3390 ≤ k → k < 3397 → S' k = S k) : z_Is n S' := by
  obtain ⟨i1, i2, i3, i4, i5, i6, i7, i8, i9, j1, j2, j3, j5⟩ := h
  have e0 : ∀ d, d < 6 → S' (2304 + d) = S (2304 + d) := fun d hd => hc _ (by omega) (by omega)
  have e1 : ∀ d, d < 6 → S' (2310 + d) = S (2310 + d) := fun d hd => hc _ (by omega) (by omega)
  have e2 : ∀ d, d < 6 → S' (2388 + d) = S (2388 + d) := fun d hd => hc _ (by omega) (by omega)
  have e3 : ∀ s, s < 12 → S' (2394 + s) = S (2394 + s) := fun d hd => hc _ (by omega) (by omega)
  have e4 : ∀ s, s < 12 → S' (2418 + s) = S (2418 + s) := fun d hd => hc _ (by omega) (by omega)
  have e5 : ∀ d r, d < 6 → r < 12 → z_ord S' d r = z_ord S d r := fun d r hd hr => hc _ (by omega) (by omega)
  refine ⟨fun d hd => by rw [e0 d hd]; exact i1 d hd, ?_, fun d hd => by rw [e0 d hd, e1 d hd, e2 d hd]; exact i3 d hd, fun s hs => ?_, fun s t hs ht => by rw [e3 s hs, e3 t ht]; exact i5 s t hs ht, fun d hd => ?_, fun d hd r q hr hq => ?_, fun d hd => ?_, fun r hr => by rw [hl _ (by omega) (by omega)]; exact i9 r hr, by rw [hl _ (by omega) (by omega)]; exact j1, by rw [hl _ (by omega) (by omega)]; exact j2, by rw [hl _ (by omega) (by omega)]; exact j3, fun s hs => by rw [hc _ (by omega) (by omega)]; exact j5 s hs⟩
  · obtain ⟨d, hd, q⟩ := i2
    exact ⟨d, hd, by rw [e0 d hd]; exact q⟩
  · rw [e3 s hs]
    intro q
    obtain ⟨q1, q2, q3, r, q4, q5⟩ := i4 s hs q
    have hk := (i6 _ q2).1
    refine ⟨by rw [e3 s hs, hl 3394 (by omega) (by omega)]; exact q1, by rw [e4 s hs]; exact q2, by rw [e4 s hs, e0 _ q2]; exact q3, r, by rw [e4 s hs, e2 _ q2]; exact q4, by rw [e4 s hs, e5 _ _ q2 (by omega)]; exact q5⟩
  · rw [e2 d hd]
    refine ⟨(i6 d hd).1, fun r hr => ?_⟩
    have hk := (i6 d hd).1
    have hz := (i6 d hd).2 r hr
    rw [e5 d r hd (by omega), e3 _ hz.1, e4 _ hz.1]
    exact hz
  · rw [e2 d hd] at hq
    have hk := (i6 d hd).1
    rw [e5 d r hd (by omega), e5 d q hd (by omega), e3 _ ((i6 d hd).2 r (by omega)).1, e3 _ ((i6 d hd).2 q (by omega)).1]
    exact i7 d hd r q hr hq
  · rw [e1 d hd, e2 d hd]
    refine ⟨(i8 d hd).1, fun q => ?_⟩
    have hk := (i6 d hd).1
    have hx := (i8 d hd).1
    rw [e3 _ (by omega)]
    refine ⟨((i8 d hd).2 q).1, fun r hr => ?_⟩
    rw [e5 d r hd (by omega), e3 _ ((i6 d hd).2 r hr).1]
    exact ((i8 d hd).2 q).2 r hr
/-! ===== numbers, for simp; loops' laws; sums ===== -/
theorem l_0 : (0 : Int32) = nI 0 := rfl
theorem l_1 : (1 : Int32) = nI 1 := rfl
theorem l_2 : (2 : Int32) = nI 2 := rfl
theorem l_3 : (3 : Int32) = nI 3 := rfl
theorem l_4 : (4 : Int32) = nI 4 := rfl
theorem l_5 : (5 : Int32) = nI 5 := rfl
theorem l_6 : (6 : Int32) = nI 6 := rfl
theorem l_7 : (7 : Int32) = nI 7 := rfl
theorem l_8 : (8 : Int32) = nI 8 := rfl
theorem l_11 : (11 : Int32) = nI 11 := rfl
theorem l_12 : (12 : Int32) = nI 12 := rfl
theorem l_15 : (15 : Int32) = nI 15 := rfl
theorem l_16 : (16 : Int32) = nI 16 := rfl
theorem l_31 : (31 : Int32) = nI 31 := rfl
theorem l_32 : (32 : Int32) = nI 32 := rfl
theorem l_66 : (66 : Int32) = nI 66 := rfl
theorem l_80 : (80 : Int32) = nI 80 := rfl
theorem l_100 : (100 : Int32) = nI 100 := rfl
theorem l_127 : (127 : Int32) = nI 127 := rfl
theorem l_128 : (128 : Int32) = nI 128 := rfl
theorem l_768 : (768 : Int32) = nI 768 := rfl
theorem l_2304 : (2304 : Int32) = nI 2304 := rfl
theorem l_2310 : (2310 : Int32) = nI 2310 := rfl
theorem l_2316 : (2316 : Int32) = nI 2316 := rfl
theorem l_2388 : (2388 : Int32) = nI 2388 := rfl
theorem l_2394 : (2394 : Int32) = nI 2394 := rfl
theorem l_2406 : (2406 : Int32) = nI 2406 := rfl
theorem l_2418 : (2418 : Int32) = nI 2418 := rfl
theorem l_2430 : (2430 : Int32) = nI 2430 := rfl
theorem l_2558 : (2558 : Int32) = nI 2558 := rfl
theorem l_2686 : (2686 : Int32) = nI 2686 := rfl
theorem l_2814 : (2814 : Int32) = nI 2814 := rfl
theorem l_2942 : (2942 : Int32) = nI 2942 := rfl
theorem l_3070 : (3070 : Int32) = nI 3070 := rfl
theorem l_3390 : (3390 : Int32) = nI 3390 := rfl
theorem l_3394 : (3394 : Int32) = nI 3394 := rfl
theorem l_3395 : (3395 : Int32) = nI 3395 := rfl
theorem l_3396 : (3396 : Int32) = nI 3396 := rfl
theorem l_3397 : (3397 : Int32) = nI 3397 := rfl
theorem n_le {a b : Nat} (ha : a < 2 ^ 31) (hb : b < 2 ^ 31) : (nI a ≤ nI b) = (a ≤ b) := propext (nI_leI ha hb)
theorem n_lt {a b : Nat} (ha : a < 2 ^ 31) (hb : b < 2 ^ 31) : (nI a < nI b) = (a < b) := propext (nI_ltI ha hb)
theorem n_eq {a b : Nat} (ha : a < 2 ^ 31) (hb : b < 2 ^ 31) : (nI a = nI b) = (a = b) := propext (nI_eq ha hb)
theorem n_leT {a b : Nat} (ha : a < 2 ^ 31) (hb : b < 2 ^ 31) (h : a ≤ b) : (nI a ≤ nI b) = True := eq_true ((nI_leI ha hb).mpr h)
theorem n_leF {a b : Nat} (ha : a < 2 ^ 31) (hb : b < 2 ^ 31) (h : b < a) : (nI a ≤ nI b) = False := eq_false (fun q => absurd ((nI_leI ha hb).mp q) (Nat.not_le.mpr h))
theorem n_ltT {a b : Nat} (ha : a < 2 ^ 31) (hb : b < 2 ^ 31) (h : a < b) : (nI a < nI b) = True := eq_true ((nI_ltI ha hb).mpr h)
theorem n_ltF {a b : Nat} (ha : a < 2 ^ 31) (hb : b < 2 ^ 31) (h : b ≤ a) : (nI a < nI b) = False := eq_false (fun q => absurd ((nI_ltI ha hb).mp q) (Nat.not_lt.mpr h))
theorem n_eqT {a b : Nat} (h : a = b) : (nI a = nI b) = True := eq_true (by rw [h])
theorem n_eqF {a b : Nat} (ha : a < 2 ^ 31) (hb : b < 2 ^ 31) (h : a ≠ b) : (nI a = nI b) = False := eq_false (n_ne ha hb h)
theorem n_sub {a b : Nat} (h : b ≤ a) : nI a - nI b = nI (a - b) := pk_sub h
theorem n_m0a : (nI 0 - nI 1 < nI 0) = True := eq_true (by decide)
theorem n_m0b : (nI 0 - nI 1 = -nI 1) = True := eq_true (by decide)
theorem n_m1b {x : Nat} (h : 1 ≤ x) (hx : x < 2 ^ 31) : (nI x - nI 1 = -nI 1) = False := eq_false (fun q => by
  have h2 := (n_m1 hx).mp q
  omega)
theorem n_m1c {x : Nat} (hx : x < 2 ^ 31) : (nI x = -nI 1) = False := eq_false (fun q => by
  have h2 : (nI x).toInt = (-nI 1).toInt := by rw [q]
  rw [nI_toInt hx] at h2
  have h3 : (-nI 1).toInt = -1 := rfl
  omega)
theorem n_m1d {x : Nat} (hx : x < 2 ^ 31) : (-nI 1 = nI x) = False := eq_false (fun q => by
  have h2 := n_m1c hx
  rw [q] at h2
  exact h2.mp rfl)
-- sums
theorem sumN_cg {g g' : Nat → Nat} : ∀ {n : Nat}, (∀ i, i < n → g i = g' i) → sumN g n = sumN g' n
  | 0, _ => rfl
  | n + 1, h => by
    show sumN g n + g n = sumN g' n + g' n
    rw [sumN_cg (fun i hi => h i (by omega)), h n (by omega)]
theorem sumN_le {g : Nat → Nat} {c : Nat} : ∀ {n : Nat}, (∀ i, i < n → g i ≤ c) → sumN g n ≤ c * n
  | 0, _ => Nat.zero_le _
  | n + 1, h => by
    have h1 := sumN_le (fun i hi => h i (by omega) : ∀ i, i < n → g i ≤ c)
    have h2 := h n (by omega)
    show sumN g n + g n ≤ c * (n + 1)
    rw [Nat.mul_succ]
    omega
theorem sumN_0 {g : Nat → Nat} : ∀ {n : Nat}, (∀ i, i < n → g i = 0) → sumN g n = 0
  | 0, _ => rfl
  | n + 1, h => by
    show sumN g n + g n = 0
    rw [sumN_0 (fun i hi => h i (by omega)), h n (by omega)]
theorem sumN_pos {g : Nat → Nat} : ∀ {n : Nat}, sumN g n ≠ 0 → ∃ i, i < n ∧ g i ≠ 0
  | 0, h => absurd rfl h
  | n + 1, h => by
    by_cases h1 : g n = 0
    · have h2 : sumN g n ≠ 0 := fun q => h (by show sumN g n + g n = 0; rw [q, h1])
      obtain ⟨i, hi, q⟩ := sumN_pos h2
      exact ⟨i, by omega, q⟩
    · exact ⟨n, by omega, h1⟩
theorem sumN_ge {g : Nat → Nat} {i : Nat} : ∀ {n : Nat}, i < n → g i ≤ sumN g n
  | 0, h => absurd h (Nat.not_lt_zero _)
  | n + 1, h => by
    show g i ≤ sumN g n + g n
    rcases Nat.lt_or_ge i n with q | q
    · have := sumN_ge (g := g) q
      omega
    · have : i = n := by omega
      subst this
      omega
/-- a change at one place -/
theorem sumN_ch {g g' : Nat → Nat} {k : Nat} : ∀ {n : Nat}, k < n → (∀ i, i < n → i ≠ k → g' i = g i) → sumN g' n + g k = sumN g n + g' k
  | 0, h, _ => absurd h (Nat.not_lt_zero _)
  | n + 1, h, hc => by
    show sumN g' n + g' n + g k = sumN g n + g n + g' k
    rcases Nat.lt_or_ge k n with q | q
    · have h1 := sumN_ch q (fun i hi => hc i (by omega))
      have h2 := hc n (by omega) (by omega)
      omega
    · have : k = n := by omega
      subst this
      rw [sumN_cg (fun i hi => hc i (by omega) (by omega) : ∀ i, i < k → g' i = g i)]
      omega
theorem cntN_cg {T T' : Nat → Nat} {x n : Nat} (h : ∀ i, i < n → T i = T' i) : cntN T x n = cntN T' x n := sumN_cg (fun i hi => by rw [h i hi])
theorem cntN_le {T : Nat → Nat} {x n : Nat} : cntN T x n ≤ n := by
  have := sumN_le (g := fun i => if T i = x then 1 else 0) (c := 1) (n := n) (fun i _ => by show (if _ then _ else _) ≤ 1; split <;> omega)
  unfold cntN
  omega
theorem cntN_pos {T : Nat → Nat} {x n : Nat} : cntN T x n ≠ 0 ↔ ∃ i, i < n ∧ T i = x := by
  constructor
  · intro h
    obtain ⟨i, hi, q⟩ := sumN_pos h
    exact ⟨i, hi, by
      by_cases q2 : T i = x
      · exact q2
      · exact absurd (if_neg q2) q⟩
  · rintro ⟨i, hi, q⟩ h
    have h1 := sumN_ge (g := fun i => if T i = x then 1 else 0) hi
    rw [if_pos q] at h1
    unfold cntN at h
    omega
theorem cntN_up {T : Nat → Nat} {k x y n : Nat} (hk : k < n) : cntN (updN T k x) y n + (if T k = y then 1 else 0) = cntN T y n + (if x = y then 1 else 0) := by
  have h := sumN_ch (g := fun i => if T i = y then 1 else 0) (g' := fun i => if updN T k x i = y then 1 else 0) hk (fun i hi q => by
    show (if updN T k x i = y then 1 else 0) = (if T i = y then 1 else 0)
    rw [show updN T k x i = T i from if_neg q])
  rw [show updN T k x k = x from if_pos rfl] at h
  exact h
-- loops
/-- a loop that sums -/
theorem z_loopS {f : Int32 × Int32 → Option ((Int32 × Int32) ⊕ Int32)} (g : Nat → Nat) (lo e : Nat) (he : e < 4000) {s : Int32 × Int32} (hs : s = (nI 0, nI lo)) (h : ∀ i x, i < e → f (nI x, nI (lo + i)) = some (.inl (nI (x + g i), nI (lo + i + 1)))) (hx : ∀ x, f (nI x, nI (lo + e)) = some (.inr (nI x))) : z_loop f z_FU s = some (nI (sumN g e)) := by
  subst hs
  exact z_loopC (f := f) (fun i => (nI (sumN g i), nI (lo + i))) e (nI (sumN g e)) he (fun i hi => h i _ hi) (hx _)
/-- a loop that looks for the first -/
theorem z_loopW {ρ : Type} {f : Int32 → Option (Int32 ⊕ ρ)} (P : Nat → Prop) (val : Nat → ρ) (non : ρ) (lo e : Nat) (he : e < 4000) {s : Int32} (hs : s = nI lo) (hd : ∀ i, i < e → P i ∨ ¬ P i) (h1 : ∀ i, i < e → ¬ P i → f (nI (lo + i)) = some (.inl (nI (lo + i + 1)))) (h2 : ∀ i, i < e → P i → f (nI (lo + i)) = some (.inr (val i))) (hx : f (nI (lo + e)) = some (.inr non)) : (∃ i, i < e ∧ P i ∧ (∀ j, j < i → ¬ P j) ∧ z_loop f z_FU s = some (val i)) ∨ ((∀ i, i < e → ¬ P i) ∧ z_loop f z_FU s = some non) := by
  subst hs
  obtain ⟨r, q1, q2⟩ := z_loopF (f := f) (fun i x => x = nI (lo + i) ∧ ∀ j, j < i → ¬ P j) (fun r => (∃ i, i < e ∧ P i ∧ (∀ j, j < i → ¬ P j) ∧ r = val i) ∨ ((∀ i, i < e → ¬ P i) ∧ r = non)) e (s := nI lo) he (fun i x hi hI => by
    obtain ⟨rfl, hI⟩ := hI
    rcases Nat.lt_or_ge i e with q | q
    · rcases hd i q with hp | hp
      · exact Or.inr ⟨_, h2 i q hp, Or.inl ⟨i, q, hp, hI, rfl⟩⟩
      · exact Or.inl ⟨q, _, h1 i q hp, rfl, fun j hj => by
          rcases Nat.lt_or_ge j i with q3 | q3
          · exact hI j q3
          · have : j = i := by omega
            rw [this]
            exact hp⟩
    · have : i = e := by omega
      subst this
      exact Or.inr ⟨_, hx, Or.inr ⟨hI, rfl⟩⟩) ⟨rfl, fun j hj => absurd hj (Nat.not_lt_zero _)⟩
  rcases q2 with ⟨i, a1, a2, a3, a4⟩ | ⟨a1, a2⟩
  · exact Or.inl ⟨i, a1, a2, a3, by rw [q1, a4]⟩
  · exact Or.inr ⟨a1, by rw [q1, a2]⟩
/-- a loop over the memory -/
theorem z_loopM {ρ : Type} {f : Int32 × zM → Option ((Int32 × zM) ⊕ ρ)} (I : Nat → zM → Prop) (Q : ρ → Prop) (lo e : Nat) (he : e < 4000) {s : Int32} {M : zM} (hs : s = nI lo) (h0 : I 0 M) (h : ∀ i M, i < e → I i M → ∃ M', f (nI (lo + i), M) = some (.inl (nI (lo + i + 1), M')) ∧ I (i + 1) M') (hx : ∀ M, I e M → ∃ r, f (nI (lo + e), M) = some (.inr r) ∧ Q r) : ∃ r, z_loop f z_FU (s, M) = some r ∧ Q r := by
  subst hs
  exact z_loopF (f := f) (fun i x => x.1 = nI (lo + i) ∧ I i x.2) Q e he (fun i x hi hI => by
    obtain ⟨x1, x2⟩ := x
    obtain ⟨hq, hI⟩ := hI
    have hq : x1 = nI (lo + i) := hq
    subst hq
    rcases Nat.lt_or_ge i e with q | q
    · obtain ⟨M', a1, a2⟩ := h i x2 q hI
      exact Or.inl ⟨q, _, a1, rfl, a2⟩
    · have : i = e := by omega
      subst this
      exact Or.inr (hx x2 hI)) ⟨rfl, h0⟩
/-- a loop over the memory that counts too -/
theorem z_loopA {ρ : Type} {f : Int32 × Int32 × zM → Option ((Int32 × Int32 × zM) ⊕ ρ)} (I : Nat → Int32 → zM → Prop) (Q : ρ → Prop) (lo e : Nat) (he : e < 4000) {x s : Int32} {M : zM} (hs : s = nI lo) (h0 : I 0 x M) (h : ∀ i x M, i < e → I i x M → ∃ x' M', f (x, nI (lo + i), M) = some (.inl (x', nI (lo + i + 1), M')) ∧ I (i + 1) x' M') (hx : ∀ x M, I e x M → ∃ r, f (x, nI (lo + e), M) = some (.inr r) ∧ Q r) : ∃ r, z_loop f z_FU (x, s, M) = some r ∧ Q r := by
  subst hs
  exact z_loopF (f := f) (fun i q => q.2.1 = nI (lo + i) ∧ I i q.1 q.2.2) Q e he (fun i q hi hI => by
    obtain ⟨y, x1, x2⟩ := q
    obtain ⟨hq, hI⟩ := hI
    have hq : x1 = nI (lo + i) := hq
    subst hq
    rcases Nat.lt_or_ge i e with q | q
    · obtain ⟨x', M', a1, a2⟩ := h i y x2 q hI
      exact Or.inl ⟨q, _, a1, rfl, a2⟩
    · have : i = e := by omega
      subst this
      exact Or.inr (hx y x2 hI)) ⟨rfl, h0⟩
/-- a loop that writes a row, each place once -/
theorem z_loopR {f : Int32 × zM → Option ((Int32 × zM) ⊕ zM)} (k base lo e : Nat) (g : Nat → Int32) (he : e < 4000) {s : Int32} {M : zM} (hs : s = nI lo) (h : ∀ i M', i < e → (∀ a, a ≠ k → M' a = M a) → (∀ j, M' k j = if base ≤ j ∧ j < base + i then g (j - base) else M k j) → f (nI (lo + i), M') = some (.inl (nI (lo + i + 1), z_st M' k (base + i) (g i)))) (hx : ∀ M', f (nI (lo + e), M') = some (.inr M')) : ∃ M', z_loop f z_FU (s, M) = some M' ∧ (∀ a, a ≠ k → M' a = M a) ∧ ∀ j, M' k j = if base ≤ j ∧ j < base + e then g (j - base) else M k j :=
  z_loopM (f := f) (fun i M' => (∀ a, a ≠ k → M' a = M a) ∧ ∀ j, M' k j = if base ≤ j ∧ j < base + i then g (j - base) else M k j) (fun M' => (∀ a, a ≠ k → M' a = M a) ∧ ∀ j, M' k j = if base ≤ j ∧ j < base + e then g (j - base) else M k j) lo e he hs ⟨fun a _ => rfl, fun j => by rw [if_neg (by omega)]⟩ (fun i M' hi hI => ⟨_, h i M' hi hI.1 hI.2, fun a ha => by rw [s_n ha]; exact hI.1 a ha, fun j => by
    rw [s_s]
    by_cases hj : j = base + i
    · rw [hj, u_s, if_pos (by omega), Nat.add_sub_cancel_left]
    · rw [u_n hj, hI.2 j]
      by_cases hj2 : base ≤ j ∧ j < base + i
      · rw [if_pos hj2, if_pos (by omega)]
      · rw [if_neg hj2, if_neg (by omega)]⟩) (fun M' hI => ⟨M', hx M', hI⟩)
