/-! ===== the constructor of a volume: three loops ===== -/
theorem e_im {Γ : zC} {G : zG} {b cs ss pc N : Nat} {E : Nat → va_E} {lv : List (Nat × Value)} {st : List Value} {E1 : Nat → va_E} (h : ∀ k, k < N → ∀ H, va_at (G.1, G.2.1) vwCl (b + k, E k) H → va_at (G.1, G.2.1) vwCl (b + k, E1 k) H) (K : GE Γ G b cs ss N E1 pc lv st) : GE Γ G b cs ss N E pc lv st := fun H locs ls hW hS hl9 => K H locs ls (fun k hk => h k hk H (hW k hk)) hS hl9
def z_rw (b c k n d : Nat) : Nat → Option Nat := fun j => if j < d ∨ n ≤ j then some (b + z_rf c k j) else none
def z_A (G : zG) (b c k n d : Nat) : va_E := .inl (G.2.2 c, n, .inr (.inr (.inr (.inr (z_rw b c k n d)))))
theorem z_A0 {G : zG} {b c k n q : Nat} {H : Heap} (h : va_at (G.1, G.2.1) vwCl (q, .inl (G.2.2 c, n, .inr (.inr (.inr (.inr (fun _ => none)))))) H) : va_at (G.1, G.2.1) vwCl (q, z_A G b c k n 0) H := by
  show H[q]? = some (vp_cell _ _)
  have h' : H[q]? = some (vp_cell (G.2.2 c) (n, .inr (.inr (.inr (.inr (fun _ => none)))))) := h
  rw [h', vp_cell_q, vp_cell_q]
  unfold arrV
  congr 3
  funext j
  show va_rf none = va_rf (z_rw b c k n 0 j.val)
  unfold z_rw
  rw [if_neg (by have := j.isLt; omega)]
theorem z_Aup {b c k n d : Nat} {i : Int32} (hd : d < n) (hi : i.toNatClampNeg = d) : va_up (z_rw b c k n d) i.toNatClampNeg (some (b + z_rf c k d)) = z_rw b c k n (d + 1) := by
  rw [hi]
  funext j
  unfold va_up z_rw
  by_cases h : j = d
  · subst h
    rw [if_pos rfl, if_pos (by omega)]
  · rw [if_neg h]
    by_cases h2 : j < d ∨ n ≤ j
    · rw [if_pos h2, if_pos (by omega)]
    · rw [if_neg h2, if_neg (by omega)]
theorem z_An {b c k n : Nat} : z_rw b c k n n = fun j => some (b + z_rf c k j) := by
  funext j
  unfold z_rw
  rw [if_pos (by omega)]
/-- how far the volume at h is made: rows filled up to d1, d2, d3 -/
def z_J (G : zG) (b h : Nat) (E0 : Nat → va_E) (d1 d2 d3 N : Nat) (E : Nat → va_E) : Prop :=
  (∀ k, k < h → E k = E0 k) ∧ E h = .inr (5, [.ref (b + (h + 1)), .ref (b + (h + 2)), .ref (b + (h + 3)), .ref (b + (h + 8)), .int 1, .int 0, .int 0]) ∧ E (h + 1) = z_A G b 11 (h + 1) 6 d1 ∧ E (h + 2) = z_A G b 12 (h + 2) 12 d2 ∧ E (h + 8) = z_A G b 13 (h + 8) 4 d3 ∧ ∀ k, h + 3 ≤ k → k < N → k ≠ h + 8 → E k = z_ent G b z_M0 k
theorem z_vd {h d : Nat} (hk : z_kd h = 5) (hd : d < 6) : z_kd (h + 9 + 3 * d) = 0 ∧ z_ik (h + 9 + 3 * d) = if d = 0 then 3 else 2 := by
  have h1 := (z_all (P := fun h => (List.range 6).all fun d => z_kd (h + 9 + 3 * d) == 0 && z_ik (h + 9 + 3 * d) == if d = 0 then 3 else 2) (by decide +kernel) rfl hk).2
  have h2 := List.all_eq_true.mp h1 d (List.mem_range.mpr hd)
  simpa using h2
theorem z_vs {h d : Nat} (hk : z_kd h = 5) (hd : d < 12) : z_kd (h + 27 + 3 * d) = 2 := by
  have h1 := (z_all (P := fun h => (List.range 12).all fun d => z_kd (h + 27 + 3 * d) == 2) (by decide +kernel) rfl hk).2
  have h2 := List.all_eq_true.mp h1 d (List.mem_range.mpr hd)
  simpa using h2
theorem z_vl {h d : Nat} (hk : z_kd h = 5) (hd : d < 4) : z_kd (h + 63 + 5 * d) = 1 ∧ z_ik (h + 63 + 5 * d) = 7 + d := by
  have h1 := (z_all (P := fun h => (List.range 4).all fun d => z_kd (h + 63 + 5 * d) == 1 && z_ik (h + 63 + 5 * d) == 7 + d) (by decide +kernel) rfl hk).2
  have h2 := List.all_eq_true.mp h1 d (List.mem_range.mpr hd)
  simpa using h2
theorem e_cs {Γ : zC} {G : zG} {b cs ss pc N cs' ss' N' : Nat} {E : Nat → va_E} {lv : List (Nat × Value)} {st : List Value} (k : GE Γ G b cs ss N E pc lv st) (h1 : cs = cs') (h2 : ss = ss') (h3 : N = N') : GE Γ G b cs' ss' N' E pc lv st := by
  subst h1
  subst h2
  subst h3
  exact k
def z_rmV : Room := { frames := 3, cells := 82, slots := 3894, locals := 100 }
set_option maxRecDepth 100000 in
set_option maxHeartbeats 1000000 in
theorem e_vloop1 {Γ : zC} (hl : Γ.2.1.stackTraces = false) (G : zG) (b h : Nat) (hk : z_kd h = 5) (E0 : Nat → va_E) (X : z_CX Γ G b 2 cX5_init RX5 z_rmV) (h0 : (z_s Γ).heap.size = b + (h + 1)) (K : ∀ E, z_J G b h E0 6 0 0 (h + 9 + 3 * 6) E → GE Γ G b (8 + 3 * 6) (538 + 132 * 6) (h + 9 + 3 * 6) E 92 [(0, .ref (b + h))] []) : ∀ (r d : Nat), d + r = 6 → ∀ E, z_J G b h E0 d 0 0 (h + 9 + 3 * d) E → GE Γ G b (8 + 3 * d) (538 + 132 * d) (h + 9 + 3 * d) E 58 [(0, .ref (b + h)), (1, .int (nI d))] [] := by
  intro r
  induction r with
  | zero =>
    intro d hd E hJ
    have hd2 : d = 6 := by omega
    subst hd2
    refine e_iload_n X 1 rfl dX5_init_58 59 rfl ?_
    refine e_bipush (v := 6) X rfl dX5_init_59 61 rfl ?_
    refine e_icmp_ge X dX5_init_61 92 (by decide) 64 rfl (fun _ => ?_) (fun q => absurd (show (6 : Int32) ≤ nI 6 by decide) q)
    exact e_sub [(0, .ref (b + h))] [0] rfl (K E hJ)
  | succ r ih =>
    intro d hd E hJ
    obtain ⟨j1, j2, j3, j4, j5, j6⟩ := id hJ
    refine e_iload_n X 1 rfl dX5_init_58 59 rfl ?_
    refine e_bipush (v := 6) X rfl dX5_init_59 61 rfl ?_
    refine e_icmp_ge X dX5_init_61 92 (by decide) 64 rfl (fun q => absurd q (nI_ge (a := d) (b := 6) (by omega) (by decide))) (fun _ => ?_)
    refine e_aload_n X 0 rfl dX5_init_64 65 rfl ?_
    refine e_get (v := .ref (b + (h + 1))) X (by omega) j2 zv_X5 zi_X5 rfl kf_X5_11 rfl rfl dX5_init_65 68 rfl ?_
    refine e_iload_n X 1 rfl dX5_init_68 69 rfl ?_
    refine e_new (c := 0) (fs := [.null, .int 0, .int 0]) X h0 (by omega) zi_X0 tyX0_ok kcl_X5_9 kin_X0 kini_X0 zv_X0 (fun j hj => by rcases (show j = 0 ∨ j = 1 ∨ j = 2 by omega) with rfl | rfl | rfl <;> rfl) (by show _ ∧ _; exact ⟨by show _ ≤ 82; omega, by show _ ≤ 3894; omega⟩) dX5_init_69 72 rfl ?_
    refine e_dup X rfl dX5_init_72 73 rfl ?_
    have hv := z_vd hk (show d < 6 by omega)
    have hkd := hv.1
    have cont : ∀ x : Int32, z_M0 (h + 9 + 3 * d) 1 = x → (narrow .boolean (.int x) = .int x ∧ fits .boolean (.int x) = true) → GE Γ G b (8 + 3 * d + 1) (538 + 132 * d + 3) ((h + 9 + 3 * d) + 1) (z_up E (h + 9 + 3 * d) (.inr (0, [.null, .int 0, .int 0]))) 82 [(0, .ref (b + h)), (1, .int (nI d))] [.int x, .ref (b + (h + 9 + 3 * d)), .ref (b + (h + 9 + 3 * d)), .int (nI d), .ref (b + (h + 1))] := by
      intro x hx hz
      refine e_callIN (rest := [.ref (b + (h + 9 + 3 * d)), .int (nI d), .ref (b + (h + 1))]) (h9 := (h + 9 + 3 * d)) X h0 ⟨by omega, by omega⟩ (tX0_init hl G b (h + 9 + 3 * d) hkd (z_up E (h + 9 + 3 * d) (.inr (0, [.null, .int 0, .int 0]))) z_up_s x hx hz) zy_X0_init zoi_X0 km_X5_46 rfl ⟨rfl, rfl⟩ ⟨rfl, rfl⟩ rfl rfl (Nat.le_of_ble_eq_true rfl) (by show _ ∧ _; exact ⟨by show _ ≤ 82; omega, by show _ ≤ 3894; omega⟩) dX5_init_82 85 rfl ?_
      refine e_aast (k := h + 1) (k1 := (h + 9 + 3 * d)) (c := 11) (t9 := 3) (nn := 6) (f := z_rw b 11 (h + 1) 6 d) (vs := z_fl 0 b (h + 9 + 3 * d) (z_M0 (h + 9 + 3 * d))) (r := (RX0, TX0, 3)) X (by omega) ((z_mk_lt (by omega)).trans ((z_up_n (by omega)).trans j3)) rfl (by omega) ((z_mk_ge (by omega)).trans (z_ent_o hkd (by decide))) zv_X0 (vp_in_nI (by omega) (by decide)) dX5_init_85 86 rfl ?_
      rw [show b + (h + 9 + 3 * d) = b + z_rf 11 (h + 1) d by show _ = b + ((h + 1) + _ + _ * d); omega, z_Aup (by omega) (nI_clamp (by omega))]
      refine e_iinc X dX5_init_86 89 rfl [(0, .ref (b + h)), (1, .int (nI (d + 1)))] (by decide) 1 rfl (nI (d + 1)) (nI_1 d) [1, 0] rfl ?_
      refine e_goto X dX5_init_89 58 (by decide) ?_
      have hz := ih (d + 1) (by omega) (z_up (z_mk G b (z_up E (h + 9 + 3 * d) (.inr (0, [.null, .int 0, .int 0]))) (h + 9 + 3 * d)) (h + 1) (z_A G b 11 (h + 1) 6 (d + 1))) ⟨fun k q => ((z_up_n (by omega)).trans ((z_mk_lt (by omega)).trans (z_up_n (by omega)))).trans (j1 k q), ((z_up_n (by omega)).trans ((z_mk_lt (by omega)).trans (z_up_n (by omega)))).trans j2, z_up_s, ((z_up_n (by omega)).trans ((z_mk_lt (by omega)).trans (z_up_n (by omega)))).trans j4, ((z_up_n (by omega)).trans ((z_mk_lt (by omega)).trans (z_up_n (by omega)))).trans j5, fun k q1 q2 q3 => ?_⟩
      · exact e_cs hz (by omega) (by omega) (by omega)
      · by_cases q : k < (h + 9 + 3 * d)
        · exact ((z_up_n (by omega)).trans ((z_mk_lt q).trans (z_up_n (by omega)))).trans (j6 k q1 q q3)
        · exact (z_up_n (by omega)).trans (z_mk_ge q)
    refine e_iload_n X 1 rfl dX5_init_73 74 rfl ?_
    refine e_if_ne X dX5_init_74 81 (by decide) 77 rfl (fun q => ?_) (fun q => ?_)
    · refine e_iconst (v := 0) X rfl dX5_init_81 82 rfl ?_
      refine cont 0 ?_ ⟨rfl, rfl⟩
      rw [z_M0c hv.2, if_neg (fun z => q (by subst z; rfl))]
      rfl
    · refine e_iconst (v := 1) X rfl dX5_init_77 78 rfl ?_
      refine e_goto X dX5_init_78 82 (by decide) ?_
      refine cont 1 ?_ ⟨rfl, rfl⟩
      have hd0 : d = 0 := by
        rcases Nat.eq_zero_or_pos d with z | z
        · exact z
        · exact absurd q (nI_ne0 z (by omega))
      rw [z_M0c hv.2, if_pos hd0]
      rfl
set_option maxRecDepth 100000 in
set_option maxHeartbeats 1000000 in
theorem e_vloop2 {Γ : zC} (hl : Γ.2.1.stackTraces = false) (G : zG) (b h : Nat) (hk : z_kd h = 5) (E0 : Nat → va_E) (X : z_CX Γ G b 2 cX5_init RX5 z_rmV) (h0 : (z_s Γ).heap.size = b + (h + 1)) (K : ∀ E, z_J G b h E0 6 12 0 (h + 27 + 3 * 12) E → GE Γ G b (26 + 3 * 12) (1330 + 135 * 12) (h + 27 + 3 * 12) E 119 [(0, .ref (b + h))] []) : ∀ (r d : Nat), d + r = 12 → ∀ E, z_J G b h E0 6 d 0 (h + 27 + 3 * d) E → GE Γ G b (26 + 3 * d) (1330 + 135 * d) (h + 27 + 3 * d) E 94 [(0, .ref (b + h)), (1, .int (nI d))] [] := by
  intro r
  induction r with
  | zero =>
    intro d hd E hJ
    have hd2 : d = 12 := by omega
    subst hd2
    refine e_iload_n X 1 rfl dX5_init_94 95 rfl ?_
    refine e_bipush (v := 12) X rfl dX5_init_95 97 rfl ?_
    refine e_icmp_ge X dX5_init_97 119 (by decide) 100 rfl (fun _ => ?_) (fun q => absurd (show (12 : Int32) ≤ nI 12 by decide) q)
    exact e_sub [(0, .ref (b + h))] [0] rfl (K E hJ)
  | succ r ih =>
    intro d hd E hJ
    obtain ⟨j1, j2, j3, j4, j5, j6⟩ := id hJ
    refine e_iload_n X 1 rfl dX5_init_94 95 rfl ?_
    refine e_bipush (v := 12) X rfl dX5_init_95 97 rfl ?_
    refine e_icmp_ge X dX5_init_97 119 (by decide) 100 rfl (fun q => absurd q (nI_ge (a := d) (b := 12) (by omega) (by decide))) (fun _ => ?_)
    refine e_aload_n X 0 rfl dX5_init_100 101 rfl ?_
    refine e_get (v := .ref (b + (h + 2))) X (by omega) j2 zv_X5 zi_X5 rfl kf_X5_19 rfl rfl dX5_init_101 104 rfl ?_
    refine e_iload_n X 1 rfl dX5_init_104 105 rfl ?_
    refine e_new (c := 2) (fs := [.null, .int 0, .int 0, .int 0, .int 0, .int 0]) X h0 (by omega) zi_X2 tyX2_ok kcl_X5_17 kin_X2 kini_X2 zv_X2 (fun j hj => by rcases (show j = 0 ∨ j = 1 ∨ j = 2 ∨ j = 3 ∨ j = 4 ∨ j = 5 by omega) with rfl | rfl | rfl | rfl | rfl | rfl <;> rfl) (by show _ ∧ _; exact ⟨by show _ ≤ 82; omega, by show _ ≤ 3894; omega⟩) dX5_init_105 108 rfl ?_
    refine e_dup X rfl dX5_init_108 109 rfl ?_
    have hkd := z_vs hk (show d < 12 by omega)
    refine e_callIN (rest := [.ref (b + (h + 27 + 3 * d)), .int (nI d), .ref (b + (h + 2))]) (h9 := (h + 27 + 3 * d)) X h0 ⟨by omega, by omega⟩ (tX2_init hl G b (h + 27 + 3 * d) hkd (z_up E (h + 27 + 3 * d) (.inr (2, [.null, .int 0, .int 0, .int 0, .int 0, .int 0]))) z_up_s) zy_X2_init zoi_X2 km_X5_49 rfl ⟨rfl, rfl⟩ ⟨rfl, rfl⟩ rfl rfl (Nat.le_of_ble_eq_true rfl) (by show _ ∧ _; exact ⟨by show _ ≤ 82; omega, by show _ ≤ 3894; omega⟩) dX5_init_109 112 rfl ?_
    refine e_aast (k := h + 2) (k1 := (h + 27 + 3 * d)) (c := 12) (t9 := 4) (nn := 12) (f := z_rw b 12 (h + 2) 12 d) (vs := z_fl 2 b (h + 27 + 3 * d) (z_M0 (h + 27 + 3 * d))) (r := (RX2, TX2, 6)) X (by omega) ((z_mk_lt (by omega)).trans ((z_up_n (by omega)).trans j4)) rfl (by omega) ((z_mk_ge (by omega)).trans (z_ent_o hkd (by decide))) zv_X2 (vp_in_nI (by omega) (by decide)) dX5_init_112 113 rfl ?_
    rw [show b + (h + 27 + 3 * d) = b + z_rf 12 (h + 2) d by show _ = b + ((h + 2) + _ + _ * d); omega, z_Aup (by omega) (nI_clamp (by omega))]
    refine e_iinc X dX5_init_113 116 rfl [(0, .ref (b + h)), (1, .int (nI (d + 1)))] (by decide) 1 rfl (nI (d + 1)) (nI_1 d) [1, 0] rfl ?_
    refine e_goto X dX5_init_116 94 (by decide) ?_
    have hz := ih (d + 1) (by omega) (z_up (z_mk G b (z_up E (h + 27 + 3 * d) (.inr (2, [.null, .int 0, .int 0, .int 0, .int 0, .int 0]))) (h + 27 + 3 * d)) (h + 2) (z_A G b 12 (h + 2) 12 (d + 1))) ⟨fun k q => ((z_up_n (by omega)).trans ((z_mk_lt (by omega)).trans (z_up_n (by omega)))).trans (j1 k q), ((z_up_n (by omega)).trans ((z_mk_lt (by omega)).trans (z_up_n (by omega)))).trans j2, ((z_up_n (by omega)).trans ((z_mk_lt (by omega)).trans (z_up_n (by omega)))).trans j3, z_up_s, ((z_up_n (by omega)).trans ((z_mk_lt (by omega)).trans (z_up_n (by omega)))).trans j5, fun k q1 q2 q3 => ?_⟩
    · exact e_cs hz (by omega) (by omega) (by omega)
    · by_cases q : k < (h + 27 + 3 * d)
      · exact ((z_up_n (by omega)).trans ((z_mk_lt q).trans (z_up_n (by omega)))).trans (j6 k q1 q q3)
      · exact (z_up_n (by omega)).trans (z_mk_ge q)
set_option maxRecDepth 100000 in
set_option maxHeartbeats 1000000 in
theorem e_vloop3 {Γ : zC} (hl : Γ.2.1.stackTraces = false) (G : zG) (b h : Nat) (hk : z_kd h = 5) (E0 : Nat → va_E) (X : z_CX Γ G b 2 cX5_init RX5 z_rmV) (h0 : (z_s Γ).heap.size = b + (h + 1)) (K : ∀ E, z_J G b h E0 6 12 4 (h + 63 + 5 * 4) E → GE Γ G b (62 + 5 * 4) (2950 + 236 * 4) (h + 63 + 5 * 4) E 149 [(0, .ref (b + h))] []) : ∀ (r d : Nat), d + r = 4 → ∀ E, z_J G b h E0 6 12 d (h + 63 + 5 * d) E → GE Γ G b (62 + 5 * d) (2950 + 236 * d) (h + 63 + 5 * d) E 121 [(0, .ref (b + h)), (1, .int (nI d))] [] := by
  intro r
  induction r with
  | zero =>
    intro d hd E hJ
    have hd2 : d = 4 := by omega
    subst hd2
    refine e_iload_n X 1 rfl dX5_init_121 122 rfl ?_
    refine e_iconst (v := 4) X rfl dX5_init_122 123 rfl ?_
    refine e_icmp_ge X dX5_init_123 149 (by decide) 126 rfl (fun _ => ?_) (fun q => absurd (show (4 : Int32) ≤ nI 4 by decide) q)
    exact e_sub [(0, .ref (b + h))] [0] rfl (K E hJ)
  | succ r ih =>
    intro d hd E hJ
    obtain ⟨j1, j2, j3, j4, j5, j6⟩ := id hJ
    refine e_iload_n X 1 rfl dX5_init_121 122 rfl ?_
    refine e_iconst (v := 4) X rfl dX5_init_122 123 rfl ?_
    refine e_icmp_ge X dX5_init_123 149 (by decide) 126 rfl (fun q => absurd q (nI_ge (a := d) (b := 4) (by omega) (by decide))) (fun _ => ?_)
    refine e_aload_n X 0 rfl dX5_init_126 127 rfl ?_
    refine e_get (v := .ref (b + (h + 8))) X (by omega) j2 zv_X5 zi_X5 rfl kf_X5_32 rfl rfl dX5_init_127 130 rfl ?_
    refine e_iload_n X 1 rfl dX5_init_130 131 rfl ?_
    refine e_new (c := 1) (fs := [.int 0, .null, .null, .null, .int 0, .null]) X h0 (by omega) zi_X1 tyX1_ok kcl_X5_30 kin_X1 kini_X1 zv_X1 (fun j hj => by rcases (show j = 0 ∨ j = 1 ∨ j = 2 ∨ j = 3 ∨ j = 4 ∨ j = 5 by omega) with rfl | rfl | rfl | rfl | rfl | rfl <;> rfl) (by show _ ∧ _; exact ⟨by show _ ≤ 82; omega, by show _ ≤ 3894; omega⟩) dX5_init_131 134 rfl ?_
    refine e_dup X rfl dX5_init_134 135 rfl ?_
    have hv := z_vl hk (show d < 4 by omega)
    have hkd := hv.1
    refine e_iload_n X 1 rfl dX5_init_135 136 rfl ?_
    refine e_bipush (v := 32) X rfl dX5_init_136 138 rfl ?_
    refine e_imul X dX5_init_138 139 rfl ?_
    have hst9 : z_M0 (h + 63 + 5 * d) 0 = nI d * 32 := by
      rw [z_M0c hv.2]
      rcases (show d = 0 ∨ d = 1 ∨ d = 2 ∨ d = 3 by omega) with rfl | rfl | rfl | rfl <;> decide
    refine e_callIN (rest := [.ref (b + (h + 63 + 5 * d)), .int (nI d), .ref (b + (h + 8))]) (h9 := (h + 63 + 5 * d)) X h0 ⟨by omega, by omega⟩ (tX1_init hl G b (h + 63 + 5 * d) hkd (z_up E (h + 63 + 5 * d) (.inr (1, [.int 0, .null, .null, .null, .int 0, .null]))) z_up_s (nI d * 32) hst9) zy_X1_init zoi_X1 km_X5_50 rfl ⟨rfl, rfl⟩ ⟨rfl, rfl⟩ rfl rfl (Nat.le_of_ble_eq_true rfl) (by show _ ∧ _; exact ⟨by show _ ≤ 82; omega, by show _ ≤ 3894; omega⟩) dX5_init_139 142 rfl ?_
    refine e_aast (k := h + 8) (k1 := (h + 63 + 5 * d)) (c := 13) (t9 := 5) (nn := 4) (f := z_rw b 13 (h + 8) 4 d) (vs := z_fl 1 b (h + 63 + 5 * d) (z_M0 (h + 63 + 5 * d))) (r := (RX1, TX1, 6)) X (by omega) ((z_mk_lt (by omega)).trans ((z_up_n (by omega)).trans j5)) rfl (by omega) ((z_mk_ge (by omega)).trans (z_ent_o hkd (by decide))) zv_X1 (vp_in_nI (by omega) (by decide)) dX5_init_142 143 rfl ?_
    rw [show b + (h + 63 + 5 * d) = b + z_rf 13 (h + 8) d by show _ = b + ((h + 8) + _ + _ * d); omega, z_Aup (by omega) (nI_clamp (by omega))]
    refine e_iinc X dX5_init_143 146 rfl [(0, .ref (b + h)), (1, .int (nI (d + 1)))] (by decide) 1 rfl (nI (d + 1)) (nI_1 d) [1, 0] rfl ?_
    refine e_goto X dX5_init_146 121 (by decide) ?_
    have hz := ih (d + 1) (by omega) (z_up (z_mk G b (z_up E (h + 63 + 5 * d) (.inr (1, [.int 0, .null, .null, .null, .int 0, .null]))) (h + 63 + 5 * d)) (h + 8) (z_A G b 13 (h + 8) 4 (d + 1))) ⟨fun k q => ((z_up_n (by omega)).trans ((z_mk_lt (by omega)).trans (z_up_n (by omega)))).trans (j1 k q), ((z_up_n (by omega)).trans ((z_mk_lt (by omega)).trans (z_up_n (by omega)))).trans j2, ((z_up_n (by omega)).trans ((z_mk_lt (by omega)).trans (z_up_n (by omega)))).trans j3, ((z_up_n (by omega)).trans ((z_mk_lt (by omega)).trans (z_up_n (by omega)))).trans j4, z_up_s, fun k q1 q2 q3 => ?_⟩
    · exact e_cs hz (by omega) (by omega) (by omega)
    · by_cases q : k < (h + 63 + 5 * d)
      · exact ((z_up_n (by omega)).trans ((z_mk_lt q).trans (z_up_n (by omega)))).trans (j6 k q1 q q3)
      · exact (z_up_n (by omega)).trans (z_mk_ge q)
