theorem zt_6_0 {G : zG} {b h : Nat} (hk : z_kd h = 6) : z_ent G b z_M0 h = .inr (6, [.ref (b + (h + 1)), .ref (b + (h + 84)), .ref (b + (h + 167)), .ref (b + (h + 168))]) := by
  rw [z_ent_o hk (by decide)]
  rfl
theorem zt_6_167 {G : zG} {b h : Nat} (hk : z_kd h = 6) : z_ent G b z_M0 (h + 167) = .inl (G.2.2 8, 16, .inl (fun _ => 0)) := by
  rw [z_ent_a (zk_6_2 hk) (by decide), zn_6_2 hk, z_M0c (beq_iff_eq.mp (z_all (P := fun h => z_ik (h + 167) == 0) (by decide +kernel) rfl hk).2)]
  rfl
theorem zt_6_168 {G : zG} {b h : Nat} (hk : z_kd h = 6) : z_ent G b z_M0 (h + 168) = .inl (G.2.2 8, 128, .inl (fun _ => 0)) := by
  rw [z_ent_a (zk_6_3 hk) (by decide), zn_6_3 hk, z_M0c (beq_iff_eq.mp (z_all (P := fun h => z_ik (h + 168) == 0) (by decide +kernel) rfl hk).2)]
  rfl
def z_rmC : Room := { frames := 4, cells := 168, slots := 7946, locals := 121 }
set_option maxRecDepth 100000 in
set_option maxHeartbeats 4000000 in
theorem tX6_init {l : Launch} (hl : l.stackTraces = false) (G : zG) (b h : Nat) (hk : z_kd h = 6) (E : Nat → va_E) (hE0 : E h = .inr (6, [.null, .null, .null, .null])) : z_MCt l yX6_init cX6_init 1 z_rmC G b [.ref (b + h)] h 169 E 168 7946 := by
  refine z_metc (own := RX6) hl (by decide) rfl rfl rfl (fun Γ hΓ X h0 hinit R => ?_)
  subst hΓ
  show GE Γ G b 0 0 (h + 1) E 0 [(0, .ref (b + h))] []
  refine e_aload_n X 0 rfl dX6_init_0 1 rfl ?_
  refine e_obj X kobj_X6_3 ⟨rfl, rfl⟩ dX6_init_1 4 rfl ?_
  refine e_aload_n X 0 rfl dX6_init_4 5 rfl ?_
  refine e_new (c := 5) (fs := [.null, .null, .null, .null, .int 0, .int 0, .int 0]) X h0 (by omega) zi_X5 tyX5_ok kcl_X6_9 kin_X5 kini_X5 zv_X5 (fun j hj => by rcases (show j = 0 ∨ j = 1 ∨ j = 2 ∨ j = 3 ∨ j = 4 ∨ j = 5 ∨ j = 6 by omega) with rfl | rfl | rfl | rfl | rfl | rfl | rfl <;> rfl) ⟨by decide, by decide⟩ dX6_init_5 8 rfl ?_
  refine e_dup X rfl dX6_init_8 9 rfl ?_
  refine e_callIN (rest := [.ref (b + (h + 1)), .ref (b + h)]) (h9 := (h + 1)) X h0 ⟨by omega, by omega⟩ (tX5_init hl G b (h + 1) (zk_6_0 hk) (z_up E (h + 1) (.inr (5, [.null, .null, .null, .null, .int 0, .int 0, .int 0]))) z_up_s) zy_X5_init zoi_X5 km_X6_11 rfl ⟨rfl, rfl⟩ ⟨rfl, rfl⟩ rfl rfl (Nat.le_of_ble_eq_true rfl) ⟨by decide, by decide⟩ dX6_init_9 12 rfl ?_
  refine e_putF X hinit (by omega) ((z_mk_lt (by omega)).trans ((z_up_n (by omega)).trans hE0)) zv_X6 zi_X6 rfl kf_X6_12 rfl rfl tyX6_ok nmX6 rfl rfl rfl rfl rfl [.ref (b + (h + 1)), .null, .null, .null] rfl dX6_init_12 15 rfl ?_
  refine e_aload_n X 0 rfl dX6_init_15 16 rfl ?_
  refine e_new (c := 5) (fs := [.null, .null, .null, .null, .int 0, .int 0, .int 0]) X h0 (by omega) zi_X5 tyX5_ok kcl_X6_9 kin_X5 kini_X5 zv_X5 (fun j hj => by rcases (show j = 0 ∨ j = 1 ∨ j = 2 ∨ j = 3 ∨ j = 4 ∨ j = 5 ∨ j = 6 by omega) with rfl | rfl | rfl | rfl | rfl | rfl | rfl <;> rfl) ⟨by decide, by decide⟩ dX6_init_16 19 rfl ?_
  refine e_dup X rfl dX6_init_19 20 rfl ?_
  refine e_callIN (rest := [.ref (b + (h + 84)), .ref (b + h)]) (h9 := (h + 84)) X h0 ⟨by omega, by omega⟩ (tX5_init hl G b (h + 84) (zk_6_1 hk) (z_up (z_up (z_mk G b (z_up E (h + 1) (.inr (5, [.null, .null, .null, .null, .int 0, .int 0, .int 0]))) (h + 1)) h (.inr (6, [.ref (b + (h + 1)), .null, .null, .null]))) (h + 84) (.inr (5, [.null, .null, .null, .null, .int 0, .int 0, .int 0]))) z_up_s) zy_X5_init zoi_X5 km_X6_11 rfl ⟨rfl, rfl⟩ ⟨rfl, rfl⟩ rfl rfl (Nat.le_of_ble_eq_true rfl) ⟨by decide, by decide⟩ dX6_init_20 23 rfl ?_
  refine e_putF X hinit (by omega) ((z_mk_lt (by omega)).trans ((z_up_n (by omega)).trans z_up_s)) zv_X6 zi_X6 rfl kf_X6_16 rfl rfl tyX6_ok nmX6 rfl rfl rfl rfl rfl [.ref (b + (h + 1)), .ref (b + (h + 84)), .null, .null] rfl dX6_init_23 26 rfl ?_
  refine e_aload_n X 0 rfl dX6_init_26 27 rfl ?_
  refine e_bipush (v := 16) X rfl dX6_init_27 29 rfl ?_
  refine e_newa (nn := 16) (n := 16) (t9 := 0) (c := 8) (ty := .int) (at9 := .int) (a0 := (16, .inl (fun _ => 0))) X h0 (by omega) zo_ar8 rfl rfl (fun _ h => by cases h) (fun _ => rfl) (by decide) rfl rfl ⟨by decide, by decide⟩ dX6_init_29 31 rfl ?_
  refine e_putF X hinit (by omega) ((z_up_n (by omega)).trans z_up_s) zv_X6 zi_X6 rfl kf_X6_19 rfl rfl tyX6_ok nmX6 rfl rfl rfl rfl rfl [.ref (b + (h + 1)), .ref (b + (h + 84)), .ref (b + (h + 167)), .null] rfl dX6_init_31 34 rfl ?_
  refine e_aload_n X 0 rfl dX6_init_34 35 rfl ?_
  refine e_sipush (v := 128) X rfl dX6_init_35 38 rfl ?_
  refine e_newa (nn := 128) (n := 128) (t9 := 0) (c := 8) (ty := .int) (at9 := .int) (a0 := (128, .inl (fun _ => 0))) X h0 (by omega) zo_ar8 rfl rfl (fun _ h => by cases h) (fun _ => rfl) (by decide) rfl rfl ⟨by decide, by decide⟩ dX6_init_38 40 rfl ?_
  refine e_putF X hinit (by omega) ((z_up_n (by omega)).trans z_up_s) zv_X6 zi_X6 rfl kf_X6_23 rfl rfl tyX6_ok nmX6 rfl rfl rfl rfl rfl [.ref (b + (h + 1)), .ref (b + (h + 84)), .ref (b + (h + 167)), .ref (b + (h + 168))] rfl dX6_init_40 43 rfl ?_
  refine e_eq (E1 := z_mk G b E h) (fun k hk9 => ?_) (e_vret X R dX6_init_43)
  rcases (by omega : k < h ∨ k = h ∨ (h + 1 ≤ k ∧ k < h + 84) ∨ (h + 84 ≤ k ∧ k < h + 167) ∨ k = h + 167 ∨ k = h + 168) with q | rfl | q | q | rfl | rfl
  · exact ((z_up_n (by omega)).trans ((z_up_n (by omega)).trans ((z_up_n (by omega)).trans ((z_up_n (by omega)).trans ((z_up_n (by omega)).trans ((z_mk_lt (by omega)).trans ((z_up_n (by omega)).trans ((z_up_n (by omega)).trans ((z_mk_lt (by omega)).trans (z_up_n (by omega))))))))))).trans (z_mk_lt q).symm
  · exact z_up_s.trans ((z_mk_ge (by omega)).trans (zt_6_0 hk)).symm
  · exact ((z_up_n (by omega)).trans ((z_up_n (by omega)).trans ((z_up_n (by omega)).trans ((z_up_n (by omega)).trans ((z_up_n (by omega)).trans ((z_mk_lt (by omega)).trans ((z_up_n (by omega)).trans ((z_up_n (by omega)).trans (z_mk_ge (by omega)))))))))).trans (z_mk_ge (by omega)).symm
  · exact ((z_up_n (by omega)).trans ((z_up_n (by omega)).trans ((z_up_n (by omega)).trans ((z_up_n (by omega)).trans ((z_up_n (by omega)).trans (z_mk_ge (by omega))))))).trans (z_mk_ge (by omega)).symm
  · exact ((z_up_n (by omega)).trans ((z_up_n (by omega)).trans ((z_up_n (by omega)).trans z_up_s))).trans ((z_mk_ge (by omega)).trans (zt_6_167 hk)).symm
  · exact ((z_up_n (by omega)).trans z_up_s).trans ((z_mk_ge (by omega)).trans (zt_6_168 hk)).symm
def z_cpf (f : Nat → Int32) (j : Nat) : Nat → Int32 := fun q => if q < j then f q else 0
def z_n0 : Nat → Int32 := upd (upd (fun _ => 0) (nI 2304).toNatClampNeg 1) (nI 3395).toNatClampNeg 1
theorem z_n0_iv : z_n0 = z_iv 6 := by
  have e1 : (nI 2304).toNatClampNeg = 2304 := nI_clamp (by decide)
  have e2 : (nI 3395).toNatClampNeg = 3395 := nI_clamp (by decide)
  funext j
  unfold z_n0 upd z_iv
  rw [e1, e2]
  by_cases h : j = 3395
  · rw [if_pos h]
    subst h
    rfl
  · rw [if_neg h]
    by_cases h2 : j = 2304
    · rw [if_pos h2]
      simp [h2]
    · rw [if_neg h2]
      simp [h, h2]
theorem z_cpf_up {f : Nat → Int32} {d : Nat} : upd (z_cpf f d) d (f d) = z_cpf f (d + 1) := by
  funext q
  unfold upd z_cpf
  by_cases hq : q = d
  · subst hq
    rw [if_pos rfl, if_pos (by omega)]
  · rw [if_neg hq]
    by_cases hq2 : q < d
    · rw [if_pos hq2, if_pos (by omega)]
    · rw [if_neg hq2, if_neg (by omega)]
def z_rmO : Room := { frames := 1, cells := 4, slots := 6938, locals := 40 }
def z_JM (G : zG) (b h : Nat) (E0 : Nat → va_E) (d : Nat) (E : Nat → va_E) : Prop :=
  (∀ k, k < h → E k = E0 k) ∧ E h = .inr (7, [.ref (b + (h + 1)), .ref (b + (h + 2)), .ref (b + (h + 3)), .ref (b + (h + 4)), .int 0]) ∧ E (h + 1) = .inl (G.2.2 8, 3397, .inl z_n0) ∧ E (h + 2) = .inl (G.2.2 8, 3397, .inl (z_cpf z_n0 d)) ∧ E (h + 3) = .inl (G.2.2 8, 128, .inl (fun _ => 0)) ∧ E (h + 4) = .inl (G.2.2 8, 16, .inl (fun _ => 0))
set_option maxRecDepth 100000 in
set_option maxHeartbeats 1000000 in
theorem e_mloop {Γ : zC} (G : zG) (b h : Nat) (E0 : Nat → va_E) (X : z_CX Γ G b 2 cX7_init RX7 z_rmO) (K : ∀ E, z_JM G b h E0 3397 E → GE Γ G b 4 6938 (h + 5) E 84 [] []) : ∀ (r d : Nat), d + r = 3397 → ∀ E, z_JM G b h E0 d E → GE Γ G b 4 6938 (h + 5) E 59 [(0, .ref (b + h)), (1, .int (nI d))] [] := by
  intro r
  induction r with
  | zero =>
    intro d hd E hJ
    have hd2 : d = 3397 := by omega
    subst hd2
    refine e_iload_n X 1 rfl dX7_init_59 60 rfl ?_
    refine e_sipush (v := nI 3397) X rfl dX7_init_60 63 rfl ?_
    refine e_icmp_ge X dX7_init_63 84 (by decide) 66 rfl (fun _ => ?_) (fun q => absurd (nI_le (Nat.le_refl _) (by decide)) q)
    exact e_sub [] [] rfl (K E hJ)
  | succ r ih =>
    intro d hd E hJ
    obtain ⟨j1, j2, j3, j4, j5, j6⟩ := id hJ
    refine e_iload_n X 1 rfl dX7_init_59 60 rfl ?_
    refine e_sipush (v := nI 3397) X rfl dX7_init_60 63 rfl ?_
    refine e_icmp_ge X dX7_init_63 84 (by decide) 66 rfl (fun q => absurd q (nI_ge (a := d) (b := 3397) (by omega) (by decide))) (fun _ => ?_)
    refine e_aload_n X 0 rfl dX7_init_66 67 rfl ?_
    refine e_get (v := .ref (b + (h + 2))) X (by omega) j2 zv_X7 zi_X7 rfl kf_X7_13 rfl rfl dX7_init_67 70 rfl ?_
    refine e_iload_n X 1 rfl dX7_init_70 71 rfl ?_
    refine e_aload_n X 0 rfl dX7_init_71 72 rfl ?_
    refine e_get (v := .ref (b + (h + 1))) X (by omega) j2 zv_X7 zi_X7 rfl kf_X7_7 rfl rfl dX7_init_72 75 rfl ?_
    refine e_iload_n X 1 rfl dX7_init_75 76 rfl ?_
    refine e_iald X (by omega) j3 (vp_in_nI (by omega) (by decide)) dX7_init_76 77 rfl ?_
    refine e_iast X (by omega) j4 (vp_in_nI (by omega) (by decide)) dX7_init_77 78 rfl ?_
    refine e_iinc X dX7_init_78 81 rfl [(0, .ref (b + h)), (1, .int (nI (d + 1)))] (by decide) 1 rfl (nI (d + 1)) (nI_1 d) [1, 0] rfl ?_
    refine e_goto X dX7_init_81 59 (by decide) ?_
    rw [nI_clamp (show d < 2 ^ 31 by omega)]
    refine ih (d + 1) (by omega) _ ⟨fun k q => (z_up_n (by omega)).trans (j1 k q), (z_up_n (by omega)).trans j2, (z_up_n (by omega)).trans j3, z_up_s.trans ?_, (z_up_n (by omega)).trans j5, (z_up_n (by omega)).trans j6⟩
    rw [z_cpf_up]
theorem zt_7_0 {G : zG} {b h : Nat} (hk : z_kd h = 7) : z_ent G b z_M0 h = .inr (7, [.ref (b + (h + 1)), .ref (b + (h + 2)), .ref (b + (h + 3)), .ref (b + (h + 4)), .int 0]) := by
  rw [z_ent_o hk (by decide)]
  have h2 : z_M0 h = z_iv 0 := z_M0c (beq_iff_eq.mp (z_all (P := fun h => z_ik h == 0) (by decide +kernel) rfl hk).2)
  rw [h2]
  rfl
theorem zt_7_1 {G : zG} {b h : Nat} (hk : z_kd h = 7) : z_ent G b z_M0 (h + 1) = .inl (G.2.2 8, 3397, .inl (z_iv 6)) := by
  rw [z_ent_a (zk_7_0 hk) (by decide), zn_7_0 hk, z_M0c (beq_iff_eq.mp (z_all (P := fun h => z_ik (h + 1) == 6) (by decide +kernel) rfl hk).2)]
  rfl
theorem zt_7_2 {G : zG} {b h : Nat} (hk : z_kd h = 7) : z_ent G b z_M0 (h + 2) = .inl (G.2.2 8, 3397, .inl (z_iv 6)) := by
  rw [z_ent_a (zk_7_1 hk) (by decide), zn_7_1 hk, z_M0c (beq_iff_eq.mp (z_all (P := fun h => z_ik (h + 2) == 6) (by decide +kernel) rfl hk).2)]
  rfl
theorem zt_7_3 {G : zG} {b h : Nat} (hk : z_kd h = 7) : z_ent G b z_M0 (h + 3) = .inl (G.2.2 8, 128, .inl (z_iv 0)) := by
  rw [z_ent_a (zk_7_2 hk) (by decide), zn_7_2 hk, z_M0c (beq_iff_eq.mp (z_all (P := fun h => z_ik (h + 3) == 0) (by decide +kernel) rfl hk).2)]
  rfl
theorem zt_7_4 {G : zG} {b h : Nat} (hk : z_kd h = 7) : z_ent G b z_M0 (h + 4) = .inl (G.2.2 8, 16, .inl (z_iv 0)) := by
  rw [z_ent_a (zk_7_3 hk) (by decide), zn_7_3 hk, z_M0c (beq_iff_eq.mp (z_all (P := fun h => z_ik (h + 4) == 0) (by decide +kernel) rfl hk).2)]
  rfl
set_option maxRecDepth 100000 in
set_option maxHeartbeats 4000000 in
theorem tX7_init {l : Launch} (hl : l.stackTraces = false) (G : zG) (b h : Nat) (hk : z_kd h = 7) (E : Nat → va_E) (hE0 : E h = .inr (7, [.null, .null, .null, .null, .int 0])) : z_MCt l yX7_init cX7_init 2 z_rmO G b [.ref (b + h)] h 5 E 4 6938 := by
  refine z_metc (own := RX7) hl (by decide) rfl rfl rfl (fun Γ hΓ X h0 hinit R => ?_)
  subst hΓ
  show GE Γ G b 0 0 (h + 1) E 0 [(0, .ref (b + h))] []
  refine e_aload_n X 0 rfl dX7_init_0 1 rfl ?_
  refine e_obj X kobj_X7_1 ⟨rfl, rfl⟩ dX7_init_1 4 rfl ?_
  refine e_aload_n X 0 rfl dX7_init_4 5 rfl ?_
  refine e_sipush (v := 3397) X rfl dX7_init_5 8 rfl ?_
  refine e_newa (nn := 3397) (n := 3397) (t9 := 0) (c := 8) (ty := .int) (at9 := .int) (a0 := (3397, .inl (fun _ => 0))) X h0 (by omega) zo_ar8 rfl rfl (fun _ h => by cases h) (fun _ => rfl) (by decide) rfl rfl ⟨by decide, by decide⟩ dX7_init_8 10 rfl ?_
  refine e_putF X hinit (by omega) ((z_up_n (by omega)).trans hE0) zv_X7 zi_X7 rfl kf_X7_7 rfl rfl tyX7_ok nmX7 rfl rfl rfl rfl rfl [.ref (b + (h + 1)), .null, .null, .null, .int 0] rfl dX7_init_10 13 rfl ?_
  refine e_aload_n X 0 rfl dX7_init_13 14 rfl ?_
  refine e_sipush (v := 3397) X rfl dX7_init_14 17 rfl ?_
  refine e_newa (nn := 3397) (n := 3397) (t9 := 0) (c := 8) (ty := .int) (at9 := .int) (a0 := (3397, .inl (fun _ => 0))) X h0 (by omega) zo_ar8 rfl rfl (fun _ h => by cases h) (fun _ => rfl) (by decide) rfl rfl ⟨by decide, by decide⟩ dX7_init_17 19 rfl ?_
  refine e_putF X hinit (by omega) ((z_up_n (by omega)).trans z_up_s) zv_X7 zi_X7 rfl kf_X7_13 rfl rfl tyX7_ok nmX7 rfl rfl rfl rfl rfl [.ref (b + (h + 1)), .ref (b + (h + 2)), .null, .null, .int 0] rfl dX7_init_19 22 rfl ?_
  refine e_aload_n X 0 rfl dX7_init_22 23 rfl ?_
  refine e_sipush (v := 128) X rfl dX7_init_23 26 rfl ?_
  refine e_newa (nn := 128) (n := 128) (t9 := 0) (c := 8) (ty := .int) (at9 := .int) (a0 := (128, .inl (fun _ => 0))) X h0 (by omega) zo_ar8 rfl rfl (fun _ h => by cases h) (fun _ => rfl) (by decide) rfl rfl ⟨by decide, by decide⟩ dX7_init_26 28 rfl ?_
  refine e_putF X hinit (by omega) ((z_up_n (by omega)).trans z_up_s) zv_X7 zi_X7 rfl kf_X7_16 rfl rfl tyX7_ok nmX7 rfl rfl rfl rfl rfl [.ref (b + (h + 1)), .ref (b + (h + 2)), .ref (b + (h + 3)), .null, .int 0] rfl dX7_init_28 31 rfl ?_
  refine e_aload_n X 0 rfl dX7_init_31 32 rfl ?_
  refine e_bipush (v := 16) X rfl dX7_init_32 34 rfl ?_
  refine e_newa (nn := 16) (n := 16) (t9 := 0) (c := 8) (ty := .int) (at9 := .int) (a0 := (16, .inl (fun _ => 0))) X h0 (by omega) zo_ar8 rfl rfl (fun _ h => by cases h) (fun _ => rfl) (by decide) rfl rfl ⟨by decide, by decide⟩ dX7_init_34 36 rfl ?_
  refine e_putF X hinit (by omega) ((z_up_n (by omega)).trans z_up_s) zv_X7 zi_X7 rfl kf_X7_19 rfl rfl tyX7_ok nmX7 rfl rfl rfl rfl rfl [.ref (b + (h + 1)), .ref (b + (h + 2)), .ref (b + (h + 3)), .ref (b + (h + 4)), .int 0] rfl dX7_init_36 39 rfl ?_
  refine e_aload_n X 0 rfl dX7_init_39 40 rfl ?_
  refine e_get (v := .ref (b + (h + 1))) X (by omega) z_up_s zv_X7 zi_X7 rfl kf_X7_7 rfl rfl dX7_init_40 43 rfl ?_
  refine e_sipush (v := 2304) X rfl dX7_init_43 46 rfl ?_
  refine e_iconst (v := 1) X rfl dX7_init_46 47 rfl ?_
  refine e_iast X (by omega) ((z_up_n (by omega)).trans ((z_up_n (by omega)).trans ((z_up_n (by omega)).trans ((z_up_n (by omega)).trans ((z_up_n (by omega)).trans ((z_up_n (by omega)).trans ((z_up_n (by omega)).trans z_up_s))))))) (vp_in_nI (n := 2304) (N := 3397) (by decide) (by decide)) dX7_init_47 48 rfl ?_
  refine e_aload_n X 0 rfl dX7_init_48 49 rfl ?_
  refine e_get (v := .ref (b + (h + 1))) X (by omega) ((z_up_n (by omega)).trans z_up_s) zv_X7 zi_X7 rfl kf_X7_7 rfl rfl dX7_init_49 52 rfl ?_
  refine e_sipush (v := 3395) X rfl dX7_init_52 55 rfl ?_
  refine e_iconst (v := 1) X rfl dX7_init_55 56 rfl ?_
  refine e_iast X (by omega) z_up_s (vp_in_nI (n := 3395) (N := 3397) (by decide) (by decide)) dX7_init_56 57 rfl ?_
  have hJ : z_JM G b h E 0 (z_up (z_up (z_up (z_up (z_up (z_up (z_up (z_up (z_up (z_up E (h + 1) (.inl (G.2.2 8, 3397, .inl (fun _ => 0)))) h (.inr (7, [.ref (b + (h + 1)), .null, .null, .null, .int 0]))) (h + 2) (.inl (G.2.2 8, 3397, .inl (fun _ => 0)))) h (.inr (7, [.ref (b + (h + 1)), .ref (b + (h + 2)), .null, .null, .int 0]))) (h + 3) (.inl (G.2.2 8, 128, .inl (fun _ => 0)))) h (.inr (7, [.ref (b + (h + 1)), .ref (b + (h + 2)), .ref (b + (h + 3)), .null, .int 0]))) (h + 4) (.inl (G.2.2 8, 16, .inl (fun _ => 0)))) h (.inr (7, [.ref (b + (h + 1)), .ref (b + (h + 2)), .ref (b + (h + 3)), .ref (b + (h + 4)), .int 0]))) (h + 1) (.inl (G.2.2 8, 3397, .inl (upd (fun _ => 0) (nI 2304).toNatClampNeg 1)))) (h + 1) (.inl (G.2.2 8, 3397, .inl (upd (upd (fun _ => 0) (nI 2304).toNatClampNeg 1) (nI 3395).toNatClampNeg 1)))) := ⟨fun k q => ((z_up_n (by omega)).trans ((z_up_n (by omega)).trans ((z_up_n (by omega)).trans ((z_up_n (by omega)).trans ((z_up_n (by omega)).trans ((z_up_n (by omega)).trans ((z_up_n (by omega)).trans ((z_up_n (by omega)).trans ((z_up_n (by omega)).trans (z_up_n (by omega))))))))))), ((z_up_n (by omega)).trans ((z_up_n (by omega)).trans z_up_s)), z_up_s, ((z_up_n (by omega)).trans ((z_up_n (by omega)).trans ((z_up_n (by omega)).trans ((z_up_n (by omega)).trans ((z_up_n (by omega)).trans ((z_up_n (by omega)).trans ((z_up_n (by omega)).trans z_up_s))))))), ((z_up_n (by omega)).trans ((z_up_n (by omega)).trans ((z_up_n (by omega)).trans ((z_up_n (by omega)).trans ((z_up_n (by omega)).trans z_up_s))))), ((z_up_n (by omega)).trans ((z_up_n (by omega)).trans ((z_up_n (by omega)).trans z_up_s)))⟩
  refine e_iconst (v := 0) X rfl dX7_init_57 58 rfl ?_
  refine e_istore_n X dX7_init_58 59 rfl [(0, .ref (b + h)), (1, .int 0)] (by decide) [1, 0] rfl ?_
  refine e_cs (e_mloop G b h E X (fun E3 hJ3 => ?_) 3397 0 (by omega) _ hJ) (by omega) (by omega) (by omega)
  refine e_eq (E1 := z_mk G b E h) (fun k hk9 => ?_) (e_vret X R dX7_init_84)
  obtain ⟨j1, j2, j3, j4, j5, j6⟩ := hJ3
  rcases (by omega : k < h ∨ k = h ∨ k = h + 1 ∨ k = h + 2 ∨ k = h + 3 ∨ k = h + 4) with q | rfl | rfl | rfl | rfl | rfl
  · exact (j1 k q).trans (z_mk_lt q).symm
  · exact j2.trans ((z_mk_ge (by omega)).trans (zt_7_0 hk)).symm
  · rw [z_mk_ge (by omega), zt_7_1 hk, j3, z_n0_iv]
  · rw [z_mk_ge (by omega), zt_7_2 hk, j4, show z_cpf z_n0 3397 = z_iv 6 from ?_]
    funext q
    unfold z_cpf
    by_cases hq : q < 3397
    · rw [if_pos hq, z_n0_iv]
    · rw [if_neg hq]
      unfold z_iv
      simp only []
      rw [if_neg (by omega), if_neg (by omega)]
  · exact j5.trans ((z_mk_ge (by omega)).trans (zt_7_3 hk)).symm
  · exact j6.trans ((z_mk_ge (by omega)).trans (zt_7_4 hk)).symm
