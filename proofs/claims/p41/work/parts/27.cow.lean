theorem zt_6_0 {G : zG} {b h : Nat} (hk : z_kd h = 6) : z_ent G b z_M0 h = .inr (6, [.ref (b + (h + 1)), .ref (b + (h + 84)), .ref (b + (h + 167)), .ref (b + (h + 168))]) := by
  rw [z_ent_o hk (by decide)]
  rfl
theorem zt_6_167 {G : zG} {b h : Nat} (hk : z_kd h = 6) : z_ent G b z_M0 (h + 167) = .inl (G.2.2 8, 16, .inl (fun _ => 0)) := by
  rw [z_ent_a (zk_6_2 hk) (by decide), zn_6_2 hk, z_M0c (beq_iff_eq.mp (z_all (P := fun h => z_ik (h + 167) == 0) (by decide +kernel) rfl hk).2)]
  rfl
theorem zt_6_168 {G : zG} {b h : Nat} (hk : z_kd h = 6) : z_ent G b z_M0 (h + 168) = .inl (G.2.2 8, 128, .inl (fun _ => 0)) := by
  rw [z_ent_a (zk_6_3 hk) (by decide), zn_6_3 hk, z_M0c (beq_iff_eq.mp (z_all (P := fun h => z_ik (h + 168) == 0) (by decide +kernel) rfl hk).2)]
  rfl
def z_rmC : Room := { frames := 4, cells := 168, slots := 7946, locals := 121 }
set_option maxRecDepth 100000 in
set_option maxHeartbeats 4000000 in
theorem tX6_init {l : Launch} (hl : l.stackTraces = false) (G : zG) (b h : Nat) (hk : z_kd h = 6) (E : Nat → va_E) (hE0 : E h = .inr (6, [.null, .null, .null, .null])) : z_MCt l yX6_init cX6_init 1 z_rmC G b [.ref (b + h)] h 169 E 168 7946 := by
  refine z_metc (own := RX6) hl (by decide) rfl rfl rfl (fun Γ hΓ X h0 hinit R => ?_)
  subst hΓ
  show GE Γ G b 0 0 (h + 1) E 0 [(0, .ref (b + h))] []
  refine e_aload_n X 0 rfl dX6_init_0 1 rfl ?_
  refine e_obj X kobj_X6_3 ⟨rfl, rfl⟩ dX6_init_1 4 rfl ?_
  refine e_aload_n X 0 rfl dX6_init_4 5 rfl ?_
  refine e_new (c := 5) (fs := [.null, .null, .null, .null, .int 0, .int 0, .int 0]) X h0 (by omega) zi_X5 tyX5_ok kcl_X6_9 kin_X5 kini_X5 zv_X5 (fun j hj => by rcases (show j = 0 ∨ j = 1 ∨ j = 2 ∨ j = 3 ∨ j = 4 ∨ j = 5 ∨ j = 6 by omega) with rfl | rfl | rfl | rfl | rfl | rfl | rfl <;> rfl) ⟨by decide, by decide⟩ dX6_init_5 8 rfl ?_
  refine e_dup X rfl dX6_init_8 9 rfl ?_
  refine e_callIN (rest := [.ref (b + (h + 1)), .ref (b + h)]) (h9 := (h + 1)) X h0 ⟨by omega, by omega⟩ (tX5_init hl G b (h + 1) (zk_6_0 hk) (z_up E (h + 1) (.inr (5, [.null, .null, .null, .null, .int 0, .int 0, .int 0]))) z_up_s) zy_X5_init zoi_X5 km_X6_11 rfl ⟨rfl, rfl⟩ ⟨rfl, rfl⟩ rfl rfl (Nat.le_of_ble_eq_true rfl) ⟨by decide, by decide⟩ dX6_init_9 12 rfl ?_
  refine e_putF X hinit (by omega) ((z_mk_lt (by omega)).trans ((z_up_n (by omega)).trans hE0)) zv_X6 zi_X6 rfl kf_X6_12 rfl rfl tyX6_ok nmX6 rfl rfl rfl rfl rfl [.ref (b + (h + 1)), .null, .null, .null] rfl dX6_init_12 15 rfl ?_
  refine e_aload_n X 0 rfl dX6_init_15 16 rfl ?_
  refine e_new (c := 5) (fs := [.null, .null, .null, .null, .int 0, .int 0, .int 0]) X h0 (by omega) zi_X5 tyX5_ok kcl_X6_9 kin_X5 kini_X5 zv_X5 (fun j hj => by rcases (show j = 0 ∨ j = 1 ∨ j = 2 ∨ j = 3 ∨ j = 4 ∨ j = 5 ∨ j = 6 by omega) with rfl | rfl | rfl | rfl | rfl | rfl | rfl <;> rfl) ⟨by decide, by decide⟩ dX6_init_16 19 rfl ?_
  refine e_dup X rfl dX6_init_19 20 rfl ?_
  refine e_callIN (rest := [.ref (b + (h + 84)), .ref (b + h)]) (h9 := (h + 84)) X h0 ⟨by omega, by omega⟩ (tX5_init hl G b (h + 84) (zk_6_1 hk) (z_up (z_up (z_mk G b (z_up E (h + 1) (.inr (5, [.null, .null, .null, .null, .int 0, .int 0, .int 0]))) (h + 1)) h (.inr (6, [.ref (b + (h + 1)), .null, .null, .null]))) (h + 84) (.inr (5, [.null, .null, .null, .null, .int 0, .int 0, .int 0]))) z_up_s) zy_X5_init zoi_X5 km_X6_11 rfl ⟨rfl, rfl⟩ ⟨rfl, rfl⟩ rfl rfl (Nat.le_of_ble_eq_true rfl) ⟨by decide, by decide⟩ dX6_init_20 23 rfl ?_
  refine e_putF X hinit (by omega) ((z_mk_lt (by omega)).trans ((z_up_n (by omega)).trans z_up_s)) zv_X6 zi_X6 rfl kf_X6_16 rfl rfl tyX6_ok nmX6 rfl rfl rfl rfl rfl [.ref (b + (h + 1)), .ref (b + (h + 84)), .null, .null] rfl dX6_init_23 26 rfl ?_
  refine e_aload_n X 0 rfl dX6_init_26 27 rfl ?_
  refine e_bipush (v := 16) X rfl dX6_init_27 29 rfl ?_
  refine e_newa (nn := 16) (n := 16) (t9 := 0) (c := 8) (ty := .int) (at9 := .int) (a0 := (16, .inl (fun _ => 0))) X h0 (by omega) zo_ar8 rfl rfl (fun _ h => by cases h) (fun _ => rfl) (by decide) rfl rfl ⟨by decide, by decide⟩ dX6_init_29 31 rfl ?_
  refine e_putF X hinit (by omega) ((z_up_n (by omega)).trans z_up_s) zv_X6 zi_X6 rfl kf_X6_19 rfl rfl tyX6_ok nmX6 rfl rfl rfl rfl rfl [.ref (b + (h + 1)), .ref (b + (h + 84)), .ref (b + (h + 167)), .null] rfl dX6_init_31 34 rfl ?_
  refine e_aload_n X 0 rfl dX6_init_34 35 rfl ?_
  refine e_sipush (v := 128) X rfl dX6_init_35 38 rfl ?_
  refine e_newa (nn := 128) (n := 128) (t9 := 0) (c := 8) (ty := .int) (at9 := .int) (a0 := (128, .inl (fun _ => 0))) X h0 (by omega) zo_ar8 rfl rfl (fun _ h => by cases h) (fun _ => rfl) (by decide) rfl rfl ⟨by decide, by decide⟩ dX6_init_38 40 rfl ?_
  refine e_putF X hinit (by omega) ((z_up_n (by omega)).trans z_up_s) zv_X6 zi_X6 rfl kf_X6_23 rfl rfl tyX6_ok nmX6 rfl rfl rfl rfl rfl [.ref (b + (h + 1)), .ref (b + (h + 84)), .ref (b + (h + 167)), .ref (b + (h + 168))] rfl dX6_init_40 43 rfl ?_
  refine e_eq (E1 := z_mk G b E h) (fun k hk9 => ?_) (e_vret X R dX6_init_43)
  rcases (by omega : k < h ∨ k = h ∨ (h + 1 ≤ k ∧ k < h + 84) ∨ (h + 84 ≤ k ∧ k < h + 167) ∨ k = h + 167 ∨ k = h + 168) with q | rfl | q | q | rfl | rfl
  · exact ((z_up_n (by omega)).trans ((z_up_n (by omega)).trans ((z_up_n (by omega)).trans ((z_up_n (by omega)).trans ((z_up_n (by omega)).trans ((z_mk_lt (by omega)).trans ((z_up_n (by omega)).trans ((z_up_n (by omega)).trans ((z_mk_lt (by omega)).trans (z_up_n (by omega))))))))))).trans (z_mk_lt q).symm
  · exact z_up_s.trans ((z_mk_ge (by omega)).trans (zt_6_0 hk)).symm
  · exact ((z_up_n (by omega)).trans ((z_up_n (by omega)).trans ((z_up_n (by omega)).trans ((z_up_n (by omega)).trans ((z_up_n (by omega)).trans ((z_mk_lt (by omega)).trans ((z_up_n (by omega)).trans ((z_up_n (by omega)).trans (z_mk_ge (by omega)))))))))).trans (z_mk_ge (by omega)).symm
  · exact ((z_up_n (by omega)).trans ((z_up_n (by omega)).trans ((z_up_n (by omega)).trans ((z_up_n (by omega)).trans ((z_up_n (by omega)).trans (z_mk_ge (by omega))))))).trans (z_mk_ge (by omega)).symm
  · exact ((z_up_n (by omega)).trans ((z_up_n (by omega)).trans ((z_up_n (by omega)).trans z_up_s))).trans ((z_mk_ge (by omega)).trans (zt_6_167 hk)).symm
  · exact ((z_up_n (by omega)).trans z_up_s).trans ((z_mk_ge (by omega)).trans (zt_6_168 hk)).symm
