set_option maxRecDepth 100000 in
set_option maxHeartbeats 1000000 in
theorem tX4_init {l : Launch} (hl : l.stackTraces = false) (G : zG) (b h : Nat) (hk : z_kd h = 4) (E : Nat → va_E) (hE0 : E h = .inr (4, [.null])) : z_MCt l yX4_init cX4_init 1 { frames := 1, cells := 1, slots := 128, locals := 34 } G b [.ref (b + h)] h 2 E 1 128 := by
  refine z_metc (own := RX4) hl (by decide) rfl rfl rfl (fun Γ hΓ X h0 hinit R => ?_)
  subst hΓ
  show GE Γ G b 0 0 (h + 1) E 0 [(0, .ref (b + h))] []
  refine e_aload_n X 0 rfl dX4_init_0 1 rfl ?_
  refine e_obj X kobj_X4_3 ⟨rfl, rfl⟩ dX4_init_1 4 rfl ?_
  refine e_aload_n X 0 rfl dX4_init_4 5 rfl ?_
  refine e_sipush (v := 128) X rfl dX4_init_5 8 rfl ?_
  refine e_newa (nn := 128) (n := 128) (t9 := 0) (c := 8) (ty := .int) (at9 := .int) (a0 := (128, .inl (fun _ => 0))) X h0 (by omega) zo_ar8 rfl rfl (fun _ h => by cases h) (fun _ => rfl) (by decide) rfl rfl ⟨by decide, by decide⟩ dX4_init_8 10 rfl ?_
  refine e_putF X hinit (by omega) ((z_up_n (by omega)).trans hE0) zv_X4 zi_X4 rfl kf_X4_9 rfl rfl tyX4_ok nmX4 rfl rfl rfl rfl rfl [.ref (b + (h + 1))] rfl dX4_init_10 13 rfl ?_
  refine e_aload_n X 0 rfl dX4_init_13 14 rfl ?_
  refine e_get (v := .ref (b + (h + 1))) X (by omega) z_up_s zv_X4 zi_X4 rfl kf_X4_9 rfl rfl dX4_init_14 17 rfl ?_
  refine e_iconst (v := (-1)) X rfl dX4_init_17 18 rfl ?_
  refine e_fill (v := (-1)) X (by omega) ((z_up_n (by omega)).trans z_up_s) km_X4_15 (by decide) ⟨rfl, rfl⟩ ⟨by decide, by decide⟩ (Nat.le_of_ble_eq_true rfl) dX4_init_18 21 rfl ?_
  refine e_eq (E1 := z_mk G b E h) (fun k hk9 => ?_) (e_vret X R dX4_init_21)
  rcases (by omega : k < h ∨ k = h ∨ k = (h + 1)) with q | rfl | rfl
  · exact ((z_up_n (by omega)).trans ((z_up_n (by omega)).trans (z_up_n (by omega)))).trans (z_mk_lt q).symm
  · exact ((z_up_n (by omega)).trans z_up_s).trans ((z_mk_ge (by omega)).trans (zt_4_0 hk)).symm
  · exact z_up_s.trans ((z_mk_ge (by omega)).trans (zt_4_1 hk)).symm
set_option maxRecDepth 100000 in
set_option maxHeartbeats 1000000 in
theorem tX0_init {l : Launch} (hl : l.stackTraces = false) (G : zG) (b h : Nat) (hk : z_kd h = 0) (E : Nat → va_E) (hE0 : E h = .inr (0, [.null, .int 0, .int 0])) (a1 : Int32) (he : z_M0 h 1 = a1) (hz : narrow .boolean (.int a1) = .int a1 ∧ fits .boolean (.int a1) = true) : z_MCt l yX0_init cX0_init 2 { frames := 2, cells := 2, slots := 129, locals := 64 } G b [.ref (b + h), .int a1] h 3 E 2 129 := by
  refine z_metc (own := RX0) hl (by decide) rfl rfl rfl (fun Γ hΓ X h0 hinit R => ?_)
  subst hΓ
  show GE Γ G b 0 0 (h + 1) E 0 [(0, .ref (b + h)), (1, .int a1)] []
  refine e_aload_n X 0 rfl dX0_init_0 1 rfl ?_
  refine e_obj X kobj_X0_3 ⟨rfl, rfl⟩ dX0_init_1 4 rfl ?_
  refine e_aload_n X 0 rfl dX0_init_4 5 rfl ?_
  refine e_new (c := 4) (fs := [.null]) X h0 (by omega) zi_X4 tyX4_ok kcl_X0_9 kin_X4 kini_X4 zv_X4 (fun j hj => by rcases (show j = 0 by omega) with rfl <;> rfl) ⟨by decide, by decide⟩ dX0_init_5 8 rfl ?_
  refine e_dup X rfl dX0_init_8 9 rfl ?_
  refine e_callIN (rest := [.ref (b + (h + 1)), .ref (b + h)]) (h9 := (h + 1)) X h0 ⟨by omega, by omega⟩ (tX4_init hl G b (h + 1) (zk_0_0 hk) (z_up E (h + 1) (.inr (4, [.null]))) z_up_s) zy_X4_init zoi_X4 km_X0_11 rfl ⟨rfl, rfl⟩ ⟨rfl, rfl⟩ rfl rfl (Nat.le_of_ble_eq_true rfl) ⟨by decide, by decide⟩ dX0_init_9 12 rfl ?_
  refine e_putF X hinit (by omega) ((z_mk_lt (by omega)).trans ((z_up_n (by omega)).trans hE0)) zv_X0 zi_X0 rfl kf_X0_12 rfl rfl tyX0_ok nmX0 rfl rfl rfl rfl rfl [.ref (b + (h + 1)), .int 0, .int 0] rfl dX0_init_12 15 rfl ?_
  refine e_aload_n X 0 rfl dX0_init_15 16 rfl ?_
  refine e_iconst (v := (-1)) X rfl dX0_init_16 17 rfl ?_
  refine e_put X (by omega) z_up_s zv_X0 zi_X0 rfl kf_X0_18 rfl tyX0_ok nmX0 rfl rfl rfl rfl rfl [.ref (b + (h + 1)), .int 0, .int (-1)] rfl dX0_init_17 20 rfl ?_
  refine e_aload_n X 0 rfl dX0_init_20 21 rfl ?_
  refine e_iload_n X 1 rfl dX0_init_21 22 rfl ?_
  refine e_put X (by omega) z_up_s zv_X0 zi_X0 rfl kf_X0_22 rfl tyX0_ok nmX0 rfl rfl hz.1 hz.2 rfl [.ref (b + (h + 1)), .int a1, .int (-1)] rfl dX0_init_22 25 rfl ?_
  refine e_eq (E1 := z_mk G b E h) (fun k hk9 => ?_) (e_vret X R dX0_init_25)
  rcases (by omega : k < h ∨ k = h ∨ k = (h + 1) ∨ k = (h + 2)) with q | rfl | rfl | rfl
  · exact ((z_up_n (by omega)).trans ((z_up_n (by omega)).trans ((z_up_n (by omega)).trans ((z_mk_lt (by omega)).trans (z_up_n (by omega)))))).trans (z_mk_lt q).symm
  · exact z_up_s.trans ((z_mk_ge (by omega)).trans (zt_0_0 hk he)).symm
  · exact ((z_up_n (by omega)).trans ((z_up_n (by omega)).trans ((z_up_n (by omega)).trans (z_mk_ge (by omega))))).trans (z_mk_ge (by omega)).symm
  · exact ((z_up_n (by omega)).trans ((z_up_n (by omega)).trans ((z_up_n (by omega)).trans (z_mk_ge (by omega))))).trans (z_mk_ge (by omega)).symm
set_option maxRecDepth 100000 in
set_option maxHeartbeats 1000000 in
theorem tX2_init {l : Launch} (hl : l.stackTraces = false) (G : zG) (b h : Nat) (hk : z_kd h = 2) (E : Nat → va_E) (hE0 : E h = .inr (2, [.null, .int 0, .int 0, .int 0, .int 0, .int 0])) : z_MCt l yX2_init cX2_init 1 { frames := 2, cells := 2, slots := 129, locals := 64 } G b [.ref (b + h)] h 3 E 2 129 := by
  refine z_metc (own := RX2) hl (by decide) rfl rfl rfl (fun Γ hΓ X h0 hinit R => ?_)
  subst hΓ
  show GE Γ G b 0 0 (h + 1) E 0 [(0, .ref (b + h))] []
  refine e_aload_n X 0 rfl dX2_init_0 1 rfl ?_
  refine e_obj X kobj_X2_3 ⟨rfl, rfl⟩ dX2_init_1 4 rfl ?_
  refine e_aload_n X 0 rfl dX2_init_4 5 rfl ?_
  refine e_new (c := 4) (fs := [.null]) X h0 (by omega) zi_X4 tyX4_ok kcl_X2_9 kin_X4 kini_X4 zv_X4 (fun j hj => by rcases (show j = 0 by omega) with rfl <;> rfl) ⟨by decide, by decide⟩ dX2_init_5 8 rfl ?_
  refine e_dup X rfl dX2_init_8 9 rfl ?_
  refine e_callIN (rest := [.ref (b + (h + 1)), .ref (b + h)]) (h9 := (h + 1)) X h0 ⟨by omega, by omega⟩ (tX4_init hl G b (h + 1) (zk_2_0 hk) (z_up E (h + 1) (.inr (4, [.null]))) z_up_s) zy_X4_init zoi_X4 km_X2_11 rfl ⟨rfl, rfl⟩ ⟨rfl, rfl⟩ rfl rfl (Nat.le_of_ble_eq_true rfl) ⟨by decide, by decide⟩ dX2_init_9 12 rfl ?_
  refine e_putF X hinit (by omega) ((z_mk_lt (by omega)).trans ((z_up_n (by omega)).trans hE0)) zv_X2 zi_X2 rfl kf_X2_12 rfl rfl tyX2_ok nmX2 rfl rfl rfl rfl rfl [.ref (b + (h + 1)), .int 0, .int 0, .int 0, .int 0, .int 0] rfl dX2_init_12 15 rfl ?_
  refine e_aload_n X 0 rfl dX2_init_15 16 rfl ?_
  refine e_iconst (v := 0) X rfl dX2_init_16 17 rfl ?_
  refine e_put X (by omega) z_up_s zv_X2 zi_X2 rfl kf_X2_18 rfl tyX2_ok nmX2 rfl rfl rfl rfl rfl [.ref (b + (h + 1)), .int 0, .int 0, .int 0, .int 0, .int 0] rfl dX2_init_17 20 rfl ?_
  refine e_aload_n X 0 rfl dX2_init_20 21 rfl ?_
  refine e_iconst (v := (-1)) X rfl dX2_init_21 22 rfl ?_
  refine e_put X (by omega) z_up_s zv_X2 zi_X2 rfl kf_X2_22 rfl tyX2_ok nmX2 rfl rfl rfl rfl rfl [.ref (b + (h + 1)), .int 0, .int (-1), .int 0, .int 0, .int 0] rfl dX2_init_22 25 rfl ?_
  refine e_aload_n X 0 rfl dX2_init_25 26 rfl ?_
  refine e_iconst (v := (-1)) X rfl dX2_init_26 27 rfl ?_
  refine e_put X (by omega) z_up_s zv_X2 zi_X2 rfl kf_X2_26 rfl tyX2_ok nmX2 rfl rfl rfl rfl rfl [.ref (b + (h + 1)), .int 0, .int (-1), .int (-1), .int 0, .int 0] rfl dX2_init_27 30 rfl ?_
  refine e_aload_n X 0 rfl dX2_init_30 31 rfl ?_
  refine e_iconst (v := 0) X rfl dX2_init_31 32 rfl ?_
  refine e_put X (by omega) z_up_s zv_X2 zi_X2 rfl kf_X2_29 rfl tyX2_ok nmX2 rfl rfl rfl rfl rfl [.ref (b + (h + 1)), .int 0, .int (-1), .int (-1), .int 0, .int 0] rfl dX2_init_32 35 rfl ?_
  refine e_aload_n X 0 rfl dX2_init_35 36 rfl ?_
  refine e_iconst (v := 0) X rfl dX2_init_36 37 rfl ?_
  refine e_put X (by omega) z_up_s zv_X2 zi_X2 rfl kf_X2_32 rfl tyX2_ok nmX2 rfl rfl rfl rfl rfl [.ref (b + (h + 1)), .int 0, .int (-1), .int (-1), .int 0, .int 0] rfl dX2_init_37 40 rfl ?_
  refine e_eq (E1 := z_mk G b E h) (fun k hk9 => ?_) (e_vret X R dX2_init_40)
  rcases (by omega : k < h ∨ k = h ∨ k = (h + 1) ∨ k = (h + 2)) with q | rfl | rfl | rfl
  · exact ((z_up_n (by omega)).trans ((z_up_n (by omega)).trans ((z_up_n (by omega)).trans ((z_up_n (by omega)).trans ((z_up_n (by omega)).trans ((z_up_n (by omega)).trans ((z_mk_lt (by omega)).trans (z_up_n (by omega))))))))).trans (z_mk_lt q).symm
  · exact z_up_s.trans ((z_mk_ge (by omega)).trans (zt_2_0 hk)).symm
  · exact ((z_up_n (by omega)).trans ((z_up_n (by omega)).trans ((z_up_n (by omega)).trans ((z_up_n (by omega)).trans ((z_up_n (by omega)).trans ((z_up_n (by omega)).trans (z_mk_ge (by omega)))))))).trans (z_mk_ge (by omega)).symm
  · exact ((z_up_n (by omega)).trans ((z_up_n (by omega)).trans ((z_up_n (by omega)).trans ((z_up_n (by omega)).trans ((z_up_n (by omega)).trans ((z_up_n (by omega)).trans (z_mk_ge (by omega)))))))).trans (z_mk_ge (by omega)).symm
set_option maxRecDepth 100000 in
set_option maxHeartbeats 1000000 in
theorem tX3_init {l : Launch} (hl : l.stackTraces = false) (G : zG) (b h : Nat) (hk : z_kd h = 3) (E : Nat → va_E) (hE0 : E h = .inr (3, [.null, .null, .null, .null])) : z_MCt l yX3_init cX3_init 1 { frames := 1, cells := 4, slots := 512, locals := 34 } G b [.ref (b + h)] h 5 E 4 512 := by
  refine z_metc (own := RX3) hl (by decide) rfl rfl rfl (fun Γ hΓ X h0 hinit R => ?_)
  subst hΓ
  show GE Γ G b 0 0 (h + 1) E 0 [(0, .ref (b + h))] []
  refine e_aload_n X 0 rfl dX3_init_0 1 rfl ?_
  refine e_obj X kobj_X3_3 ⟨rfl, rfl⟩ dX3_init_1 4 rfl ?_
  refine e_aload_n X 0 rfl dX3_init_4 5 rfl ?_
  refine e_sipush (v := 128) X rfl dX3_init_5 8 rfl ?_
  refine e_newa (nn := 128) (n := 128) (t9 := 0) (c := 8) (ty := .int) (at9 := .int) (a0 := (128, .inl (fun _ => 0))) X h0 (by omega) zo_ar8 rfl rfl (fun _ h => by cases h) (fun _ => rfl) (by decide) rfl rfl ⟨by decide, by decide⟩ dX3_init_8 10 rfl ?_
  refine e_putF X hinit (by omega) ((z_up_n (by omega)).trans hE0) zv_X3 zi_X3 rfl kf_X3_9 rfl rfl tyX3_ok nmX3 rfl rfl rfl rfl rfl [.ref (b + (h + 1)), .null, .null, .null] rfl dX3_init_10 13 rfl ?_
  refine e_aload_n X 0 rfl dX3_init_13 14 rfl ?_
  refine e_sipush (v := 128) X rfl dX3_init_14 17 rfl ?_
  refine e_newa (nn := 128) (n := 128) (t9 := 0) (c := 8) (ty := .int) (at9 := .int) (a0 := (128, .inl (fun _ => 0))) X h0 (by omega) zo_ar8 rfl rfl (fun _ h => by cases h) (fun _ => rfl) (by decide) rfl rfl ⟨by decide, by decide⟩ dX3_init_17 19 rfl ?_
  refine e_putF X hinit (by omega) ((z_up_n (by omega)).trans z_up_s) zv_X3 zi_X3 rfl kf_X3_15 rfl rfl tyX3_ok nmX3 rfl rfl rfl rfl rfl [.ref (b + (h + 1)), .ref (b + (h + 2)), .null, .null] rfl dX3_init_19 22 rfl ?_
  refine e_aload_n X 0 rfl dX3_init_22 23 rfl ?_
  refine e_sipush (v := 128) X rfl dX3_init_23 26 rfl ?_
  refine e_newa (nn := 128) (n := 128) (t9 := 0) (c := 8) (ty := .int) (at9 := .int) (a0 := (128, .inl (fun _ => 0))) X h0 (by omega) zo_ar8 rfl rfl (fun _ h => by cases h) (fun _ => rfl) (by decide) rfl rfl ⟨by decide, by decide⟩ dX3_init_26 28 rfl ?_
  refine e_putF X hinit (by omega) ((z_up_n (by omega)).trans z_up_s) zv_X3 zi_X3 rfl kf_X3_18 rfl rfl tyX3_ok nmX3 rfl rfl rfl rfl rfl [.ref (b + (h + 1)), .ref (b + (h + 2)), .ref (b + (h + 3)), .null] rfl dX3_init_28 31 rfl ?_
  refine e_aload_n X 0 rfl dX3_init_31 32 rfl ?_
  refine e_sipush (v := 128) X rfl dX3_init_32 35 rfl ?_
  refine e_newa (nn := 128) (n := 128) (t9 := 0) (c := 8) (ty := .int) (at9 := .int) (a0 := (128, .inl (fun _ => 0))) X h0 (by omega) zo_ar8 rfl rfl (fun _ h => by cases h) (fun _ => rfl) (by decide) rfl rfl ⟨by decide, by decide⟩ dX3_init_35 37 rfl ?_
  refine e_putF X hinit (by omega) ((z_up_n (by omega)).trans z_up_s) zv_X3 zi_X3 rfl kf_X3_21 rfl rfl tyX3_ok nmX3 rfl rfl rfl rfl rfl [.ref (b + (h + 1)), .ref (b + (h + 2)), .ref (b + (h + 3)), .ref (b + (h + 4))] rfl dX3_init_37 40 rfl ?_
  refine e_eq (E1 := z_mk G b E h) (fun k hk9 => ?_) (e_vret X R dX3_init_40)
  rcases (by omega : k < h ∨ k = h ∨ k = (h + 1) ∨ k = (h + 2) ∨ k = (h + 3) ∨ k = (h + 4)) with q | rfl | rfl | rfl | rfl | rfl
  · exact ((z_up_n (by omega)).trans ((z_up_n (by omega)).trans ((z_up_n (by omega)).trans ((z_up_n (by omega)).trans ((z_up_n (by omega)).trans ((z_up_n (by omega)).trans ((z_up_n (by omega)).trans (z_up_n (by omega))))))))).trans (z_mk_lt q).symm
  · exact z_up_s.trans ((z_mk_ge (by omega)).trans (zt_3_0 hk)).symm
  · exact ((z_up_n (by omega)).trans ((z_up_n (by omega)).trans ((z_up_n (by omega)).trans ((z_up_n (by omega)).trans ((z_up_n (by omega)).trans ((z_up_n (by omega)).trans ((z_up_n (by omega)).trans z_up_s))))))).trans ((z_mk_ge (by omega)).trans (zt_3_1 hk)).symm
  · exact ((z_up_n (by omega)).trans ((z_up_n (by omega)).trans ((z_up_n (by omega)).trans ((z_up_n (by omega)).trans ((z_up_n (by omega)).trans z_up_s))))).trans ((z_mk_ge (by omega)).trans (zt_3_2 hk)).symm
  · exact ((z_up_n (by omega)).trans ((z_up_n (by omega)).trans ((z_up_n (by omega)).trans z_up_s))).trans ((z_mk_ge (by omega)).trans (zt_3_3 hk)).symm
  · exact ((z_up_n (by omega)).trans z_up_s).trans ((z_mk_ge (by omega)).trans (zt_3_4 hk)).symm
set_option maxRecDepth 100000 in
set_option maxHeartbeats 1000000 in
theorem tX1_init {l : Launch} (hl : l.stackTraces = false) (G : zG) (b h : Nat) (hk : z_kd h = 1) (E : Nat → va_E) (hE0 : E h = .inr (1, [.int 0, .null, .null, .null, .int 0, .null])) (a1 : Int32) (he : z_M0 h 0 = a1) : z_MCt l yX1_init cX1_init 2 { frames := 1, cells := 4, slots := 230, locals := 34 } G b [.ref (b + h), .int a1] h 5 E 4 230 := by
  refine z_metc (own := RX1) hl (by decide) rfl rfl rfl (fun Γ hΓ X h0 hinit R => ?_)
  subst hΓ
  show GE Γ G b 0 0 (h + 1) E 0 [(0, .ref (b + h)), (1, .int a1)] []
  refine e_aload_n X 0 rfl dX1_init_0 1 rfl ?_
  refine e_obj X kobj_X1_3 ⟨rfl, rfl⟩ dX1_init_1 4 rfl ?_
  refine e_aload_n X 0 rfl dX1_init_4 5 rfl ?_
  refine e_bipush (v := 66) X rfl dX1_init_5 7 rfl ?_
  refine e_newa (nn := 66) (n := 66) (t9 := 0) (c := 8) (ty := .int) (at9 := .int) (a0 := (66, .inl (fun _ => 0))) X h0 (by omega) zo_ar8 rfl rfl (fun _ h => by cases h) (fun _ => rfl) (by decide) rfl rfl ⟨by decide, by decide⟩ dX1_init_7 9 rfl ?_
  refine e_putF X hinit (by omega) ((z_up_n (by omega)).trans hE0) zv_X1 zi_X1 rfl kf_X1_9 rfl rfl tyX1_ok nmX1 rfl rfl rfl rfl rfl [.int 0, .ref (b + (h + 1)), .null, .null, .int 0, .null] rfl dX1_init_9 12 rfl ?_
  refine e_aload_n X 0 rfl dX1_init_12 13 rfl ?_
  refine e_bipush (v := 66) X rfl dX1_init_13 15 rfl ?_
  refine e_newa (nn := 66) (n := 66) (t9 := 0) (c := 8) (ty := .int) (at9 := .int) (a0 := (66, .inl (fun _ => 0))) X h0 (by omega) zo_ar8 rfl rfl (fun _ h => by cases h) (fun _ => rfl) (by decide) rfl rfl ⟨by decide, by decide⟩ dX1_init_15 17 rfl ?_
  refine e_putF X hinit (by omega) ((z_up_n (by omega)).trans z_up_s) zv_X1 zi_X1 rfl kf_X1_15 rfl rfl tyX1_ok nmX1 rfl rfl rfl rfl rfl [.int 0, .ref (b + (h + 1)), .ref (b + (h + 2)), .null, .int 0, .null] rfl dX1_init_17 20 rfl ?_
  refine e_aload_n X 0 rfl dX1_init_20 21 rfl ?_
  refine e_bipush (v := 66) X rfl dX1_init_21 23 rfl ?_
  refine e_newa (nn := 66) (n := 66) (t9 := 1) (c := 9) (ty := .boolean) (at9 := .boolean) (a0 := (66, .inl (fun _ => 0))) X h0 (by omega) zo_ar9 rfl rfl (fun _ h => by cases h) (fun _ => rfl) (by decide) rfl rfl ⟨by decide, by decide⟩ dX1_init_23 25 rfl ?_
  refine e_putF X hinit (by omega) ((z_up_n (by omega)).trans z_up_s) zv_X1 zi_X1 rfl kf_X1_18 rfl rfl tyX1_ok nmX1 rfl rfl rfl rfl rfl [.int 0, .ref (b + (h + 1)), .ref (b + (h + 2)), .ref (b + (h + 3)), .int 0, .null] rfl dX1_init_25 28 rfl ?_
  refine e_aload_n X 0 rfl dX1_init_28 29 rfl ?_
  refine e_iconst (v := 0) X rfl dX1_init_29 30 rfl ?_
  refine e_put X (by omega) z_up_s zv_X1 zi_X1 rfl kf_X1_22 rfl tyX1_ok nmX1 rfl rfl rfl rfl rfl [.int 0, .ref (b + (h + 1)), .ref (b + (h + 2)), .ref (b + (h + 3)), .int 0, .null] rfl dX1_init_30 33 rfl ?_
  refine e_aload_n X 0 rfl dX1_init_33 34 rfl ?_
  refine e_bipush (v := 32) X rfl dX1_init_34 36 rfl ?_
  refine e_newa (nn := 32) (n := 32) (t9 := 1) (c := 9) (ty := .boolean) (at9 := .boolean) (a0 := (32, .inl (fun _ => 0))) X h0 (by omega) zo_ar9 rfl rfl (fun _ h => by cases h) (fun _ => rfl) (by decide) rfl rfl ⟨by decide, by decide⟩ dX1_init_36 38 rfl ?_
  refine e_putF X hinit (by omega) ((z_up_n (by omega)).trans z_up_s) zv_X1 zi_X1 rfl kf_X1_26 rfl rfl tyX1_ok nmX1 rfl rfl rfl rfl rfl [.int 0, .ref (b + (h + 1)), .ref (b + (h + 2)), .ref (b + (h + 3)), .int 0, .ref (b + (h + 4))] rfl dX1_init_38 41 rfl ?_
  refine e_aload_n X 0 rfl dX1_init_41 42 rfl ?_
  refine e_iload_n X 1 rfl dX1_init_42 43 rfl ?_
  refine e_putFi X hinit (by omega) z_up_s zv_X1 zi_X1 rfl kf_X1_29 rfl rfl tyX1_ok nmX1 rfl rfl rfl rfl rfl [.int a1, .ref (b + (h + 1)), .ref (b + (h + 2)), .ref (b + (h + 3)), .int 0, .ref (b + (h + 4))] rfl dX1_init_43 46 rfl ?_
  refine e_eq (E1 := z_mk G b E h) (fun k hk9 => ?_) (e_vret X R dX1_init_46)
  rcases (by omega : k < h ∨ k = h ∨ k = (h + 1) ∨ k = (h + 2) ∨ k = (h + 3) ∨ k = (h + 4)) with q | rfl | rfl | rfl | rfl | rfl
  · exact ((z_up_n (by omega)).trans ((z_up_n (by omega)).trans ((z_up_n (by omega)).trans ((z_up_n (by omega)).trans ((z_up_n (by omega)).trans ((z_up_n (by omega)).trans ((z_up_n (by omega)).trans ((z_up_n (by omega)).trans ((z_up_n (by omega)).trans (z_up_n (by omega))))))))))).trans (z_mk_lt q).symm
  · exact z_up_s.trans ((z_mk_ge (by omega)).trans (zt_1_0 hk he)).symm
  · exact ((z_up_n (by omega)).trans ((z_up_n (by omega)).trans ((z_up_n (by omega)).trans ((z_up_n (by omega)).trans ((z_up_n (by omega)).trans ((z_up_n (by omega)).trans ((z_up_n (by omega)).trans ((z_up_n (by omega)).trans ((z_up_n (by omega)).trans z_up_s))))))))).trans ((z_mk_ge (by omega)).trans (zt_1_1 hk he)).symm
  · exact ((z_up_n (by omega)).trans ((z_up_n (by omega)).trans ((z_up_n (by omega)).trans ((z_up_n (by omega)).trans ((z_up_n (by omega)).trans ((z_up_n (by omega)).trans ((z_up_n (by omega)).trans z_up_s))))))).trans ((z_mk_ge (by omega)).trans (zt_1_2 hk he)).symm
  · exact ((z_up_n (by omega)).trans ((z_up_n (by omega)).trans ((z_up_n (by omega)).trans ((z_up_n (by omega)).trans ((z_up_n (by omega)).trans z_up_s))))).trans ((z_mk_ge (by omega)).trans (zt_1_3 hk he)).symm
  · exact ((z_up_n (by omega)).trans ((z_up_n (by omega)).trans z_up_s)).trans ((z_mk_ge (by omega)).trans (zt_1_4 hk he)).symm
