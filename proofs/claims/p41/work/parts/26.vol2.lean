set_option maxRecDepth 100000 in
set_option maxHeartbeats 4000000 in
theorem tX5_init {l : Launch} (hl : l.stackTraces = false) (G : zG) (b h : Nat) (hk : z_kd h = 5) (E : Nat → va_E) (hE0 : E h = .inr (5, [.null, .null, .null, .null, .int 0, .int 0, .int 0])) : z_MCt l yX5_init cX5_init 2 z_rmV G b [.ref (b + h)] h 83 E 82 3894 := by
  refine z_metc (own := RX5) hl (by decide) rfl rfl rfl (fun Γ hΓ X h0 hinit R => ?_)
  subst hΓ
  show GE Γ G b 0 0 (h + 1) E 0 [(0, .ref (b + h))] []
  refine e_aload_n X 0 rfl dX5_init_0 1 rfl ?_
  refine e_obj X kobj_X5_3 ⟨rfl, rfl⟩ dX5_init_1 4 rfl ?_
  refine e_aload_n X 0 rfl dX5_init_4 5 rfl ?_
  refine e_bipush (v := 6) X rfl dX5_init_5 7 rfl ?_
  refine e_newq (nn := 6) (n := 6) (t9 := 3) (c := 11) X h0 (by omega) kcl_X5_9 zo_ov_X0 rfl (by decide) rfl rfl ⟨by decide, by decide⟩ dX5_init_7 10 rfl ?_
  refine e_putF X hinit (by omega) ((z_up_n (by omega)).trans hE0) zv_X5 zi_X5 rfl kf_X5_11 rfl rfl tyX5_ok nmX5 rfl rfl rfl rfl rfl [.ref (b + (h + 1)), .null, .null, .null, .int 0, .int 0, .int 0] rfl dX5_init_10 13 rfl ?_
  refine e_aload_n X 0 rfl dX5_init_13 14 rfl ?_
  refine e_bipush (v := 12) X rfl dX5_init_14 16 rfl ?_
  refine e_newq (nn := 12) (n := 12) (t9 := 4) (c := 12) X h0 (by omega) kcl_X5_17 zo_ov_X2 rfl (by decide) rfl rfl ⟨by decide, by decide⟩ dX5_init_16 19 rfl ?_
  refine e_putF X hinit (by omega) ((z_up_n (by omega)).trans z_up_s) zv_X5 zi_X5 rfl kf_X5_19 rfl rfl tyX5_ok nmX5 rfl rfl rfl rfl rfl [.ref (b + (h + 1)), .ref (b + (h + 2)), .null, .null, .int 0, .int 0, .int 0] rfl dX5_init_19 22 rfl ?_
  refine e_aload_n X 0 rfl dX5_init_22 23 rfl ?_
  refine e_new (c := 3) (fs := [.null, .null, .null, .null]) X h0 (by omega) zi_X3 tyX3_ok kcl_X5_23 kin_X3 kini_X3 zv_X3 (fun j hj => by rcases (show j = 0 ∨ j = 1 ∨ j = 2 ∨ j = 3 by omega) with rfl | rfl | rfl | rfl <;> rfl) ⟨by decide, by decide⟩ dX5_init_23 26 rfl ?_
  refine e_dup X rfl dX5_init_26 27 rfl ?_
  refine e_callIN (rest := [.ref (b + (h + 3)), .ref (b + h)]) (h9 := (h + 3)) X h0 ⟨by omega, by omega⟩ (tX3_init hl G b (h + 3) (zk_5_2 hk) (z_up (z_up (z_up (z_up (z_up E (h + 1) (.inl (G.2.2 11, 6, .inr (.inr (.inr (.inr (fun _ => none))))))) h (.inr (5, [.ref (b + (h + 1)), .null, .null, .null, .int 0, .int 0, .int 0]))) (h + 2) (.inl (G.2.2 12, 12, .inr (.inr (.inr (.inr (fun _ => none))))))) h (.inr (5, [.ref (b + (h + 1)), .ref (b + (h + 2)), .null, .null, .int 0, .int 0, .int 0]))) (h + 3) (.inr (3, [.null, .null, .null, .null]))) z_up_s) zy_X3_init zoi_X3 km_X5_25 rfl ⟨rfl, rfl⟩ ⟨rfl, rfl⟩ rfl rfl (Nat.le_of_ble_eq_true rfl) ⟨by decide, by decide⟩ dX5_init_27 30 rfl ?_
  refine e_putF X hinit (by omega) ((z_mk_lt (by omega)).trans ((z_up_n (by omega)).trans z_up_s)) zv_X5 zi_X5 rfl kf_X5_26 rfl rfl tyX5_ok nmX5 rfl rfl rfl rfl rfl [.ref (b + (h + 1)), .ref (b + (h + 2)), .ref (b + (h + 3)), .null, .int 0, .int 0, .int 0] rfl dX5_init_30 33 rfl ?_
  refine e_aload_n X 0 rfl dX5_init_33 34 rfl ?_
  refine e_iconst (v := 4) X rfl dX5_init_34 35 rfl ?_
  refine e_newq (nn := 4) (n := 4) (t9 := 5) (c := 13) X h0 (by omega) kcl_X5_30 zo_ov_X1 rfl (by decide) rfl rfl ⟨by decide, by decide⟩ dX5_init_35 38 rfl ?_
  refine e_putF X hinit (by omega) ((z_up_n (by omega)).trans z_up_s) zv_X5 zi_X5 rfl kf_X5_32 rfl rfl tyX5_ok nmX5 rfl rfl rfl rfl rfl [.ref (b + (h + 1)), .ref (b + (h + 2)), .ref (b + (h + 3)), .ref (b + (h + 8)), .int 0, .int 0, .int 0] rfl dX5_init_38 41 rfl ?_
  refine e_aload_n X 0 rfl dX5_init_41 42 rfl ?_
  refine e_iconst (v := 1) X rfl dX5_init_42 43 rfl ?_
  refine e_put X (by omega) z_up_s zv_X5 zi_X5 rfl kf_X5_36 rfl tyX5_ok nmX5 rfl rfl rfl rfl rfl [.ref (b + (h + 1)), .ref (b + (h + 2)), .ref (b + (h + 3)), .ref (b + (h + 8)), .int 1, .int 0, .int 0] rfl dX5_init_43 46 rfl ?_
  refine e_aload_n X 0 rfl dX5_init_46 47 rfl ?_
  refine e_iconst (v := 0) X rfl dX5_init_47 48 rfl ?_
  refine e_put X (by omega) z_up_s zv_X5 zi_X5 rfl kf_X5_40 rfl tyX5_ok nmX5 rfl rfl rfl rfl rfl [.ref (b + (h + 1)), .ref (b + (h + 2)), .ref (b + (h + 3)), .ref (b + (h + 8)), .int 1, .int 0, .int 0] rfl dX5_init_48 51 rfl ?_
  refine e_aload_n X 0 rfl dX5_init_51 52 rfl ?_
  refine e_iconst (v := 0) X rfl dX5_init_52 53 rfl ?_
  refine e_put X (by omega) z_up_s zv_X5 zi_X5 rfl kf_X5_43 rfl tyX5_ok nmX5 rfl rfl rfl rfl rfl [.ref (b + (h + 1)), .ref (b + (h + 2)), .ref (b + (h + 3)), .ref (b + (h + 8)), .int 1, .int 0, .int 0] rfl dX5_init_53 56 rfl ?_
  refine e_im (E1 := z_up (z_up (z_up (z_up (z_up (z_up (z_up (z_up (z_up (z_mk G b (z_up (z_up (z_up (z_up (z_up E (h + 1) (.inl (G.2.2 11, 6, .inr (.inr (.inr (.inr (fun _ => none))))))) h (.inr (5, [.ref (b + (h + 1)), .null, .null, .null, .int 0, .int 0, .int 0]))) (h + 2) (.inl (G.2.2 12, 12, .inr (.inr (.inr (.inr (fun _ => none))))))) h (.inr (5, [.ref (b + (h + 1)), .ref (b + (h + 2)), .null, .null, .int 0, .int 0, .int 0]))) (h + 3) (.inr (3, [.null, .null, .null, .null]))) (h + 3)) h (.inr (5, [.ref (b + (h + 1)), .ref (b + (h + 2)), .ref (b + (h + 3)), .null, .int 0, .int 0, .int 0]))) (h + 8) (.inl (G.2.2 13, 4, .inr (.inr (.inr (.inr (fun _ => none))))))) h (.inr (5, [.ref (b + (h + 1)), .ref (b + (h + 2)), .ref (b + (h + 3)), .ref (b + (h + 8)), .int 0, .int 0, .int 0]))) h (.inr (5, [.ref (b + (h + 1)), .ref (b + (h + 2)), .ref (b + (h + 3)), .ref (b + (h + 8)), .int 1, .int 0, .int 0]))) h (.inr (5, [.ref (b + (h + 1)), .ref (b + (h + 2)), .ref (b + (h + 3)), .ref (b + (h + 8)), .int 1, .int 0, .int 0]))) h (.inr (5, [.ref (b + (h + 1)), .ref (b + (h + 2)), .ref (b + (h + 3)), .ref (b + (h + 8)), .int 1, .int 0, .int 0]))) (h + 1) (z_A G b 11 (h + 1) 6 0)) (h + 2) (z_A G b 12 (h + 2) 12 0)) (h + 8) (z_A G b 13 (h + 8) 4 0)) (fun k hk9 H hat => ?_) ?_
  · by_cases q3 : k = h + 8
    · subst q3
      rw [z_up_s]
      rw [((z_up_n (by omega)).trans ((z_up_n (by omega)).trans ((z_up_n (by omega)).trans ((z_up_n (by omega)).trans z_up_s))))] at hat
      exact z_A0 hat
    · rw [z_up_n q3]
      by_cases q2 : k = h + 2
      · subst q2
        rw [z_up_s]
        rw [((z_up_n (by omega)).trans ((z_up_n (by omega)).trans ((z_up_n (by omega)).trans ((z_up_n (by omega)).trans ((z_up_n (by omega)).trans ((z_up_n (by omega)).trans ((z_mk_lt (by omega)).trans ((z_up_n (by omega)).trans ((z_up_n (by omega)).trans z_up_s)))))))))] at hat
        exact z_A0 hat
      · rw [z_up_n q2]
        by_cases q1 : k = h + 1
        · subst q1
          rw [z_up_s]
          rw [((z_up_n (by omega)).trans ((z_up_n (by omega)).trans ((z_up_n (by omega)).trans ((z_up_n (by omega)).trans ((z_up_n (by omega)).trans ((z_up_n (by omega)).trans ((z_mk_lt (by omega)).trans ((z_up_n (by omega)).trans ((z_up_n (by omega)).trans ((z_up_n (by omega)).trans ((z_up_n (by omega)).trans z_up_s)))))))))))] at hat
          exact z_A0 hat
        · rw [z_up_n q1]
          exact hat
  have hJ : z_J G b h E 0 0 0 (h + 9 + 3 * 0) (z_up (z_up (z_up (z_up (z_up (z_up (z_up (z_up (z_up (z_mk G b (z_up (z_up (z_up (z_up (z_up E (h + 1) (.inl (G.2.2 11, 6, .inr (.inr (.inr (.inr (fun _ => none))))))) h (.inr (5, [.ref (b + (h + 1)), .null, .null, .null, .int 0, .int 0, .int 0]))) (h + 2) (.inl (G.2.2 12, 12, .inr (.inr (.inr (.inr (fun _ => none))))))) h (.inr (5, [.ref (b + (h + 1)), .ref (b + (h + 2)), .null, .null, .int 0, .int 0, .int 0]))) (h + 3) (.inr (3, [.null, .null, .null, .null]))) (h + 3)) h (.inr (5, [.ref (b + (h + 1)), .ref (b + (h + 2)), .ref (b + (h + 3)), .null, .int 0, .int 0, .int 0]))) (h + 8) (.inl (G.2.2 13, 4, .inr (.inr (.inr (.inr (fun _ => none))))))) h (.inr (5, [.ref (b + (h + 1)), .ref (b + (h + 2)), .ref (b + (h + 3)), .ref (b + (h + 8)), .int 0, .int 0, .int 0]))) h (.inr (5, [.ref (b + (h + 1)), .ref (b + (h + 2)), .ref (b + (h + 3)), .ref (b + (h + 8)), .int 1, .int 0, .int 0]))) h (.inr (5, [.ref (b + (h + 1)), .ref (b + (h + 2)), .ref (b + (h + 3)), .ref (b + (h + 8)), .int 1, .int 0, .int 0]))) h (.inr (5, [.ref (b + (h + 1)), .ref (b + (h + 2)), .ref (b + (h + 3)), .ref (b + (h + 8)), .int 1, .int 0, .int 0]))) (h + 1) (z_A G b 11 (h + 1) 6 0)) (h + 2) (z_A G b 12 (h + 2) 12 0)) (h + 8) (z_A G b 13 (h + 8) 4 0)) := by
    refine ⟨fun k q => ?_, ?_, ?_, ?_, ?_, fun k q1 q2 q3 => ?_⟩
    · exact (z_up_n (by omega)).trans ((z_up_n (by omega)).trans ((z_up_n (by omega)).trans ((z_up_n (by omega)).trans ((z_up_n (by omega)).trans ((z_up_n (by omega)).trans ((z_up_n (by omega)).trans ((z_up_n (by omega)).trans ((z_up_n (by omega)).trans ((z_mk_lt (by omega)).trans ((z_up_n (by omega)).trans ((z_up_n (by omega)).trans ((z_up_n (by omega)).trans ((z_up_n (by omega)).trans (z_up_n (by omega)))))))))))))))
    · exact (z_up_n (by omega)).trans ((z_up_n (by omega)).trans ((z_up_n (by omega)).trans z_up_s))
    · exact (z_up_n (by omega)).trans ((z_up_n (by omega)).trans z_up_s)
    · exact (z_up_n (by omega)).trans z_up_s
    · exact z_up_s
    · exact (z_up_n (by omega)).trans ((z_up_n (by omega)).trans ((z_up_n (by omega)).trans ((z_up_n (by omega)).trans ((z_up_n (by omega)).trans ((z_up_n (by omega)).trans ((z_up_n (by omega)).trans ((z_up_n (by omega)).trans ((z_up_n (by omega)).trans (z_mk_ge (by omega))))))))))
  refine e_iconst (v := 0) X rfl dX5_init_56 57 rfl ?_
  refine e_istore_n X dX5_init_57 58 rfl [(0, .ref (b + h)), (1, .int 0)] (by decide) [1, 0] rfl ?_
  refine e_cs (e_vloop1 hl G b h hk E X h0 (fun E1 hJ1 => ?_) 6 0 (by omega) _ hJ) (by omega) (by omega) (by omega)
  refine e_iconst (v := 0) X rfl dX5_init_92 93 rfl ?_
  refine e_istore_n X dX5_init_93 94 rfl [(0, .ref (b + h)), (1, .int 0)] (by decide) [1, 0] rfl ?_
  refine e_cs (e_vloop2 hl G b h hk E X h0 (fun E2 hJ2 => ?_) 12 0 (by omega) E1 hJ1) (by omega) (by omega) (by omega)
  refine e_iconst (v := 0) X rfl dX5_init_119 120 rfl ?_
  refine e_istore_n X dX5_init_120 121 rfl [(0, .ref (b + h)), (1, .int 0)] (by decide) [1, 0] rfl ?_
  refine e_cs (e_vloop3 hl G b h hk E X h0 (fun E3 hJ3 => ?_) 4 0 (by omega) E2 hJ2) (by omega) (by omega) (by omega)
  refine e_eq (E1 := z_mk G b E h) (fun k hk9 => ?_) (e_sub [] [] rfl (e_vret X R dX5_init_149))
  obtain ⟨j1, j2, j3, j4, j5, j6⟩ := hJ3
  by_cases q : k < h
  · exact (j1 k q).trans (z_mk_lt q).symm
  · rw [z_mk_ge q]
    rcases (show k = h ∨ k = h + 1 ∨ k = h + 2 ∨ k = h + 8 ∨ (h + 3 ≤ k ∧ k ≠ h + 8) by omega) with rfl | rfl | rfl | rfl | q2
    · exact j2.trans (zt_5_0 hk).symm
    · rw [j3, z_ent_a (zk_5_0 hk) (by decide), zn_5_0 hk]
      unfold z_A
      rw [z_An]
      rfl
    · rw [j4, z_ent_a (zk_5_1 hk) (by decide), zn_5_1 hk]
      unfold z_A
      rw [z_An]
      rfl
    · rw [j5, z_ent_a (zk_5_3 hk) (by decide), zn_5_3 hk]
      unfold z_A
      rw [z_An]
      rfl
    · exact j6 k q2.1 (by omega) q2.2
