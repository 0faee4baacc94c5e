set_option maxRecDepth 100000 in
set_option maxHeartbeats 1000000 in
theorem tX1_markChanges {l : Launch} (hl : l.stackTraces = false) (G : zG) (b : Nat) (t0 : Nat) (ht0 : z_kd t0 = 1) (a1 : Nat) (ha1 : z_kd a1 = 3) (a2 : Nat) (ha2 : z_kd a2 = 3) (M : zM) {M9 : zM} (h : fX1_markChanges t0 a1 a2 M = some M9) : z_MN l yX1_markChanges cX1_markChanges 4 none { frames := 2, cells := 0, slots := 0, locals := 41 } G b [.ref (b + t0), .ref (b + a1), .ref (b + a2)] M none M9 := by
  refine z_met (own := RX1) hl (by decide) rfl rfl (fun Γ hΓ X R => ?_)
  subst hΓ
  show GW Γ G b 0 0 M 0 [(0, .ref (b + t0)), (1, .ref (b + a1)), (2, .ref (b + a2))] []
  unfold fX1_markChanges at h
  refine r_iconst (v := 0) X rfl dX1_markChanges_0 1 rfl ?_
  refine r_istore_n X dX1_markChanges_1 2 rfl [(0, .ref (b + t0)), (1, .ref (b + a1)), (2, .ref (b + a2)), (3, .int 0)] (by decide) [1, 2, 3, 0] rfl ?_
  obtain ⟨M3, hL4, h⟩ := z_bd h
  have hK4 : GW Γ G b 0 0 M3 51 [] [] := by
    cases h
    exact r_vret X R dX1_markChanges_51
  clear h
  refine z_loopP (fun (s : (Int32 × zM)) => GW Γ G b 0 0 s.2 2 [(0, .ref (b + t0)), (1, .ref (b + a1)), (2, .ref (b + a2)), (3, .int s.1)] []) (fun s q4 hb hP4 hx4 => ?_) _ _ hL4
  obtain ⟨x1, M2⟩ := s
  have h : fX1_markChanges_L1 t0 a1 a2 x1 M2 = some q4 := hb
  unfold fX1_markChanges_L1 at h
  refine r_iload_n X 3 rfl dX1_markChanges_2 3 rfl ?_
  refine r_bipush (v := 32) X rfl dX1_markChanges_3 5 rfl ?_
  refine r_icmp_ge X dX1_markChanges_5 51 (by decide) 8 rfl (fun c5 => ?_) (fun c5 => ?_)
  · have h := z_it c5 h
    refine r_sub [] [] rfl ?_
    have e := hx4 _ (Option.some.inj h).symm
    cases e
    exact hK4
  · have h := z_ie c5 h
    refine r_aload_n X 0 rfl dX1_markChanges_8 9 rfl ?_
    refine r_get (v := .ref (b + (t0 + 4))) X ht0 rfl zv_X1 zi_X1 rfl kf_X1_26 rfl rfl dX1_markChanges_9 12 rfl ?_
    refine r_iload_n X 3 rfl dX1_markChanges_12 13 rfl ?_
    refine r_aload_n X 1 rfl dX1_markChanges_13 14 rfl ?_
    refine r_aload_n X 0 rfl dX1_markChanges_14 15 rfl ?_
    refine r_get (v := .int (M2 t0 0)) X ht0 rfl zv_X1 zi_X1 rfl kf_X1_29 rfl rfl dX1_markChanges_15 18 rfl ?_
    refine r_iload_n X 3 rfl dX1_markChanges_18 19 rfl ?_
    refine r_iadd X dX1_markChanges_19 20 rfl ?_
    obtain ⟨x6, e6, h⟩ := z_bd h
    refine r_callVN (rest := [.int x1, .ref (b + (t0 + 4))]) X (tX3_isAllocated hl G b a1 ha1 ((M2 t0 0) + x1) M2 e6) zy_X3_isAllocated zw_X3_isAllocated km_X1_52 ha1 rfl zv_X3 rfl ⟨rfl, rfl⟩ ⟨rfl, rfl⟩ rfl rfl (Nat.le_of_ble_eq_true rfl) ⟨Nat.zero_le _, Nat.zero_le _⟩ dX1_markChanges_20 23 rfl [.int x6, .int x1, .ref (b + (t0 + 4))] rfl ?_
    refine r_if_eq X dX1_markChanges_23 43 (by decide) 26 rfl (fun c7 => ?_) (fun c7 => ?_)
    · have h := z_it c7 h
      refine r_iconst (v := 0) X rfl dX1_markChanges_43 44 rfl ?_
      obtain ⟨M8, e8, h⟩ := z_bd h
      refine r_zastore X (zk_1_5 ht0) (zn_1_5 ht0) e8 dX1_markChanges_44 45 rfl ?_
      refine r_iinc X dX1_markChanges_45 48 rfl [(0, .ref (b + t0)), (1, .ref (b + a1)), (2, .ref (b + a2)), (3, .int (x1 + 1))] (by decide) 3 rfl (x1 + 1) rfl [1, 2, 3, 0] rfl ?_
      refine r_goto X dX1_markChanges_48 2 (by decide) ?_
      exact hP4 ((x1 + 1), M8) (Option.some.inj h).symm
    · have h := z_ie c7 h
      refine r_aload_n X 2 rfl dX1_markChanges_26 27 rfl ?_
      refine r_aload_n X 0 rfl dX1_markChanges_27 28 rfl ?_
      refine r_get (v := .int (M2 t0 0)) X ht0 rfl zv_X1 zi_X1 rfl kf_X1_29 rfl rfl dX1_markChanges_28 31 rfl ?_
      refine r_iload_n X 3 rfl dX1_markChanges_31 32 rfl ?_
      refine r_iadd X dX1_markChanges_32 33 rfl ?_
      obtain ⟨x9, e9, h⟩ := z_bd h
      refine r_callVN (rest := [.int x1, .ref (b + (t0 + 4))]) X (tX3_isAllocated hl G b a2 ha2 ((M2 t0 0) + x1) M2 e9) zy_X3_isAllocated zw_X3_isAllocated km_X1_52 ha2 rfl zv_X3 rfl ⟨rfl, rfl⟩ ⟨rfl, rfl⟩ rfl rfl (Nat.le_of_ble_eq_true rfl) ⟨Nat.zero_le _, Nat.zero_le _⟩ dX1_markChanges_33 36 rfl [.int x9, .int x1, .ref (b + (t0 + 4))] rfl ?_
      refine r_if_ne X dX1_markChanges_36 43 (by decide) 39 rfl (fun c10 => ?_) (fun c10 => ?_)
      · have h := z_ie c10 h
        refine r_iconst (v := 0) X rfl dX1_markChanges_43 44 rfl ?_
        obtain ⟨M12, e12, h⟩ := z_bd h
        refine r_zastore X (zk_1_5 ht0) (zn_1_5 ht0) e12 dX1_markChanges_44 45 rfl ?_
        refine r_iinc X dX1_markChanges_45 48 rfl [(0, .ref (b + t0)), (1, .ref (b + a1)), (2, .ref (b + a2)), (3, .int (x1 + 1))] (by decide) 3 rfl (x1 + 1) rfl [1, 2, 3, 0] rfl ?_
        refine r_goto X dX1_markChanges_48 2 (by decide) ?_
        exact hP4 ((x1 + 1), M12) (Option.some.inj h).symm
      · have h := z_it c10 h
        refine r_iconst (v := 1) X rfl dX1_markChanges_39 40 rfl ?_
        refine r_goto X dX1_markChanges_40 44 (by decide) ?_
        obtain ⟨M11, e11, h⟩ := z_bd h
        refine r_zastore X (zk_1_5 ht0) (zn_1_5 ht0) e11 dX1_markChanges_44 45 rfl ?_
        refine r_iinc X dX1_markChanges_45 48 rfl [(0, .ref (b + t0)), (1, .ref (b + a1)), (2, .ref (b + a2)), (3, .int (x1 + 1))] (by decide) 3 rfl (x1 + 1) rfl [1, 2, 3, 0] rfl ?_
        refine r_goto X dX1_markChanges_48 2 (by decide) ?_
        exact hP4 ((x1 + 1), M11) (Option.some.inj h).symm
set_option maxRecDepth 100000 in
set_option maxHeartbeats 1000000 in
theorem tX1_isEntry {l : Launch} (hl : l.stackTraces = false) (G : zG) (b : Nat) (a0 : Int32) (M : zM) {r9 : Int32} (h : fX1_isEntry a0 M = some r9) : z_MN l yX1_isEntry cX1_isEntry 1 (some .boolean) { frames := 0, cells := 0, slots := 0, locals := 0 } G b [.int a0] M (some (.int r9)) M := by
  refine z_met (own := RX1) hl (by decide) rfl rfl (fun Γ hΓ X R => ?_)
  subst hΓ
  show GW Γ G b 0 0 M 0 [(0, .int a0)] []
  unfold fX1_isEntry at h
  refine r_iload_n X 0 rfl dX1_isEntry_0 1 rfl ?_
  refine r_if_lt X dX1_isEntry_1 14 (by decide) 4 rfl (fun c1 => ?_) (fun c1 => ?_)
  · have h := z_it c1 h
    refine r_iconst (v := 0) X rfl dX1_isEntry_14 15 rfl ?_
    cases h
    exact r_iret X R rfl dX1_isEntry_15
  · have h := z_ie c1 h
    refine r_iload_n X 0 rfl dX1_isEntry_4 5 rfl ?_
    refine r_bipush (v := 66) X rfl dX1_isEntry_5 7 rfl ?_
    refine r_icmp_ge X dX1_isEntry_7 14 (by decide) 10 rfl (fun c2 => ?_) (fun c2 => ?_)
    · have h := z_it c2 h
      refine r_iconst (v := 0) X rfl dX1_isEntry_14 15 rfl ?_
      cases h
      exact r_iret X R rfl dX1_isEntry_15
    · have h := z_ie c2 h
      refine r_iconst (v := 1) X rfl dX1_isEntry_10 11 rfl ?_
      refine r_goto X dX1_isEntry_11 15 (by decide) ?_
      cases h
      exact r_iret X R rfl dX1_isEntry_15
set_option maxRecDepth 100000 in
set_option maxHeartbeats 1000000 in
theorem tX1_append {l : Launch} (hl : l.stackTraces = false) (G : zG) (b : Nat) (t0 : Nat) (ht0 : z_kd t0 = 1) (a1 : Int32) (a2 : Int32) (a3 : Int32) (M : zM) {M9 : zM} (h : fX1_append t0 a1 a2 a3 M = some M9) : z_MN l yX1_append cX1_append 4 none { frames := 1, cells := 0, slots := 0, locals := 20 } G b [.ref (b + t0), .int a1, .int a2, .int a3] M none M9 := by
  refine z_met (own := RX1) hl (by decide) rfl rfl (fun Γ hΓ X R => ?_)
  subst hΓ
  show GW Γ G b 0 0 M 0 [(0, .ref (b + t0)), (1, .int a1), (2, .int a2), (3, .int a3)] []
  unfold fX1_append at h
  refine r_iload_n X 2 rfl dX1_append_0 1 rfl ?_
  refine r_if_le X dX1_append_1 54 (by decide) 4 rfl (fun c1 => ?_) (fun c1 => ?_)
  · have h := z_it c1 h
    cases h
    exact r_vret X R dX1_append_54
  · have h := z_ie c1 h
    refine r_aload_n X 0 rfl dX1_append_4 5 rfl ?_
    refine r_get (v := .int (M t0 4)) X ht0 rfl zv_X1 zi_X1 rfl kf_X1_22 rfl rfl dX1_append_5 8 rfl ?_
    obtain ⟨x2, e2, h⟩ := z_bd h
    refine r_callS (rest := []) X (tX1_isEntry hl G b (M t0 4) M e2) zy_X1_isEntry zs_X1_isEntry km_X1_32 rfl ⟨rfl, rfl⟩ ⟨rfl, rfl⟩ rfl rfl (Nat.le_of_ble_eq_true rfl) ⟨Nat.zero_le _, Nat.zero_le _⟩ dX1_append_8 11 rfl [.int x2] rfl ?_
    refine r_if_eq X dX1_append_11 54 (by decide) 14 rfl (fun c3 => ?_) (fun c3 => ?_)
    · have h := z_it c3 h
      cases h
      exact r_vret X R dX1_append_54
    · have h := z_ie c3 h
      refine r_aload_n X 0 rfl dX1_append_14 15 rfl ?_
      refine r_get (v := .ref (b + (t0 + 1))) X ht0 rfl zv_X1 zi_X1 rfl kf_X1_9 rfl rfl dX1_append_15 18 rfl ?_
      refine r_aload_n X 0 rfl dX1_append_18 19 rfl ?_
      refine r_get (v := .int (M t0 4)) X ht0 rfl zv_X1 zi_X1 rfl kf_X1_22 rfl rfl dX1_append_19 22 rfl ?_
      refine r_iload_n X 1 rfl dX1_append_22 23 rfl ?_
      obtain ⟨M4, e4, h⟩ := z_bd h
      refine r_iastore X (zk_1_1 ht0) (zn_1_1 ht0) e4 dX1_append_23 24 rfl ?_
      refine r_aload_n X 0 rfl dX1_append_24 25 rfl ?_
      refine r_get (v := .ref (b + (t0 + 2))) X ht0 rfl zv_X1 zi_X1 rfl kf_X1_15 rfl rfl dX1_append_25 28 rfl ?_
      refine r_aload_n X 0 rfl dX1_append_28 29 rfl ?_
      refine r_get (v := .int (M4 t0 4)) X ht0 rfl zv_X1 zi_X1 rfl kf_X1_22 rfl rfl dX1_append_29 32 rfl ?_
      refine r_iload_n X 2 rfl dX1_append_32 33 rfl ?_
      obtain ⟨M5, e5, h⟩ := z_bd h
      refine r_iastore X (zk_1_2 ht0) (zn_1_2 ht0) e5 dX1_append_33 34 rfl ?_
      refine r_aload_n X 0 rfl dX1_append_34 35 rfl ?_
      refine r_get (v := .ref (b + (t0 + 3))) X ht0 rfl zv_X1 zi_X1 rfl kf_X1_18 rfl rfl dX1_append_35 38 rfl ?_
      refine r_aload_n X 0 rfl dX1_append_38 39 rfl ?_
      refine r_get (v := .int (M5 t0 4)) X ht0 rfl zv_X1 zi_X1 rfl kf_X1_22 rfl rfl dX1_append_39 42 rfl ?_
      refine r_iload_n X 3 rfl dX1_append_42 43 rfl ?_
      obtain ⟨M6, e6, h⟩ := z_bd h
      refine r_zastore X (zk_1_3 ht0) (zn_1_3 ht0) e6 dX1_append_43 44 rfl ?_
      refine r_aload_n X 0 rfl dX1_append_44 45 rfl ?_
      refine r_dup X rfl dX1_append_45 46 rfl ?_
      refine r_get (v := .int (M6 t0 4)) X ht0 rfl zv_X1 zi_X1 rfl kf_X1_22 rfl rfl dX1_append_46 49 rfl ?_
      refine r_iconst (v := 1) X rfl dX1_append_49 50 rfl ?_
      refine r_iadd X dX1_append_50 51 rfl ?_
      obtain ⟨M7, e7, h⟩ := z_bd h
      refine r_put X ht0 rfl zv_X1 zi_X1 rfl kf_X1_22 rfl tyX1_ok nmX1 rfl rfl rfl rfl rfl rfl (Option.some.inj e7) dX1_append_51 54 rfl ?_
      cases h
      exact r_vret X R dX1_append_54
set_option maxRecDepth 100000 in
set_option maxHeartbeats 1000000 in
theorem tX1_appendMarkedRuns {l : Launch} (hl : l.stackTraces = false) (G : zG) (b : Nat) (t0 : Nat) (ht0 : z_kd t0 = 1) (a1 : Int32) (M : zM) {M9 : zM} (h : fX1_appendMarkedRuns t0 a1 M = some M9) : z_MN l yX1_appendMarkedRuns cX1_appendMarkedRuns 4 none { frames := 2, cells := 0, slots := 0, locals := 43 } G b [.ref (b + t0), .int a1] M none M9 := by
  refine z_met (own := RX1) hl (by decide) rfl rfl (fun Γ hΓ X R => ?_)
  subst hΓ
  show GW Γ G b 0 0 M 0 [(0, .ref (b + t0)), (1, .int a1)] []
  unfold fX1_appendMarkedRuns at h
  refine r_iconst (v := 0) X rfl dX1_appendMarkedRuns_0 1 rfl ?_
  refine r_istore_n X dX1_appendMarkedRuns_1 2 rfl [(0, .ref (b + t0)), (1, .int a1), (2, .int 0)] (by decide) [1, 2, 0] rfl ?_
  refine r_iconst (v := 0) X rfl dX1_appendMarkedRuns_2 3 rfl ?_
  refine r_istore_n X dX1_appendMarkedRuns_3 4 rfl [(0, .ref (b + t0)), (1, .int a1), (2, .int 0), (3, .int 0)] (by decide) [1, 2, 3, 0] rfl ?_
  obtain ⟨x4, M5, hL6, h⟩ := z_bd2 h
  have hK6 : GW Γ G b 0 0 M5 47 [(0, .ref (b + t0)), (1, .int a1), (2, .int x4)] [] := by
    refine r_aload_n X 0 rfl dX1_appendMarkedRuns_47 48 rfl ?_
    refine r_aload_n X 0 rfl dX1_appendMarkedRuns_48 49 rfl ?_
    refine r_get (v := .int (M5 t0 0)) X ht0 rfl zv_X1 zi_X1 rfl kf_X1_29 rfl rfl dX1_appendMarkedRuns_49 52 rfl ?_
    refine r_bipush (v := 32) X rfl dX1_appendMarkedRuns_52 54 rfl ?_
    refine r_iadd X dX1_appendMarkedRuns_54 55 rfl ?_
    refine r_iload_n X 2 rfl dX1_appendMarkedRuns_55 56 rfl ?_
    refine r_isub X dX1_appendMarkedRuns_56 57 rfl ?_
    refine r_iload_n X 2 rfl dX1_appendMarkedRuns_57 58 rfl ?_
    refine r_iload_n X 1 rfl dX1_appendMarkedRuns_58 59 rfl ?_
    obtain ⟨M7, e7, h⟩ := z_bd h
    refine r_callV (rest := []) X (tX1_append hl G b t0 ht0 (((M5 t0 0) + 32) - x4) x4 a1 M5 e7) zy_X1_append zw_X1_append km_X1_57 ht0 rfl zv_X1 rfl ⟨rfl, rfl⟩ ⟨rfl, rfl⟩ rfl rfl (Nat.le_of_ble_eq_true rfl) ⟨Nat.zero_le _, Nat.zero_le _⟩ dX1_appendMarkedRuns_59 62 rfl [] rfl ?_
    cases h
    exact r_vret X R dX1_appendMarkedRuns_62
  clear h
  refine z_loopP (fun (s : (Int32 × Int32 × zM)) => GW Γ G b 0 0 s.2.2 4 [(0, .ref (b + t0)), (1, .int a1), (2, .int s.1), (3, .int s.2.1)] []) (fun s q6 hb hP6 hx6 => ?_) _ _ hL6
  obtain ⟨x1, x2, M3⟩ := s
  have h : fX1_appendMarkedRuns_L1 t0 a1 x1 x2 M3 = some q6 := hb
  unfold fX1_appendMarkedRuns_L1 at h
  refine r_iload_n X 3 rfl dX1_appendMarkedRuns_4 5 rfl ?_
  refine r_bipush (v := 32) X rfl dX1_appendMarkedRuns_5 7 rfl ?_
  refine r_icmp_ge X dX1_appendMarkedRuns_7 47 (by decide) 10 rfl (fun c8 => ?_) (fun c8 => ?_)
  · have h := z_it c8 h
    refine r_sub [(0, .ref (b + t0)), (1, .int a1), (2, .int x1)] [0, 1, 2] rfl ?_
    have e := hx6 _ (Option.some.inj h).symm
    cases e
    exact hK6
  · have h := z_ie c8 h
    refine r_aload_n X 0 rfl dX1_appendMarkedRuns_10 11 rfl ?_
    refine r_get (v := .ref (b + (t0 + 4))) X ht0 rfl zv_X1 zi_X1 rfl kf_X1_26 rfl rfl dX1_appendMarkedRuns_11 14 rfl ?_
    refine r_iload_n X 3 rfl dX1_appendMarkedRuns_14 15 rfl ?_
    obtain ⟨x9, e9, h⟩ := z_bd h
    refine r_zaload X (zk_1_5 ht0) (zn_1_5 ht0) e9 dX1_appendMarkedRuns_15 16 rfl ?_
    refine r_if_eq X dX1_appendMarkedRuns_16 25 (by decide) 19 rfl (fun c10 => ?_) (fun c10 => ?_)
    · have h := z_it c10 h
      refine r_aload_n X 0 rfl dX1_appendMarkedRuns_25 26 rfl ?_
      refine r_aload_n X 0 rfl dX1_appendMarkedRuns_26 27 rfl ?_
      refine r_get (v := .int (M3 t0 0)) X ht0 rfl zv_X1 zi_X1 rfl kf_X1_29 rfl rfl dX1_appendMarkedRuns_27 30 rfl ?_
      refine r_iload_n X 3 rfl dX1_appendMarkedRuns_30 31 rfl ?_
      refine r_iadd X dX1_appendMarkedRuns_31 32 rfl ?_
      refine r_iload_n X 2 rfl dX1_appendMarkedRuns_32 33 rfl ?_
      refine r_isub X dX1_appendMarkedRuns_33 34 rfl ?_
      refine r_iload_n X 2 rfl dX1_appendMarkedRuns_34 35 rfl ?_
      refine r_iload_n X 1 rfl dX1_appendMarkedRuns_35 36 rfl ?_
      obtain ⟨M11, e11, h⟩ := z_bd h
      refine r_callV (rest := []) X (tX1_append hl G b t0 ht0 (((M3 t0 0) + x2) - x1) x1 a1 M3 e11) zy_X1_append zw_X1_append km_X1_57 ht0 rfl zv_X1 rfl ⟨rfl, rfl⟩ ⟨rfl, rfl⟩ rfl rfl (Nat.le_of_ble_eq_true rfl) ⟨Nat.zero_le _, Nat.zero_le _⟩ dX1_appendMarkedRuns_36 39 rfl [] rfl ?_
      refine r_iconst (v := 0) X rfl dX1_appendMarkedRuns_39 40 rfl ?_
      refine r_istore_n X dX1_appendMarkedRuns_40 41 rfl [(0, .ref (b + t0)), (1, .int a1), (2, .int 0), (3, .int x2)] (by decide) [1, 2, 0, 3] rfl ?_
      refine r_iinc X dX1_appendMarkedRuns_41 44 rfl [(0, .ref (b + t0)), (1, .int a1), (2, .int 0), (3, .int (x2 + 1))] (by decide) 3 rfl (x2 + 1) rfl [1, 2, 3, 0] rfl ?_
      refine r_goto X dX1_appendMarkedRuns_44 4 (by decide) ?_
      exact hP6 (0, (x2 + 1), M11) (Option.some.inj h).symm
    · have h := z_ie c10 h
      refine r_iinc X dX1_appendMarkedRuns_19 22 rfl [(0, .ref (b + t0)), (1, .int a1), (2, .int (x1 + 1)), (3, .int x2)] (by decide) 2 rfl (x1 + 1) rfl [1, 2, 0, 3] rfl ?_
      refine r_goto X dX1_appendMarkedRuns_22 41 (by decide) ?_
      refine r_iinc X dX1_appendMarkedRuns_41 44 rfl [(0, .ref (b + t0)), (1, .int a1), (2, .int (x1 + 1)), (3, .int (x2 + 1))] (by decide) 3 rfl (x2 + 1) rfl [1, 2, 3, 0] rfl ?_
      refine r_goto X dX1_appendMarkedRuns_44 4 (by decide) ?_
      exact hP6 ((x1 + 1), (x2 + 1), M3) (Option.some.inj h).symm
set_option maxRecDepth 100000 in
set_option maxHeartbeats 1000000 in
theorem tX1_markAllocated {l : Launch} (hl : l.stackTraces = false) (G : zG) (b : Nat) (t0 : Nat) (ht0 : z_kd t0 = 1) (a1 : Nat) (ha1 : z_kd a1 = 3) (M : zM) {M9 : zM} (h : fX1_markAllocated t0 a1 M = some M9) : z_MN l yX1_markAllocated cX1_markAllocated 3 none { frames := 2, cells := 0, slots := 0, locals := 41 } G b [.ref (b + t0), .ref (b + a1)] M none M9 := by
  refine z_met (own := RX1) hl (by decide) rfl rfl (fun Γ hΓ X R => ?_)
  subst hΓ
  show GW Γ G b 0 0 M 0 [(0, .ref (b + t0)), (1, .ref (b + a1))] []
  unfold fX1_markAllocated at h
  refine r_iconst (v := 0) X rfl dX1_markAllocated_0 1 rfl ?_
  refine r_istore_n X dX1_markAllocated_1 2 rfl [(0, .ref (b + t0)), (1, .ref (b + a1)), (2, .int 0)] (by decide) [1, 2, 0] rfl ?_
  obtain ⟨M3, hL4, h⟩ := z_bd h
  have hK4 : GW Γ G b 0 0 M3 30 [] [] := by
    cases h
    exact r_vret X R dX1_markAllocated_30
  clear h
  refine z_loopP (fun (s : (Int32 × zM)) => GW Γ G b 0 0 s.2 2 [(0, .ref (b + t0)), (1, .ref (b + a1)), (2, .int s.1)] []) (fun s q4 hb hP4 hx4 => ?_) _ _ hL4
  obtain ⟨x1, M2⟩ := s
  have h : fX1_markAllocated_L1 t0 a1 x1 M2 = some q4 := hb
  unfold fX1_markAllocated_L1 at h
  refine r_iload_n X 2 rfl dX1_markAllocated_2 3 rfl ?_
  refine r_bipush (v := 32) X rfl dX1_markAllocated_3 5 rfl ?_
  refine r_icmp_ge X dX1_markAllocated_5 30 (by decide) 8 rfl (fun c5 => ?_) (fun c5 => ?_)
  · have h := z_it c5 h
    refine r_sub [] [] rfl ?_
    have e := hx4 _ (Option.some.inj h).symm
    cases e
    exact hK4
  · have h := z_ie c5 h
    refine r_aload_n X 0 rfl dX1_markAllocated_8 9 rfl ?_
    refine r_get (v := .ref (b + (t0 + 4))) X ht0 rfl zv_X1 zi_X1 rfl kf_X1_26 rfl rfl dX1_markAllocated_9 12 rfl ?_
    refine r_iload_n X 2 rfl dX1_markAllocated_12 13 rfl ?_
    refine r_aload_n X 1 rfl dX1_markAllocated_13 14 rfl ?_
    refine r_aload_n X 0 rfl dX1_markAllocated_14 15 rfl ?_
    refine r_get (v := .int (M2 t0 0)) X ht0 rfl zv_X1 zi_X1 rfl kf_X1_29 rfl rfl dX1_markAllocated_15 18 rfl ?_
    refine r_iload_n X 2 rfl dX1_markAllocated_18 19 rfl ?_
    refine r_iadd X dX1_markAllocated_19 20 rfl ?_
    obtain ⟨x6, e6, h⟩ := z_bd h
    refine r_callVN (rest := [.int x1, .ref (b + (t0 + 4))]) X (tX3_isAllocated hl G b a1 ha1 ((M2 t0 0) + x1) M2 e6) zy_X3_isAllocated zw_X3_isAllocated km_X1_52 ha1 rfl zv_X3 rfl ⟨rfl, rfl⟩ ⟨rfl, rfl⟩ rfl rfl (Nat.le_of_ble_eq_true rfl) ⟨Nat.zero_le _, Nat.zero_le _⟩ dX1_markAllocated_20 23 rfl [.int x6, .int x1, .ref (b + (t0 + 4))] rfl ?_
    obtain ⟨M7, e7, h⟩ := z_bd h
    refine r_zastore X (zk_1_5 ht0) (zn_1_5 ht0) e7 dX1_markAllocated_23 24 rfl ?_
    refine r_iinc X dX1_markAllocated_24 27 rfl [(0, .ref (b + t0)), (1, .ref (b + a1)), (2, .int (x1 + 1))] (by decide) 2 rfl (x1 + 1) rfl [1, 2, 0] rfl ?_
    refine r_goto X dX1_markAllocated_27 2 (by decide) ?_
    exact hP4 ((x1 + 1), M7) (Option.some.inj h).symm
set_option maxRecDepth 100000 in
set_option maxHeartbeats 1000000 in
theorem tX1_countMarkedRuns {l : Launch} (hl : l.stackTraces = false) (G : zG) (b : Nat) (t0 : Nat) (ht0 : z_kd t0 = 1) (M : zM) {r9 : Int32} (h : fX1_countMarkedRuns t0 M = some r9) : z_MN l yX1_countMarkedRuns cX1_countMarkedRuns 3 (some .int) { frames := 0, cells := 0, slots := 0, locals := 0 } G b [.ref (b + t0)] M (some (.int r9)) M := by
  refine z_met (own := RX1) hl (by decide) rfl rfl (fun Γ hΓ X R => ?_)
  subst hΓ
  show GW Γ G b 0 0 M 0 [(0, .ref (b + t0))] []
  unfold fX1_countMarkedRuns at h
  refine r_iconst (v := 0) X rfl dX1_countMarkedRuns_0 1 rfl ?_
  refine r_istore_n X dX1_countMarkedRuns_1 2 rfl [(0, .ref (b + t0)), (1, .int 0)] (by decide) [1, 0] rfl ?_
  refine r_iconst (v := 0) X rfl dX1_countMarkedRuns_2 3 rfl ?_
  refine r_istore_n X dX1_countMarkedRuns_3 4 rfl [(0, .ref (b + t0)), (1, .int 0), (2, .int 0)] (by decide) [1, 2, 0] rfl ?_
  obtain ⟨x3, hL4, h⟩ := z_bd h
  have hK4 : GW Γ G b 0 0 M 43 [(1, .int x3)] [] := by
    refine r_iload_n X 0 rfl dX1_countMarkedRuns_43 44 rfl ?_
    cases h
    exact r_iret X R rfl dX1_countMarkedRuns_44
  clear h
  refine z_loopP (fun (s : (Int32 × Int32)) => GW Γ G b 0 0 M 4 [(0, .ref (b + t0)), (1, .int s.1), (2, .int s.2)] []) (fun s q4 hb hP4 hx4 => ?_) _ _ hL4
  obtain ⟨x1, x2⟩ := s
  have h : fX1_countMarkedRuns_L1 t0 M x1 x2 = some q4 := hb
  unfold fX1_countMarkedRuns_L1 at h
  refine r_iload_n X 2 rfl dX1_countMarkedRuns_4 5 rfl ?_
  refine r_bipush (v := 32) X rfl dX1_countMarkedRuns_5 7 rfl ?_
  refine r_icmp_ge X dX1_countMarkedRuns_7 43 (by decide) 10 rfl (fun c5 => ?_) (fun c5 => ?_)
  · have h := z_it c5 h
    refine r_sub [(1, .int x1)] [1] rfl ?_
    have e := hx4 _ (Option.some.inj h).symm
    cases e
    exact hK4
  · have h := z_ie c5 h
    refine r_aload_n X 0 rfl dX1_countMarkedRuns_10 11 rfl ?_
    refine r_get (v := .ref (b + (t0 + 4))) X ht0 rfl zv_X1 zi_X1 rfl kf_X1_26 rfl rfl dX1_countMarkedRuns_11 14 rfl ?_
    refine r_iload_n X 2 rfl dX1_countMarkedRuns_14 15 rfl ?_
    obtain ⟨x6, e6, h⟩ := z_bd h
    refine r_zaload X (zk_1_5 ht0) (zn_1_5 ht0) e6 dX1_countMarkedRuns_15 16 rfl ?_
    refine r_if_eq X dX1_countMarkedRuns_16 37 (by decide) 19 rfl (fun c7 => ?_) (fun c7 => ?_)
    · have h := z_it c7 h
      refine r_iinc X dX1_countMarkedRuns_37 40 rfl [(0, .ref (b + t0)), (1, .int x1), (2, .int (x2 + 1))] (by decide) 2 rfl (x2 + 1) rfl [1, 2, 0] rfl ?_
      refine r_goto X dX1_countMarkedRuns_40 4 (by decide) ?_
      exact hP4 (x1, (x2 + 1)) (Option.some.inj h).symm
    · have h := z_ie c7 h
      refine r_iload_n X 2 rfl dX1_countMarkedRuns_19 20 rfl ?_
      refine r_if_eq X dX1_countMarkedRuns_20 34 (by decide) 23 rfl (fun c8 => ?_) (fun c8 => ?_)
      · have h := z_it c8 h
        refine r_iinc X dX1_countMarkedRuns_34 37 rfl [(0, .ref (b + t0)), (1, .int (x1 + 1)), (2, .int x2)] (by decide) 1 rfl (x1 + 1) rfl [1, 0, 2] rfl ?_
        refine r_iinc X dX1_countMarkedRuns_37 40 rfl [(0, .ref (b + t0)), (1, .int (x1 + 1)), (2, .int (x2 + 1))] (by decide) 2 rfl (x2 + 1) rfl [1, 2, 0] rfl ?_
        refine r_goto X dX1_countMarkedRuns_40 4 (by decide) ?_
        exact hP4 ((x1 + 1), (x2 + 1)) (Option.some.inj h).symm
      · have h := z_ie c8 h
        refine r_aload_n X 0 rfl dX1_countMarkedRuns_23 24 rfl ?_
        refine r_get (v := .ref (b + (t0 + 4))) X ht0 rfl zv_X1 zi_X1 rfl kf_X1_26 rfl rfl dX1_countMarkedRuns_24 27 rfl ?_
        refine r_iload_n X 2 rfl dX1_countMarkedRuns_27 28 rfl ?_
        refine r_iconst (v := 1) X rfl dX1_countMarkedRuns_28 29 rfl ?_
        refine r_isub X dX1_countMarkedRuns_29 30 rfl ?_
        obtain ⟨x9, e9, h⟩ := z_bd h
        refine r_zaload X (zk_1_5 ht0) (zn_1_5 ht0) e9 dX1_countMarkedRuns_30 31 rfl ?_
        refine r_if_ne X dX1_countMarkedRuns_31 37 (by decide) 34 rfl (fun c10 => ?_) (fun c10 => ?_)
        · have h := z_ie c10 h
          refine r_iinc X dX1_countMarkedRuns_37 40 rfl [(0, .ref (b + t0)), (1, .int x1), (2, .int (x2 + 1))] (by decide) 2 rfl (x2 + 1) rfl [1, 2, 0] rfl ?_
          refine r_goto X dX1_countMarkedRuns_40 4 (by decide) ?_
          exact hP4 (x1, (x2 + 1)) (Option.some.inj h).symm
        · have h := z_it c10 h
          refine r_iinc X dX1_countMarkedRuns_34 37 rfl [(0, .ref (b + t0)), (1, .int (x1 + 1)), (2, .int x2)] (by decide) 1 rfl (x1 + 1) rfl [1, 0, 2] rfl ?_
          refine r_iinc X dX1_countMarkedRuns_37 40 rfl [(0, .ref (b + t0)), (1, .int (x1 + 1)), (2, .int (x2 + 1))] (by decide) 2 rfl (x2 + 1) rfl [1, 2, 0] rfl ?_
          refine r_goto X dX1_countMarkedRuns_40 4 (by decide) ?_
          exact hP4 ((x1 + 1), (x2 + 1)) (Option.some.inj h).symm
set_option maxRecDepth 100000 in
set_option maxHeartbeats 1000000 in
theorem tX1_record {l : Launch} (hl : l.stackTraces = false) (G : zG) (b : Nat) (t0 : Nat) (ht0 : z_kd t0 = 1) (a1 : Nat) (ha1 : z_kd a1 = 3) (a2 : Nat) (ha2 : z_kd a2 = 3) (M : zM) {r9 : Int32} {M9 : zM} (h : fX1_record t0 a1 a2 M = some (r9, M9)) : z_MN l yX1_record cX1_record 3 (some .boolean) { frames := 3, cells := 0, slots := 0, locals := 66 } G b [.ref (b + t0), .ref (b + a1), .ref (b + a2)] M (some (.int r9)) M9 := by
  refine z_met (own := RX1) hl (by decide) rfl rfl (fun Γ hΓ X R => ?_)
  subst hΓ
  show GW Γ G b 0 0 M 0 [(0, .ref (b + t0)), (1, .ref (b + a1)), (2, .ref (b + a2))] []
  unfold fX1_record at h
  refine r_aload_n X 0 rfl dX1_record_0 1 rfl ?_
  refine r_aload_n X 1 rfl dX1_record_1 2 rfl ?_
  refine r_aload_n X 2 rfl dX1_record_2 3 rfl ?_
  obtain ⟨M1, e1, h⟩ := z_bd h
  refine r_callV (rest := []) X (tX1_markChanges hl G b t0 ht0 a1 ha1 a2 ha2 M e1) zy_X1_markChanges zw_X1_markChanges km_X1_36 ht0 rfl zv_X1 rfl ⟨rfl, rfl⟩ ⟨rfl, rfl⟩ rfl rfl (Nat.le_of_ble_eq_true rfl) ⟨Nat.zero_le _, Nat.zero_le _⟩ dX1_record_3 6 rfl [] rfl ?_
  refine r_aload_n X 0 rfl dX1_record_6 7 rfl ?_
  refine r_iconst (v := 1) X rfl dX1_record_7 8 rfl ?_
  obtain ⟨M2, e2, h⟩ := z_bd h
  refine r_callV (rest := []) X (tX1_appendMarkedRuns hl G b t0 ht0 1 M1 e2) zy_X1_appendMarkedRuns zw_X1_appendMarkedRuns km_X1_40 ht0 rfl zv_X1 rfl ⟨rfl, rfl⟩ ⟨rfl, rfl⟩ rfl rfl (Nat.le_of_ble_eq_true rfl) ⟨Nat.zero_le _, Nat.zero_le _⟩ dX1_record_8 11 rfl [] rfl ?_
  refine r_aload_n X 0 rfl dX1_record_11 12 rfl ?_
  refine r_aload_n X 2 rfl dX1_record_12 13 rfl ?_
  refine r_aload_n X 1 rfl dX1_record_13 14 rfl ?_
  obtain ⟨M3, e3, h⟩ := z_bd h
  refine r_callV (rest := []) X (tX1_markChanges hl G b t0 ht0 a2 ha2 a1 ha1 M2 e3) zy_X1_markChanges zw_X1_markChanges km_X1_36 ht0 rfl zv_X1 rfl ⟨rfl, rfl⟩ ⟨rfl, rfl⟩ rfl rfl (Nat.le_of_ble_eq_true rfl) ⟨Nat.zero_le _, Nat.zero_le _⟩ dX1_record_14 17 rfl [] rfl ?_
  refine r_aload_n X 0 rfl dX1_record_17 18 rfl ?_
  refine r_iconst (v := 0) X rfl dX1_record_18 19 rfl ?_
  obtain ⟨M4, e4, h⟩ := z_bd h
  refine r_callV (rest := []) X (tX1_appendMarkedRuns hl G b t0 ht0 0 M3 e4) zy_X1_appendMarkedRuns zw_X1_appendMarkedRuns km_X1_40 ht0 rfl zv_X1 rfl ⟨rfl, rfl⟩ ⟨rfl, rfl⟩ rfl rfl (Nat.le_of_ble_eq_true rfl) ⟨Nat.zero_le _, Nat.zero_le _⟩ dX1_record_19 22 rfl [] rfl ?_
  refine r_aload_n X 0 rfl dX1_record_22 23 rfl ?_
  refine r_aload_n X 1 rfl dX1_record_23 24 rfl ?_
  obtain ⟨M5, e5, h⟩ := z_bd h
  refine r_callV (rest := []) X (tX1_markAllocated hl G b t0 ht0 a1 ha1 M4 e5) zy_X1_markAllocated zw_X1_markAllocated km_X1_44 ht0 rfl zv_X1 rfl ⟨rfl, rfl⟩ ⟨rfl, rfl⟩ rfl rfl (Nat.le_of_ble_eq_true rfl) ⟨Nat.zero_le _, Nat.zero_le _⟩ dX1_record_24 27 rfl [] rfl ?_
  refine r_aload_n X 0 rfl dX1_record_27 28 rfl ?_
  refine r_get (v := .int (M5 t0 4)) X ht0 rfl zv_X1 zi_X1 rfl kf_X1_22 rfl rfl dX1_record_28 31 rfl ?_
  refine r_iconst (v := 2) X rfl dX1_record_31 32 rfl ?_
  refine r_aload_n X 0 rfl dX1_record_32 33 rfl ?_
  obtain ⟨x6, e6, h⟩ := z_bd h
  refine r_callV (rest := [.int 2, .int (M5 t0 4)]) X (tX1_countMarkedRuns hl G b t0 ht0 M5 e6) zy_X1_countMarkedRuns zw_X1_countMarkedRuns km_X1_48 ht0 rfl zv_X1 rfl ⟨rfl, rfl⟩ ⟨rfl, rfl⟩ rfl rfl (Nat.le_of_ble_eq_true rfl) ⟨Nat.zero_le _, Nat.zero_le _⟩ dX1_record_33 36 rfl [.int x6, .int 2, .int (M5 t0 4)] rfl ?_
  refine r_imul X dX1_record_36 37 rfl ?_
  refine r_iconst (v := 2) X rfl dX1_record_37 38 rfl ?_
  refine r_iadd X dX1_record_38 39 rfl ?_
  refine r_icmp_gt X dX1_record_39 44 (by decide) 42 rfl (fun c7 => ?_) (fun c7 => ?_)
  · have h := z_it c7 h
    refine r_aload_n X 0 rfl dX1_record_44 45 rfl ?_
    refine r_iconst (v := 0) X rfl dX1_record_45 46 rfl ?_
    obtain ⟨M8, e8, h⟩ := z_bd h
    refine r_put X ht0 rfl zv_X1 zi_X1 rfl kf_X1_22 rfl tyX1_ok nmX1 rfl rfl rfl rfl rfl rfl (Option.some.inj e8) dX1_record_46 49 rfl ?_
    refine r_aload_n X 0 rfl dX1_record_49 50 rfl ?_
    refine r_iconst (v := 1) X rfl dX1_record_50 51 rfl ?_
    obtain ⟨M9, e9, h⟩ := z_bd h
    refine r_callV (rest := []) X (tX1_appendMarkedRuns hl G b t0 ht0 1 M8 e9) zy_X1_appendMarkedRuns zw_X1_appendMarkedRuns km_X1_40 ht0 rfl zv_X1 rfl ⟨rfl, rfl⟩ ⟨rfl, rfl⟩ rfl rfl (Nat.le_of_ble_eq_true rfl) ⟨Nat.zero_le _, Nat.zero_le _⟩ dX1_record_51 54 rfl [] rfl ?_
    refine r_iconst (v := 1) X rfl dX1_record_54 55 rfl ?_
    cases h
    exact r_iret X R rfl dX1_record_55
  · have h := z_ie c7 h
    refine r_iconst (v := 0) X rfl dX1_record_42 43 rfl ?_
    cases h
    exact r_iret X R rfl dX1_record_43
set_option maxRecDepth 100000 in
set_option maxHeartbeats 1000000 in
theorem tX1_copyFrom {l : Launch} (hl : l.stackTraces = false) (G : zG) (b : Nat) (t0 : Nat) (ht0 : z_kd t0 = 1) (a1 : Nat) (ha1 : z_kd a1 = 1) (M : zM) {M9 : zM} (h : fX1_copyFrom t0 a1 M = some M9) : z_MN l yX1_copyFrom cX1_copyFrom 3 none { frames := 0, cells := 0, slots := 0, locals := 0 } G b [.ref (b + t0), .ref (b + a1)] M none M9 := by
  refine z_met (own := RX1) hl (by decide) rfl rfl (fun Γ hΓ X R => ?_)
  subst hΓ
  show GW Γ G b 0 0 M 0 [(0, .ref (b + t0)), (1, .ref (b + a1))] []
  unfold fX1_copyFrom at h
  refine r_aload_n X 0 rfl dX1_copyFrom_0 1 rfl ?_
  refine r_aload_n X 1 rfl dX1_copyFrom_1 2 rfl ?_
  refine r_get (v := .int (M a1 4)) X ha1 rfl zv_X1 zi_X1 rfl kf_X1_22 rfl rfl dX1_copyFrom_2 5 rfl ?_
  obtain ⟨M1, e1, h⟩ := z_bd h
  refine r_put X ht0 rfl zv_X1 zi_X1 rfl kf_X1_22 rfl tyX1_ok nmX1 rfl rfl rfl rfl rfl rfl (Option.some.inj e1) dX1_copyFrom_5 8 rfl ?_
  refine r_iconst (v := 0) X rfl dX1_copyFrom_8 9 rfl ?_
  refine r_istore_n X dX1_copyFrom_9 10 rfl [(0, .ref (b + t0)), (1, .ref (b + a1)), (2, .int 0)] (by decide) [1, 2, 0] rfl ?_
  obtain ⟨M4, hL5, h⟩ := z_bd h
  have hK5 : GW Γ G b 0 0 M4 66 [] [] := by
    cases h
    exact r_vret X R dX1_copyFrom_66
  clear h
  refine z_loopP (fun (s : (Int32 × zM)) => GW Γ G b 0 0 s.2 10 [(0, .ref (b + t0)), (1, .ref (b + a1)), (2, .int s.1)] []) (fun s q5 hb hP5 hx5 => ?_) _ _ hL5
  obtain ⟨x2, M3⟩ := s
  have h : fX1_copyFrom_L1 t0 a1 x2 M3 = some q5 := hb
  unfold fX1_copyFrom_L1 at h
  refine r_iload_n X 2 rfl dX1_copyFrom_10 11 rfl ?_
  refine r_aload_n X 0 rfl dX1_copyFrom_11 12 rfl ?_
  refine r_get (v := .int (M3 t0 4)) X ht0 rfl zv_X1 zi_X1 rfl kf_X1_22 rfl rfl dX1_copyFrom_12 15 rfl ?_
  refine r_icmp_ge X dX1_copyFrom_15 66 (by decide) 18 rfl (fun c6 => ?_) (fun c6 => ?_)
  · have h := z_it c6 h
    refine r_sub [] [] rfl ?_
    have e := hx5 _ (Option.some.inj h).symm
    cases e
    exact hK5
  · have h := z_ie c6 h
    refine r_iload_n X 2 rfl dX1_copyFrom_18 19 rfl ?_
    refine r_bipush (v := 66) X rfl dX1_copyFrom_19 21 rfl ?_
    refine r_icmp_ge X dX1_copyFrom_21 66 (by decide) 24 rfl (fun c7 => ?_) (fun c7 => ?_)
    · have h := z_it c7 h
      refine r_sub [] [] rfl ?_
      have e := hx5 _ (Option.some.inj h).symm
      cases e
      exact hK5
    · have h := z_ie c7 h
      refine r_aload_n X 0 rfl dX1_copyFrom_24 25 rfl ?_
      refine r_get (v := .ref (b + (t0 + 1))) X ht0 rfl zv_X1 zi_X1 rfl kf_X1_9 rfl rfl dX1_copyFrom_25 28 rfl ?_
      refine r_iload_n X 2 rfl dX1_copyFrom_28 29 rfl ?_
      refine r_aload_n X 1 rfl dX1_copyFrom_29 30 rfl ?_
      refine r_get (v := .ref (b + (a1 + 1))) X ha1 rfl zv_X1 zi_X1 rfl kf_X1_9 rfl rfl dX1_copyFrom_30 33 rfl ?_
      refine r_iload_n X 2 rfl dX1_copyFrom_33 34 rfl ?_
      obtain ⟨x8, e8, h⟩ := z_bd h
      refine r_iaload X (zk_1_1 ha1) (zn_1_1 ha1) e8 dX1_copyFrom_34 35 rfl ?_
      obtain ⟨M9, e9, h⟩ := z_bd h
      refine r_iastore X (zk_1_1 ht0) (zn_1_1 ht0) e9 dX1_copyFrom_35 36 rfl ?_
      refine r_aload_n X 0 rfl dX1_copyFrom_36 37 rfl ?_
      refine r_get (v := .ref (b + (t0 + 2))) X ht0 rfl zv_X1 zi_X1 rfl kf_X1_15 rfl rfl dX1_copyFrom_37 40 rfl ?_
      refine r_iload_n X 2 rfl dX1_copyFrom_40 41 rfl ?_
      refine r_aload_n X 1 rfl dX1_copyFrom_41 42 rfl ?_
      refine r_get (v := .ref (b + (a1 + 2))) X ha1 rfl zv_X1 zi_X1 rfl kf_X1_15 rfl rfl dX1_copyFrom_42 45 rfl ?_
      refine r_iload_n X 2 rfl dX1_copyFrom_45 46 rfl ?_
      obtain ⟨x10, e10, h⟩ := z_bd h
      refine r_iaload X (zk_1_2 ha1) (zn_1_2 ha1) e10 dX1_copyFrom_46 47 rfl ?_
      obtain ⟨M11, e11, h⟩ := z_bd h
      refine r_iastore X (zk_1_2 ht0) (zn_1_2 ht0) e11 dX1_copyFrom_47 48 rfl ?_
      refine r_aload_n X 0 rfl dX1_copyFrom_48 49 rfl ?_
      refine r_get (v := .ref (b + (t0 + 3))) X ht0 rfl zv_X1 zi_X1 rfl kf_X1_18 rfl rfl dX1_copyFrom_49 52 rfl ?_
      refine r_iload_n X 2 rfl dX1_copyFrom_52 53 rfl ?_
      refine r_aload_n X 1 rfl dX1_copyFrom_53 54 rfl ?_
      refine r_get (v := .ref (b + (a1 + 3))) X ha1 rfl zv_X1 zi_X1 rfl kf_X1_18 rfl rfl dX1_copyFrom_54 57 rfl ?_
      refine r_iload_n X 2 rfl dX1_copyFrom_57 58 rfl ?_
      obtain ⟨x12, e12, h⟩ := z_bd h
      refine r_zaload X (zk_1_3 ha1) (zn_1_3 ha1) e12 dX1_copyFrom_58 59 rfl ?_
      obtain ⟨M13, e13, h⟩ := z_bd h
      refine r_zastore X (zk_1_3 ht0) (zn_1_3 ht0) e13 dX1_copyFrom_59 60 rfl ?_
      refine r_iinc X dX1_copyFrom_60 63 rfl [(0, .ref (b + t0)), (1, .ref (b + a1)), (2, .int (x2 + 1))] (by decide) 2 rfl (x2 + 1) rfl [1, 2, 0] rfl ?_
      refine r_goto X dX1_copyFrom_63 10 (by decide) ?_
      exact hP5 ((x2 + 1), M13) (Option.some.inj h).symm
set_option maxRecDepth 100000 in
set_option maxHeartbeats 1000000 in
theorem tX1_firstOf {l : Launch} (hl : l.stackTraces = false) (G : zG) (b : Nat) (t0 : Nat) (ht0 : z_kd t0 = 1) (a1 : Int32) (M : zM) {r9 : Int32} (h : fX1_firstOf t0 a1 M = some r9) : z_MN l yX1_firstOf cX1_firstOf 2 (some .int) { frames := 1, cells := 0, slots := 0, locals := 20 } G b [.ref (b + t0), .int a1] M (some (.int r9)) M := by
  refine z_met (own := RX1) hl (by decide) rfl rfl (fun Γ hΓ X R => ?_)
  subst hΓ
  show GW Γ G b 0 0 M 0 [(0, .ref (b + t0)), (1, .int a1)] []
  unfold fX1_firstOf at h
  refine r_iload_n X 1 rfl dX1_firstOf_0 1 rfl ?_
  obtain ⟨x1, e1, h⟩ := z_bd h
  refine r_callS (rest := []) X (tX1_isEntry hl G b a1 M e1) zy_X1_isEntry zs_X1_isEntry km_X1_32 rfl ⟨rfl, rfl⟩ ⟨rfl, rfl⟩ rfl rfl (Nat.le_of_ble_eq_true rfl) ⟨Nat.zero_le _, Nat.zero_le _⟩ dX1_firstOf_1 4 rfl [.int x1] rfl ?_
  refine r_if_eq X dX1_firstOf_4 16 (by decide) 7 rfl (fun c2 => ?_) (fun c2 => ?_)
  · have h := z_it c2 h
    refine r_iconst (v := 0) X rfl dX1_firstOf_16 17 rfl ?_
    cases h
    exact r_iret X R rfl dX1_firstOf_17
  · have h := z_ie c2 h
    refine r_aload_n X 0 rfl dX1_firstOf_7 8 rfl ?_
    refine r_get (v := .ref (b + (t0 + 1))) X ht0 rfl zv_X1 zi_X1 rfl kf_X1_9 rfl rfl dX1_firstOf_8 11 rfl ?_
    refine r_iload_n X 1 rfl dX1_firstOf_11 12 rfl ?_
    obtain ⟨x3, e3, h⟩ := z_bd h
    refine r_iaload X (zk_1_1 ht0) (zn_1_1 ht0) e3 dX1_firstOf_12 13 rfl ?_
    refine r_goto X dX1_firstOf_13 17 (by decide) ?_
    cases h
    exact r_iret X R rfl dX1_firstOf_17
set_option maxRecDepth 100000 in
set_option maxHeartbeats 1000000 in
theorem tX1_blocksOf {l : Launch} (hl : l.stackTraces = false) (G : zG) (b : Nat) (t0 : Nat) (ht0 : z_kd t0 = 1) (a1 : Int32) (M : zM) {r9 : Int32} (h : fX1_blocksOf t0 a1 M = some r9) : z_MN l yX1_blocksOf cX1_blocksOf 2 (some .int) { frames := 1, cells := 0, slots := 0, locals := 20 } G b [.ref (b + t0), .int a1] M (some (.int r9)) M := by
  refine z_met (own := RX1) hl (by decide) rfl rfl (fun Γ hΓ X R => ?_)
  subst hΓ
  show GW Γ G b 0 0 M 0 [(0, .ref (b + t0)), (1, .int a1)] []
  unfold fX1_blocksOf at h
  refine r_iload_n X 1 rfl dX1_blocksOf_0 1 rfl ?_
  obtain ⟨x1, e1, h⟩ := z_bd h
  refine r_callS (rest := []) X (tX1_isEntry hl G b a1 M e1) zy_X1_isEntry zs_X1_isEntry km_X1_32 rfl ⟨rfl, rfl⟩ ⟨rfl, rfl⟩ rfl rfl (Nat.le_of_ble_eq_true rfl) ⟨Nat.zero_le _, Nat.zero_le _⟩ dX1_blocksOf_1 4 rfl [.int x1] rfl ?_
  refine r_if_eq X dX1_blocksOf_4 16 (by decide) 7 rfl (fun c2 => ?_) (fun c2 => ?_)
  · have h := z_it c2 h
    refine r_iconst (v := 0) X rfl dX1_blocksOf_16 17 rfl ?_
    cases h
    exact r_iret X R rfl dX1_blocksOf_17
  · have h := z_ie c2 h
    refine r_aload_n X 0 rfl dX1_blocksOf_7 8 rfl ?_
    refine r_get (v := .ref (b + (t0 + 2))) X ht0 rfl zv_X1 zi_X1 rfl kf_X1_15 rfl rfl dX1_blocksOf_8 11 rfl ?_
    refine r_iload_n X 1 rfl dX1_blocksOf_11 12 rfl ?_
    obtain ⟨x3, e3, h⟩ := z_bd h
    refine r_iaload X (zk_1_2 ht0) (zn_1_2 ht0) e3 dX1_blocksOf_12 13 rfl ?_
    refine r_goto X dX1_blocksOf_13 17 (by decide) ?_
    cases h
    exact r_iret X R rfl dX1_blocksOf_17
set_option maxRecDepth 100000 in
set_option maxHeartbeats 1000000 in
theorem tX1_isAllocation {l : Launch} (hl : l.stackTraces = false) (G : zG) (b : Nat) (t0 : Nat) (ht0 : z_kd t0 = 1) (a1 : Int32) (M : zM) {r9 : Int32} (h : fX1_isAllocation t0 a1 M = some r9) : z_MN l yX1_isAllocation cX1_isAllocation 2 (some .boolean) { frames := 1, cells := 0, slots := 0, locals := 20 } G b [.ref (b + t0), .int a1] M (some (.int r9)) M := by
  refine z_met (own := RX1) hl (by decide) rfl rfl (fun Γ hΓ X R => ?_)
  subst hΓ
  show GW Γ G b 0 0 M 0 [(0, .ref (b + t0)), (1, .int a1)] []
  unfold fX1_isAllocation at h
  refine r_iload_n X 1 rfl dX1_isAllocation_0 1 rfl ?_
  obtain ⟨x1, e1, h⟩ := z_bd h
  refine r_callS (rest := []) X (tX1_isEntry hl G b a1 M e1) zy_X1_isEntry zs_X1_isEntry km_X1_32 rfl ⟨rfl, rfl⟩ ⟨rfl, rfl⟩ rfl rfl (Nat.le_of_ble_eq_true rfl) ⟨Nat.zero_le _, Nat.zero_le _⟩ dX1_isAllocation_1 4 rfl [.int x1] rfl ?_
  refine r_if_eq X dX1_isAllocation_4 20 (by decide) 7 rfl (fun c2 => ?_) (fun c2 => ?_)
  · have h := z_it c2 h
    refine r_iconst (v := 0) X rfl dX1_isAllocation_20 21 rfl ?_
    cases h
    exact r_iret X R rfl dX1_isAllocation_21
  · have h := z_ie c2 h
    refine r_aload_n X 0 rfl dX1_isAllocation_7 8 rfl ?_
    refine r_get (v := .ref (b + (t0 + 3))) X ht0 rfl zv_X1 zi_X1 rfl kf_X1_18 rfl rfl dX1_isAllocation_8 11 rfl ?_
    refine r_iload_n X 1 rfl dX1_isAllocation_11 12 rfl ?_
    obtain ⟨x3, e3, h⟩ := z_bd h
    refine r_zaload X (zk_1_3 ht0) (zn_1_3 ht0) e3 dX1_isAllocation_12 13 rfl ?_
    refine r_if_eq X dX1_isAllocation_13 20 (by decide) 16 rfl (fun c4 => ?_) (fun c4 => ?_)
    · have h := z_it c4 h
      refine r_iconst (v := 0) X rfl dX1_isAllocation_20 21 rfl ?_
      cases h
      exact r_iret X R rfl dX1_isAllocation_21
    · have h := z_ie c4 h
      refine r_iconst (v := 1) X rfl dX1_isAllocation_16 17 rfl ?_
      refine r_goto X dX1_isAllocation_17 21 (by decide) ?_
      cases h
      exact r_iret X R rfl dX1_isAllocation_21
set_option maxRecDepth 100000 in
set_option maxHeartbeats 1000000 in
theorem tX1_replayEntry {l : Launch} (hl : l.stackTraces = false) (G : zG) (b : Nat) (t0 : Nat) (ht0 : z_kd t0 = 1) (a1 : Int32) (M : zM) {M9 : zM} (h : fX1_replayEntry t0 a1 M = some M9) : z_MN l yX1_replayEntry cX1_replayEntry 5 none { frames := 2, cells := 0, slots := 0, locals := 41 } G b [.ref (b + t0), .int a1] M none M9 := by
  refine z_met (own := RX1) hl (by decide) rfl rfl (fun Γ hΓ X R => ?_)
  subst hΓ
  show GW Γ G b 0 0 M 0 [(0, .ref (b + t0)), (1, .int a1)] []
  unfold fX1_replayEntry at h
  refine r_aload_n X 0 rfl dX1_replayEntry_0 1 rfl ?_
  refine r_iload_n X 1 rfl dX1_replayEntry_1 2 rfl ?_
  obtain ⟨x1, e1, h⟩ := z_bd h
  refine r_callV (rest := []) X (tX1_firstOf hl G b t0 ht0 a1 M e1) zy_X1_firstOf zw_X1_firstOf km_X1_65 ht0 rfl zv_X1 rfl ⟨rfl, rfl⟩ ⟨rfl, rfl⟩ rfl rfl (Nat.le_of_ble_eq_true rfl) ⟨Nat.zero_le _, Nat.zero_le _⟩ dX1_replayEntry_2 5 rfl [.int x1] rfl ?_
  refine r_aload_n X 0 rfl dX1_replayEntry_5 6 rfl ?_
  refine r_get (v := .int (M t0 0)) X ht0 rfl zv_X1 zi_X1 rfl kf_X1_29 rfl rfl dX1_replayEntry_6 9 rfl ?_
  refine r_isub X dX1_replayEntry_9 10 rfl ?_
  refine r_istore_n X dX1_replayEntry_10 11 rfl [(0, .ref (b + t0)), (1, .int a1), (2, .int (x1 - (M t0 0)))] (by decide) [1, 2, 0] rfl ?_
  refine r_iload_n X 2 rfl dX1_replayEntry_11 12 rfl ?_
  refine r_aload_n X 0 rfl dX1_replayEntry_12 13 rfl ?_
  refine r_iload_n X 1 rfl dX1_replayEntry_13 14 rfl ?_
  obtain ⟨x2, e2, h⟩ := z_bd h
  refine r_callV (rest := [.int (x1 - (M t0 0))]) X (tX1_blocksOf hl G b t0 ht0 a1 M e2) zy_X1_blocksOf zw_X1_blocksOf km_X1_69 ht0 rfl zv_X1 rfl ⟨rfl, rfl⟩ ⟨rfl, rfl⟩ rfl rfl (Nat.le_of_ble_eq_true rfl) ⟨Nat.zero_le _, Nat.zero_le _⟩ dX1_replayEntry_14 17 rfl [.int x2, .int (x1 - (M t0 0))] rfl ?_
  refine r_iadd X dX1_replayEntry_17 18 rfl ?_
  refine r_istore_n X dX1_replayEntry_18 19 rfl [(0, .ref (b + t0)), (1, .int a1), (2, .int (x1 - (M t0 0))), (3, .int ((x1 - (M t0 0)) + x2))] (by decide) [1, 2, 3, 0] rfl ?_
  refine r_iload_n X 2 rfl dX1_replayEntry_19 20 rfl ?_
  refine r_istore X dX1_replayEntry_20 22 rfl [(0, .ref (b + t0)), (1, .int a1), (3, .int ((x1 - (M t0 0)) + x2)), (4, .int (x1 - (M t0 0)))] (by decide) [1, 2, 4, 0] rfl ?_
  obtain ⟨M5, hL6, h⟩ := z_bd h
  have hK6 : GW Γ G b 0 0 M5 58 [] [] := by
    cases h
    exact r_vret X R dX1_replayEntry_58
  clear h
  refine z_loopP (fun (s : (Int32 × zM)) => GW Γ G b 0 0 s.2 22 [(0, .ref (b + t0)), (1, .int a1), (3, .int ((x1 - (M t0 0)) + x2)), (4, .int s.1)] []) (fun s q6 hb hP6 hx6 => ?_) _ _ hL6
  obtain ⟨x3, M4⟩ := s
  have h : fX1_replayEntry_L1 t0 a1 M x1 x2 x3 M4 = some q6 := hb
  unfold fX1_replayEntry_L1 at h
  refine r_iload X 3 rfl dX1_replayEntry_22 24 rfl ?_
  refine r_iload_n X 2 rfl dX1_replayEntry_24 25 rfl ?_
  refine r_icmp_ge X dX1_replayEntry_25 58 (by decide) 28 rfl (fun c7 => ?_) (fun c7 => ?_)
  · have h := z_it c7 h
    refine r_sub [] [] rfl ?_
    have e := hx6 _ (Option.some.inj h).symm
    cases e
    exact hK6
  · have h := z_ie c7 h
    refine r_iload X 3 rfl dX1_replayEntry_28 30 rfl ?_
    refine r_if_lt X dX1_replayEntry_30 52 (by decide) 33 rfl (fun c8 => ?_) (fun c8 => ?_)
    · have h := z_it c8 h
      refine r_iinc X dX1_replayEntry_52 55 rfl [(0, .ref (b + t0)), (1, .int a1), (3, .int ((x1 - (M t0 0)) + x2)), (4, .int (x3 + 1))] (by decide) 3 rfl (x3 + 1) rfl [1, 2, 3, 0] rfl ?_
      refine r_goto X dX1_replayEntry_55 22 (by decide) ?_
      exact hP6 ((x3 + 1), M4) (Option.some.inj h).symm
    · have h := z_ie c8 h
      refine r_iload X 3 rfl dX1_replayEntry_33 35 rfl ?_
      refine r_bipush (v := 32) X rfl dX1_replayEntry_35 37 rfl ?_
      refine r_icmp_ge X dX1_replayEntry_37 52 (by decide) 40 rfl (fun c9 => ?_) (fun c9 => ?_)
      · have h := z_it c9 h
        refine r_iinc X dX1_replayEntry_52 55 rfl [(0, .ref (b + t0)), (1, .int a1), (3, .int ((x1 - (M t0 0)) + x2)), (4, .int (x3 + 1))] (by decide) 3 rfl (x3 + 1) rfl [1, 2, 3, 0] rfl ?_
        refine r_goto X dX1_replayEntry_55 22 (by decide) ?_
        exact hP6 ((x3 + 1), M4) (Option.some.inj h).symm
      · have h := z_ie c9 h
        refine r_aload_n X 0 rfl dX1_replayEntry_40 41 rfl ?_
        refine r_get (v := .ref (b + (t0 + 4))) X ht0 rfl zv_X1 zi_X1 rfl kf_X1_26 rfl rfl dX1_replayEntry_41 44 rfl ?_
        refine r_iload X 3 rfl dX1_replayEntry_44 46 rfl ?_
        refine r_aload_n X 0 rfl dX1_replayEntry_46 47 rfl ?_
        refine r_iload_n X 1 rfl dX1_replayEntry_47 48 rfl ?_
        obtain ⟨x10, e10, h⟩ := z_bd h
        refine r_callV (rest := [.int x3, .ref (b + (t0 + 4))]) X (tX1_isAllocation hl G b t0 ht0 a1 M4 e10) zy_X1_isAllocation zw_X1_isAllocation km_X1_72 ht0 rfl zv_X1 rfl ⟨rfl, rfl⟩ ⟨rfl, rfl⟩ rfl rfl (Nat.le_of_ble_eq_true rfl) ⟨Nat.zero_le _, Nat.zero_le _⟩ dX1_replayEntry_48 51 rfl [.int x10, .int x3, .ref (b + (t0 + 4))] rfl ?_
        obtain ⟨M11, e11, h⟩ := z_bd h
        refine r_zastore X (zk_1_5 ht0) (zn_1_5 ht0) e11 dX1_replayEntry_51 52 rfl ?_
        refine r_iinc X dX1_replayEntry_52 55 rfl [(0, .ref (b + t0)), (1, .int a1), (3, .int ((x1 - (M t0 0)) + x2)), (4, .int (x3 + 1))] (by decide) 3 rfl (x3 + 1) rfl [1, 2, 3, 0] rfl ?_
        refine r_goto X dX1_replayEntry_55 22 (by decide) ?_
        exact hP6 ((x3 + 1), M11) (Option.some.inj h).symm
set_option maxRecDepth 100000 in
set_option maxHeartbeats 1000000 in
theorem tX1_countReplayed {l : Launch} (hl : l.stackTraces = false) (G : zG) (b : Nat) (t0 : Nat) (ht0 : z_kd t0 = 1) (M : zM) {r9 : Int32} {M9 : zM} (h : fX1_countReplayed t0 M = some (r9, M9)) : z_MN l yX1_countReplayed cX1_countReplayed 3 (some .int) { frames := 3, cells := 0, slots := 0, locals := 65 } G b [.ref (b + t0)] M (some (.int r9)) M9 := by
  refine z_met (own := RX1) hl (by decide) rfl rfl (fun Γ hΓ X R => ?_)
  subst hΓ
  show GW Γ G b 0 0 M 0 [(0, .ref (b + t0))] []
  unfold fX1_countReplayed at h
  refine r_iconst (v := 0) X rfl dX1_countReplayed_0 1 rfl ?_
  refine r_istore_n X dX1_countReplayed_1 2 rfl [(0, .ref (b + t0)), (1, .int 0)] (by decide) [1, 0] rfl ?_
  obtain ⟨M3, hL4, h⟩ := z_bd h
  have hK4 : GW Γ G b 0 0 M3 21 [(0, .ref (b + t0))] [] := by
    refine r_iconst (v := 0) X rfl dX1_countReplayed_21 22 rfl ?_
    refine r_istore_n X dX1_countReplayed_22 23 rfl [(0, .ref (b + t0)), (1, .int 0)] (by decide) [1, 0] rfl ?_
    obtain ⟨M7, hL8, h⟩ := z_bd h
    have hK8 : GW Γ G b 0 0 M7 42 [(0, .ref (b + t0))] [] := by
      refine r_iconst (v := 0) X rfl dX1_countReplayed_42 43 rfl ?_
      refine r_istore_n X dX1_countReplayed_43 44 rfl [(0, .ref (b + t0)), (1, .int 0)] (by decide) [1, 0] rfl ?_
      refine r_iconst (v := 0) X rfl dX1_countReplayed_44 45 rfl ?_
      refine r_istore_n X dX1_countReplayed_45 46 rfl [(0, .ref (b + t0)), (1, .int 0), (2, .int 0)] (by decide) [1, 2, 0] rfl ?_
      obtain ⟨x11, hL12, h⟩ := z_bd h
      have hK12 : GW Γ G b 0 0 M7 70 [(1, .int x11)] [] := by
        refine r_iload_n X 0 rfl dX1_countReplayed_70 71 rfl ?_
        cases h
        exact r_iret X R rfl dX1_countReplayed_71
      clear h
      refine z_loopP (fun (s : (Int32 × Int32)) => GW Γ G b 0 0 M7 46 [(0, .ref (b + t0)), (1, .int s.1), (2, .int s.2)] []) (fun s q12 hb hP12 hx12 => ?_) _ _ hL12
      obtain ⟨x9, x10⟩ := s
      have h : fX1_countReplayed_L3 t0 M7 x9 x10 = some q12 := hb
      unfold fX1_countReplayed_L3 at h
      refine r_iload_n X 2 rfl dX1_countReplayed_46 47 rfl ?_
      refine r_bipush (v := 32) X rfl dX1_countReplayed_47 49 rfl ?_
      refine r_icmp_ge X dX1_countReplayed_49 70 (by decide) 52 rfl (fun c13 => ?_) (fun c13 => ?_)
      · have h := z_it c13 h
        refine r_sub [(1, .int x9)] [1] rfl ?_
        have e := hx12 _ (Option.some.inj h).symm
        cases e
        exact hK12
      · have h := z_ie c13 h
        refine r_aload_n X 0 rfl dX1_countReplayed_52 53 rfl ?_
        refine r_get (v := .ref (b + (t0 + 4))) X ht0 rfl zv_X1 zi_X1 rfl kf_X1_26 rfl rfl dX1_countReplayed_53 56 rfl ?_
        refine r_iload_n X 2 rfl dX1_countReplayed_56 57 rfl ?_
        obtain ⟨x14, e14, h⟩ := z_bd h
        refine r_zaload X (zk_1_5 ht0) (zn_1_5 ht0) e14 dX1_countReplayed_57 58 rfl ?_
        refine r_if_eq X dX1_countReplayed_58 64 (by decide) 61 rfl (fun c15 => ?_) (fun c15 => ?_)
        · have h := z_it c15 h
          refine r_iinc X dX1_countReplayed_64 67 rfl [(0, .ref (b + t0)), (1, .int x9), (2, .int (x10 + 1))] (by decide) 2 rfl (x10 + 1) rfl [1, 2, 0] rfl ?_
          refine r_goto X dX1_countReplayed_67 46 (by decide) ?_
          exact hP12 (x9, (x10 + 1)) (Option.some.inj h).symm
        · have h := z_ie c15 h
          refine r_iinc X dX1_countReplayed_61 64 rfl [(0, .ref (b + t0)), (1, .int (x9 + 1)), (2, .int x10)] (by decide) 1 rfl (x9 + 1) rfl [1, 0, 2] rfl ?_
          refine r_iinc X dX1_countReplayed_64 67 rfl [(0, .ref (b + t0)), (1, .int (x9 + 1)), (2, .int (x10 + 1))] (by decide) 2 rfl (x10 + 1) rfl [1, 2, 0] rfl ?_
          refine r_goto X dX1_countReplayed_67 46 (by decide) ?_
          exact hP12 ((x9 + 1), (x10 + 1)) (Option.some.inj h).symm
    clear h
    refine z_loopP (fun (s : (Int32 × zM)) => GW Γ G b 0 0 s.2 23 [(0, .ref (b + t0)), (1, .int s.1)] []) (fun s q8 hb hP8 hx8 => ?_) _ _ hL8
    obtain ⟨x5, M6⟩ := s
    have h : fX1_countReplayed_L2 t0 x5 M6 = some q8 := hb
    unfold fX1_countReplayed_L2 at h
    refine r_iload_n X 1 rfl dX1_countReplayed_23 24 rfl ?_
    refine r_aload_n X 0 rfl dX1_countReplayed_24 25 rfl ?_
    refine r_get (v := .int (M6 t0 4)) X ht0 rfl zv_X1 zi_X1 rfl kf_X1_22 rfl rfl dX1_countReplayed_25 28 rfl ?_
    refine r_icmp_ge X dX1_countReplayed_28 42 (by decide) 31 rfl (fun c16 => ?_) (fun c16 => ?_)
    · have h := z_it c16 h
      refine r_sub [(0, .ref (b + t0))] [0] rfl ?_
      have e := hx8 _ (Option.some.inj h).symm
      cases e
      exact hK8
    · have h := z_ie c16 h
      refine r_aload_n X 0 rfl dX1_countReplayed_31 32 rfl ?_
      refine r_iload_n X 1 rfl dX1_countReplayed_32 33 rfl ?_
      obtain ⟨M17, e17, h⟩ := z_bd h
      refine r_callV (rest := []) X (tX1_replayEntry hl G b t0 ht0 x5 M6 e17) zy_X1_replayEntry zw_X1_replayEntry km_X1_61 ht0 rfl zv_X1 rfl ⟨rfl, rfl⟩ ⟨rfl, rfl⟩ rfl rfl (Nat.le_of_ble_eq_true rfl) ⟨Nat.zero_le _, Nat.zero_le _⟩ dX1_countReplayed_33 36 rfl [] rfl ?_
      refine r_iinc X dX1_countReplayed_36 39 rfl [(0, .ref (b + t0)), (1, .int (x5 + 1))] (by decide) 1 rfl (x5 + 1) rfl [1, 0] rfl ?_
      refine r_goto X dX1_countReplayed_39 23 (by decide) ?_
      exact hP8 ((x5 + 1), M17) (Option.some.inj h).symm
  clear h
  refine z_loopP (fun (s : (Int32 × zM)) => GW Γ G b 0 0 s.2 2 [(0, .ref (b + t0)), (1, .int s.1)] []) (fun s q4 hb hP4 hx4 => ?_) _ _ hL4
  obtain ⟨x1, M2⟩ := s
  have h : fX1_countReplayed_L1 t0 x1 M2 = some q4 := hb
  unfold fX1_countReplayed_L1 at h
  refine r_iload_n X 1 rfl dX1_countReplayed_2 3 rfl ?_
  refine r_bipush (v := 32) X rfl dX1_countReplayed_3 5 rfl ?_
  refine r_icmp_ge X dX1_countReplayed_5 21 (by decide) 8 rfl (fun c18 => ?_) (fun c18 => ?_)
  · have h := z_it c18 h
    refine r_sub [(0, .ref (b + t0))] [0] rfl ?_
    have e := hx4 _ (Option.some.inj h).symm
    cases e
    exact hK4
  · have h := z_ie c18 h
    refine r_aload_n X 0 rfl dX1_countReplayed_8 9 rfl ?_
    refine r_get (v := .ref (b + (t0 + 4))) X ht0 rfl zv_X1 zi_X1 rfl kf_X1_26 rfl rfl dX1_countReplayed_9 12 rfl ?_
    refine r_iload_n X 1 rfl dX1_countReplayed_12 13 rfl ?_
    refine r_iconst (v := 0) X rfl dX1_countReplayed_13 14 rfl ?_
    obtain ⟨M19, e19, h⟩ := z_bd h
    refine r_zastore X (zk_1_5 ht0) (zn_1_5 ht0) e19 dX1_countReplayed_14 15 rfl ?_
    refine r_iinc X dX1_countReplayed_15 18 rfl [(0, .ref (b + t0)), (1, .int (x1 + 1))] (by decide) 1 rfl (x1 + 1) rfl [1, 0] rfl ?_
    refine r_goto X dX1_countReplayed_18 2 (by decide) ?_
    exact hP4 ((x1 + 1), M19) (Option.some.inj h).symm
