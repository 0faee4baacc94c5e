set_option maxRecDepth 100000 in
set_option maxHeartbeats 1000000 in
theorem tX5_findDataset {l : Launch} (hl : l.stackTraces = false) (G : zG) (b : Nat) (t0 : Nat) (ht0 : z_kd t0 = 5) (a1 : Int32) (M : zM) {r9 : Option Nat} (h : fX5_findDataset t0 a1 M = some r9) : z_MN l yX5_findDataset cX5_findDataset 2 (some (.object "Cowmeadow$Dataset")) { frames := 0, cells := 0, slots := 0, locals := 0 } G b [.ref (b + t0), .int a1] M (some (z_v b r9)) M := by
  refine z_met (own := RX5) hl (by decide) rfl rfl (fun Γ hΓ X R => ?_)
  subst hΓ
  show GW Γ G b 0 0 M 0 [(0, .ref (b + t0)), (1, .int a1)] []
  unfold fX5_findDataset at h
  refine r_iload_n X 1 rfl dX5_findDataset_0 1 rfl ?_
  refine r_if_lt X dX5_findDataset_1 25 (by decide) 4 rfl (fun c1 => ?_) (fun c1 => ?_)
  · have h := z_it c1 h
    refine r_null X dX5_findDataset_25 26 rfl ?_
    cases h
    exact r_aret X R (Or.inl rfl) dX5_findDataset_26
  · have h := z_ie c1 h
    refine r_iload_n X 1 rfl dX5_findDataset_4 5 rfl ?_
    refine r_aload_n X 0 rfl dX5_findDataset_5 6 rfl ?_
    refine r_get (v := .ref (b + (t0 + 1))) X ht0 rfl zv_X5 zi_X5 rfl kf_X5_11 rfl rfl dX5_findDataset_6 9 rfl ?_
    refine r_alen (v := 6) X (zk_5_0 ht0) rfl (z_lt rfl (zk_5_0 ht0)) (zn_5_0 ht0) rfl rfl rfl dX5_findDataset_9 10 rfl ?_
    refine r_icmp_ge X dX5_findDataset_10 25 (by decide) 13 rfl (fun c2 => ?_) (fun c2 => ?_)
    · have h := z_it c2 h
      refine r_null X dX5_findDataset_25 26 rfl ?_
      cases h
      exact r_aret X R (Or.inl rfl) dX5_findDataset_26
    · have h := z_ie c2 h
      refine r_aload_n X 0 rfl dX5_findDataset_13 14 rfl ?_
      refine r_get (v := .ref (b + (t0 + 1))) X ht0 rfl zv_X5 zi_X5 rfl kf_X5_11 rfl rfl dX5_findDataset_14 17 rfl ?_
      refine r_iload_n X 1 rfl dX5_findDataset_17 18 rfl ?_
      obtain ⟨x3, e3, h⟩ := z_bd h
      have hk3 := zq_11 (zk_5_0 ht0) e3
      refine r_aaload (C := RX0) X (zk_5_0 ht0) rfl rfl (zn_5_0 ht0) e3 rfl dX5_findDataset_18 (z_lt rfl (zk_5_0 ht0)) 19 rfl ?_
      refine r_getN (v := .int (M x3 1)) X hk3 rfl zv_X0 zi_X0 rfl kf_X5_66 rfl rfl dX5_findDataset_19 22 rfl ?_
      refine r_if_ne X dX5_findDataset_22 27 (by decide) 25 rfl (fun c4 => ?_) (fun c4 => ?_)
      · have h := z_ie c4 h
        refine r_aload_n X 0 rfl dX5_findDataset_27 28 rfl ?_
        refine r_get (v := .ref (b + (t0 + 1))) X ht0 rfl zv_X5 zi_X5 rfl kf_X5_11 rfl rfl dX5_findDataset_28 31 rfl ?_
        refine r_iload_n X 1 rfl dX5_findDataset_31 32 rfl ?_
        obtain ⟨x5, e5, h⟩ := z_bd h
        have hk5 := zq_11 (zk_5_0 ht0) e5
        refine r_aaload (C := RX0) X (zk_5_0 ht0) rfl rfl (zn_5_0 ht0) e5 rfl dX5_findDataset_32 (z_lt rfl (zk_5_0 ht0)) 33 rfl ?_
        cases h
        exact r_aret X R (Or.inr ⟨_, rfl⟩) dX5_findDataset_33
      · have h := z_it c4 h
        refine r_null X dX5_findDataset_25 26 rfl ?_
        cases h
        exact r_aret X R (Or.inl rfl) dX5_findDataset_26
set_option maxRecDepth 100000 in
set_option maxHeartbeats 1000000 in
theorem tX5_put {l : Launch} (hl : l.stackTraces = false) (G : zG) (b : Nat) (t0 : Nat) (ht0 : z_kd t0 = 5) (a1 : Nat) (ha1 : z_kd a1 = 4) (a2 : Int32) (a3 : Int32) (M : zM) {M9 : zM} (h : fX5_put t0 a1 a2 a3 M = some M9) : z_MN l yX5_put cX5_put 4 none { frames := 2, cells := 0, slots := 0, locals := 41 } G b [.ref (b + t0), .ref (b + a1), .int a2, .int a3] M none M9 := by
  refine z_met (own := RX5) hl (by decide) rfl rfl (fun Γ hΓ X R => ?_)
  subst hΓ
  show GW Γ G b 0 0 M 0 [(0, .ref (b + t0)), (1, .ref (b + a1)), (2, .int a2), (3, .int a3)] []
  unfold fX5_put at h
  refine r_aload_n X 0 rfl dX5_put_0 1 rfl ?_
  refine r_get (v := .ref (b + (t0 + 3))) X ht0 rfl zv_X5 zi_X5 rfl kf_X5_26 rfl rfl dX5_put_1 4 rfl ?_
  refine r_aload_n X 1 rfl dX5_put_4 5 rfl ?_
  refine r_iload_n X 2 rfl dX5_put_5 6 rfl ?_
  obtain ⟨x1, e1, h⟩ := z_bd h
  refine r_callVN (rest := [.ref (b + (t0 + 3))]) X (tX4_blockOf hl G b a1 ha1 a2 M e1) zy_X4_blockOf zw_X4_blockOf km_X5_92 ha1 rfl zv_X4 rfl ⟨rfl, rfl⟩ ⟨rfl, rfl⟩ rfl rfl (Nat.le_of_ble_eq_true rfl) ⟨Nat.zero_le _, Nat.zero_le _⟩ dX5_put_6 9 rfl [.int x1, .ref (b + (t0 + 3))] rfl ?_
  obtain ⟨M2, e2, h⟩ := z_bd h
  refine r_callVN (rest := []) X (tX3_removeUse hl G b (t0 + 3) (zk_5_2 ht0) x1 M e2) zy_X3_removeUse zw_X3_removeUse km_X5_98 (zk_5_2 ht0) rfl zv_X3 rfl ⟨rfl, rfl⟩ ⟨rfl, rfl⟩ rfl rfl (Nat.le_of_ble_eq_true rfl) ⟨Nat.zero_le _, Nat.zero_le _⟩ dX5_put_9 12 rfl [] rfl ?_
  refine r_aload_n X 0 rfl dX5_put_12 13 rfl ?_
  refine r_get (v := .ref (b + (t0 + 3))) X ht0 rfl zv_X5 zi_X5 rfl kf_X5_26 rfl rfl dX5_put_13 16 rfl ?_
  refine r_iload_n X 3 rfl dX5_put_16 17 rfl ?_
  obtain ⟨M3, e3, h⟩ := z_bd h
  refine r_callVN (rest := []) X (tX3_addUse hl G b (t0 + 3) (zk_5_2 ht0) a3 M2 e3) zy_X3_addUse zw_X3_addUse km_X5_101 (zk_5_2 ht0) rfl zv_X3 rfl ⟨rfl, rfl⟩ ⟨rfl, rfl⟩ rfl rfl (Nat.le_of_ble_eq_true rfl) ⟨Nat.zero_le _, Nat.zero_le _⟩ dX5_put_17 20 rfl [] rfl ?_
  refine r_aload_n X 1 rfl dX5_put_20 21 rfl ?_
  refine r_iload_n X 2 rfl dX5_put_21 22 rfl ?_
  refine r_iload_n X 3 rfl dX5_put_22 23 rfl ?_
  obtain ⟨M4, e4, h⟩ := z_bd h
  refine r_callVN (rest := []) X (tX4_set hl G b a1 ha1 a2 a3 M3 e4) zy_X4_set zw_X4_set km_X5_104 ha1 rfl zv_X4 rfl ⟨rfl, rfl⟩ ⟨rfl, rfl⟩ rfl rfl (Nat.le_of_ble_eq_true rfl) ⟨Nat.zero_le _, Nat.zero_le _⟩ dX5_put_23 26 rfl [] rfl ?_
  cases h
  exact r_vret X R dX5_put_26
set_option maxRecDepth 100000 in
set_option maxHeartbeats 1000000 in
theorem tX5_settle {l : Launch} (hl : l.stackTraces = false) (G : zG) (b : Nat) (t0 : Nat) (ht0 : z_kd t0 = 5) (M : zM) {r9 : Int32} {M9 : zM} (h : fX5_settle t0 M = some (r9, M9)) : z_MN l yX5_settle cX5_settle 1 (some .int) { frames := 1, cells := 0, slots := 0, locals := 23 } G b [.ref (b + t0)] M (some (.int r9)) M9 := by
  refine z_met (own := RX5) hl (by decide) rfl rfl (fun Γ hΓ X R => ?_)
  subst hΓ
  show GW Γ G b 0 0 M 0 [(0, .ref (b + t0))] []
  unfold fX5_settle at h
  refine r_aload_n X 0 rfl dX5_settle_0 1 rfl ?_
  refine r_get (v := .ref (b + (t0 + 3))) X ht0 rfl zv_X5 zi_X5 rfl kf_X5_26 rfl rfl dX5_settle_1 4 rfl ?_
  refine r_aload_n X 0 rfl dX5_settle_4 5 rfl ?_
  refine r_get (v := .int (M t0 4)) X ht0 rfl zv_X5 zi_X5 rfl kf_X5_36 rfl rfl dX5_settle_5 8 rfl ?_
  obtain ⟨x1, M2, e2, h⟩ := z_bd2 h
  refine r_callVN (rest := []) X (tX3_retireUnused hl G b (t0 + 3) (zk_5_2 ht0) (M t0 4) M e2) zy_X3_retireUnused zw_X3_retireUnused km_X5_112 (zk_5_2 ht0) rfl zv_X3 rfl ⟨rfl, rfl⟩ ⟨rfl, rfl⟩ rfl rfl (Nat.le_of_ble_eq_true rfl) ⟨Nat.zero_le _, Nat.zero_le _⟩ dX5_settle_8 11 rfl [.int x1] rfl ?_
  cases h
  exact r_iret X R rfl dX5_settle_11
set_option maxRecDepth 100000 in
set_option maxHeartbeats 1000000 in
theorem tX5_copyFrom {l : Launch} (hl : l.stackTraces = false) (G : zG) (b : Nat) (t0 : Nat) (ht0 : z_kd t0 = 5) (a1 : Nat) (ha1 : z_kd a1 = 5) (M : zM) {M9 : zM} (h : fX5_copyFrom t0 a1 M = some M9) : z_MN l yX5_copyFrom cX5_copyFrom 3 none { frames := 3, cells := 0, slots := 0, locals := 82 } G b [.ref (b + t0), .ref (b + a1)] M none M9 := by
  refine z_met (own := RX5) hl (by decide) rfl rfl (fun Γ hΓ X R => ?_)
  subst hΓ
  show GW Γ G b 0 0 M 0 [(0, .ref (b + t0)), (1, .ref (b + a1))] []
  unfold fX5_copyFrom at h
  refine r_iconst (v := 0) X rfl dX5_copyFrom_0 1 rfl ?_
  refine r_istore_n X dX5_copyFrom_1 2 rfl [(0, .ref (b + t0)), (1, .ref (b + a1)), (2, .int 0)] (by decide) [1, 2, 0] rfl ?_
  obtain ⟨M3, hL4, h⟩ := z_bd h
  have hK4 : GW Γ G b 0 0 M3 29 [(0, .ref (b + t0)), (1, .ref (b + a1))] [] := by
    refine r_iconst (v := 0) X rfl dX5_copyFrom_29 30 rfl ?_
    refine r_istore_n X dX5_copyFrom_30 31 rfl [(0, .ref (b + t0)), (1, .ref (b + a1)), (2, .int 0)] (by decide) [1, 2, 0] rfl ?_
    obtain ⟨M7, hL8, h⟩ := z_bd h
    have hK8 : GW Γ G b 0 0 M7 58 [(0, .ref (b + t0)), (1, .ref (b + a1))] [] := by
      refine r_aload_n X 0 rfl dX5_copyFrom_58 59 rfl ?_
      refine r_get (v := .ref (b + (t0 + 3))) X ht0 rfl zv_X5 zi_X5 rfl kf_X5_26 rfl rfl dX5_copyFrom_59 62 rfl ?_
      refine r_aload_n X 1 rfl dX5_copyFrom_62 63 rfl ?_
      refine r_get (v := .ref (b + (a1 + 3))) X ha1 rfl zv_X5 zi_X5 rfl kf_X5_26 rfl rfl dX5_copyFrom_63 66 rfl ?_
      obtain ⟨M9, e9, h⟩ := z_bd h
      refine r_callVN (rest := []) X (tX3_copyFrom hl G b (t0 + 3) (zk_5_2 ht0) (a1 + 3) (zk_5_2 ha1) M7 e9) zy_X3_copyFrom zw_X3_copyFrom km_X5_60 (zk_5_2 ht0) rfl zv_X3 rfl ⟨rfl, rfl⟩ ⟨rfl, rfl⟩ rfl rfl (Nat.le_of_ble_eq_true rfl) ⟨Nat.zero_le _, Nat.zero_le _⟩ dX5_copyFrom_66 69 rfl [] rfl ?_
      refine r_iconst (v := 0) X rfl dX5_copyFrom_69 70 rfl ?_
      refine r_istore_n X dX5_copyFrom_70 71 rfl [(0, .ref (b + t0)), (1, .ref (b + a1)), (2, .int 0)] (by decide) [1, 2, 0] rfl ?_
      obtain ⟨M12, hL13, h⟩ := z_bd h
      have hK13 : GW Γ G b 0 0 M12 97 [(0, .ref (b + t0)), (1, .ref (b + a1))] [] := by
        refine r_aload_n X 0 rfl dX5_copyFrom_97 98 rfl ?_
        refine r_aload_n X 1 rfl dX5_copyFrom_98 99 rfl ?_
        refine r_get (v := .int (M12 a1 4)) X ha1 rfl zv_X5 zi_X5 rfl kf_X5_36 rfl rfl dX5_copyFrom_99 102 rfl ?_
        obtain ⟨M14, e14, h⟩ := z_bd h
        refine r_put X ht0 rfl zv_X5 zi_X5 rfl kf_X5_36 rfl tyX5_ok nmX5 rfl rfl rfl rfl rfl rfl (Option.some.inj e14) dX5_copyFrom_102 105 rfl ?_
        refine r_aload_n X 0 rfl dX5_copyFrom_105 106 rfl ?_
        refine r_aload_n X 1 rfl dX5_copyFrom_106 107 rfl ?_
        refine r_get (v := .int (M14 a1 5)) X ha1 rfl zv_X5 zi_X5 rfl kf_X5_40 rfl rfl dX5_copyFrom_107 110 rfl ?_
        obtain ⟨M15, e15, h⟩ := z_bd h
        refine r_put X ht0 rfl zv_X5 zi_X5 rfl kf_X5_40 rfl tyX5_ok nmX5 rfl rfl rfl rfl rfl rfl (Option.some.inj e15) dX5_copyFrom_110 113 rfl ?_
        refine r_aload_n X 0 rfl dX5_copyFrom_113 114 rfl ?_
        refine r_aload_n X 1 rfl dX5_copyFrom_114 115 rfl ?_
        refine r_get (v := .int (M15 a1 6)) X ha1 rfl zv_X5 zi_X5 rfl kf_X5_43 rfl rfl dX5_copyFrom_115 118 rfl ?_
        obtain ⟨M16, e16, h⟩ := z_bd h
        refine r_put X ht0 rfl zv_X5 zi_X5 rfl kf_X5_43 rfl tyX5_ok nmX5 rfl rfl rfl rfl rfl rfl (Option.some.inj e16) dX5_copyFrom_118 121 rfl ?_
        cases h
        exact r_vret X R dX5_copyFrom_121
      clear h
      refine z_loopP (fun (s : (Int32 × zM)) => GW Γ G b 0 0 s.2 71 [(0, .ref (b + t0)), (1, .ref (b + a1)), (2, .int s.1)] []) (fun s q13 hb hP13 hx13 => ?_) _ _ hL13
      obtain ⟨x10, M11⟩ := s
      have h : fX5_copyFrom_L3 t0 a1 x10 M11 = some q13 := hb
      unfold fX5_copyFrom_L3 at h
      refine r_iload_n X 2 rfl dX5_copyFrom_71 72 rfl ?_
      refine r_iconst (v := 4) X rfl dX5_copyFrom_72 73 rfl ?_
      refine r_icmp_ge X dX5_copyFrom_73 97 (by decide) 76 rfl (fun c17 => ?_) (fun c17 => ?_)
      · have h := z_it c17 h
        refine r_sub [(0, .ref (b + t0)), (1, .ref (b + a1))] [0, 1] rfl ?_
        have e := hx13 _ (Option.some.inj h).symm
        cases e
        exact hK13
      · have h := z_ie c17 h
        refine r_aload_n X 0 rfl dX5_copyFrom_76 77 rfl ?_
        refine r_get (v := .ref (b + (t0 + 8))) X ht0 rfl zv_X5 zi_X5 rfl kf_X5_32 rfl rfl dX5_copyFrom_77 80 rfl ?_
        refine r_iload_n X 2 rfl dX5_copyFrom_80 81 rfl ?_
        obtain ⟨x18, e18, h⟩ := z_bd h
        have hk18 := zq_13 (zk_5_3 ht0) e18
        refine r_aaload (C := RX1) X (zk_5_3 ht0) rfl rfl (zn_5_3 ht0) e18 rfl dX5_copyFrom_81 (z_lt rfl (zk_5_3 ht0)) 82 rfl ?_
        refine r_aload_n X 1 rfl dX5_copyFrom_82 83 rfl ?_
        refine r_get (v := .ref (b + (a1 + 8))) X ha1 rfl zv_X5 zi_X5 rfl kf_X5_32 rfl rfl dX5_copyFrom_83 86 rfl ?_
        refine r_iload_n X 2 rfl dX5_copyFrom_86 87 rfl ?_
        obtain ⟨x19, e19, h⟩ := z_bd h
        have hk19 := zq_13 (zk_5_3 ha1) e19
        refine r_aaload (C := RX1) X (zk_5_3 ha1) rfl rfl (zn_5_3 ha1) e19 rfl dX5_copyFrom_87 (z_lt rfl (zk_5_3 ha1)) 88 rfl ?_
        obtain ⟨M20, e20, h⟩ := z_bd h
        refine r_callVN (rest := []) X (tX1_copyFrom hl G b x18 hk18 x19 hk19 M11 e20) zy_X1_copyFrom zw_X1_copyFrom km_X5_63 hk18 rfl zv_X1 rfl ⟨rfl, rfl⟩ ⟨rfl, rfl⟩ rfl rfl (Nat.le_of_ble_eq_true rfl) ⟨Nat.zero_le _, Nat.zero_le _⟩ dX5_copyFrom_88 91 rfl [] rfl ?_
        refine r_iinc X dX5_copyFrom_91 94 rfl [(0, .ref (b + t0)), (1, .ref (b + a1)), (2, .int (x10 + 1))] (by decide) 2 rfl (x10 + 1) rfl [1, 2, 0] rfl ?_
        refine r_goto X dX5_copyFrom_94 71 (by decide) ?_
        exact hP13 ((x10 + 1), M20) (Option.some.inj h).symm
    clear h
    refine z_loopP (fun (s : (Int32 × zM)) => GW Γ G b 0 0 s.2 31 [(0, .ref (b + t0)), (1, .ref (b + a1)), (2, .int s.1)] []) (fun s q8 hb hP8 hx8 => ?_) _ _ hL8
    obtain ⟨x5, M6⟩ := s
    have h : fX5_copyFrom_L2 t0 a1 x5 M6 = some q8 := hb
    unfold fX5_copyFrom_L2 at h
    refine r_iload_n X 2 rfl dX5_copyFrom_31 32 rfl ?_
    refine r_bipush (v := 12) X rfl dX5_copyFrom_32 34 rfl ?_
    refine r_icmp_ge X dX5_copyFrom_34 58 (by decide) 37 rfl (fun c21 => ?_) (fun c21 => ?_)
    · have h := z_it c21 h
      refine r_sub [(0, .ref (b + t0)), (1, .ref (b + a1))] [0, 1] rfl ?_
      have e := hx8 _ (Option.some.inj h).symm
      cases e
      exact hK8
    · have h := z_ie c21 h
      refine r_aload_n X 0 rfl dX5_copyFrom_37 38 rfl ?_
      refine r_get (v := .ref (b + (t0 + 2))) X ht0 rfl zv_X5 zi_X5 rfl kf_X5_19 rfl rfl dX5_copyFrom_38 41 rfl ?_
      refine r_iload_n X 2 rfl dX5_copyFrom_41 42 rfl ?_
      obtain ⟨x22, e22, h⟩ := z_bd h
      have hk22 := zq_12 (zk_5_1 ht0) e22
      refine r_aaload (C := RX2) X (zk_5_1 ht0) rfl rfl (zn_5_1 ht0) e22 rfl dX5_copyFrom_42 (z_lt rfl (zk_5_1 ht0)) 43 rfl ?_
      refine r_aload_n X 1 rfl dX5_copyFrom_43 44 rfl ?_
      refine r_get (v := .ref (b + (a1 + 2))) X ha1 rfl zv_X5 zi_X5 rfl kf_X5_19 rfl rfl dX5_copyFrom_44 47 rfl ?_
      refine r_iload_n X 2 rfl dX5_copyFrom_47 48 rfl ?_
      obtain ⟨x23, e23, h⟩ := z_bd h
      have hk23 := zq_12 (zk_5_1 ha1) e23
      refine r_aaload (C := RX2) X (zk_5_1 ha1) rfl rfl (zn_5_1 ha1) e23 rfl dX5_copyFrom_48 (z_lt rfl (zk_5_1 ha1)) 49 rfl ?_
      obtain ⟨M24, e24, h⟩ := z_bd h
      refine r_callVN (rest := []) X (tX2_copyFrom hl G b x22 hk22 x23 hk23 M6 e24) zy_X2_copyFrom zw_X2_copyFrom km_X5_57 hk22 rfl zv_X2 rfl ⟨rfl, rfl⟩ ⟨rfl, rfl⟩ rfl rfl (Nat.le_of_ble_eq_true rfl) ⟨Nat.zero_le _, Nat.zero_le _⟩ dX5_copyFrom_49 52 rfl [] rfl ?_
      refine r_iinc X dX5_copyFrom_52 55 rfl [(0, .ref (b + t0)), (1, .ref (b + a1)), (2, .int (x5 + 1))] (by decide) 2 rfl (x5 + 1) rfl [1, 2, 0] rfl ?_
      refine r_goto X dX5_copyFrom_55 31 (by decide) ?_
      exact hP8 ((x5 + 1), M24) (Option.some.inj h).symm
  clear h
  refine z_loopP (fun (s : (Int32 × zM)) => GW Γ G b 0 0 s.2 2 [(0, .ref (b + t0)), (1, .ref (b + a1)), (2, .int s.1)] []) (fun s q4 hb hP4 hx4 => ?_) _ _ hL4
  obtain ⟨x1, M2⟩ := s
  have h : fX5_copyFrom_L1 t0 a1 x1 M2 = some q4 := hb
  unfold fX5_copyFrom_L1 at h
  refine r_iload_n X 2 rfl dX5_copyFrom_2 3 rfl ?_
  refine r_bipush (v := 6) X rfl dX5_copyFrom_3 5 rfl ?_
  refine r_icmp_ge X dX5_copyFrom_5 29 (by decide) 8 rfl (fun c25 => ?_) (fun c25 => ?_)
  · have h := z_it c25 h
    refine r_sub [(0, .ref (b + t0)), (1, .ref (b + a1))] [0, 1] rfl ?_
    have e := hx4 _ (Option.some.inj h).symm
    cases e
    exact hK4
  · have h := z_ie c25 h
    refine r_aload_n X 0 rfl dX5_copyFrom_8 9 rfl ?_
    refine r_get (v := .ref (b + (t0 + 1))) X ht0 rfl zv_X5 zi_X5 rfl kf_X5_11 rfl rfl dX5_copyFrom_9 12 rfl ?_
    refine r_iload_n X 2 rfl dX5_copyFrom_12 13 rfl ?_
    obtain ⟨x26, e26, h⟩ := z_bd h
    have hk26 := zq_11 (zk_5_0 ht0) e26
    refine r_aaload (C := RX0) X (zk_5_0 ht0) rfl rfl (zn_5_0 ht0) e26 rfl dX5_copyFrom_13 (z_lt rfl (zk_5_0 ht0)) 14 rfl ?_
    refine r_aload_n X 1 rfl dX5_copyFrom_14 15 rfl ?_
    refine r_get (v := .ref (b + (a1 + 1))) X ha1 rfl zv_X5 zi_X5 rfl kf_X5_11 rfl rfl dX5_copyFrom_15 18 rfl ?_
    refine r_iload_n X 2 rfl dX5_copyFrom_18 19 rfl ?_
    obtain ⟨x27, e27, h⟩ := z_bd h
    have hk27 := zq_11 (zk_5_0 ha1) e27
    refine r_aaload (C := RX0) X (zk_5_0 ha1) rfl rfl (zn_5_0 ha1) e27 rfl dX5_copyFrom_19 (z_lt rfl (zk_5_0 ha1)) 20 rfl ?_
    obtain ⟨M28, e28, h⟩ := z_bd h
    refine r_callVN (rest := []) X (tX0_copyFrom hl G b x26 hk26 x27 hk27 M2 e28) zy_X0_copyFrom zw_X0_copyFrom km_X5_53 hk26 rfl zv_X0 rfl ⟨rfl, rfl⟩ ⟨rfl, rfl⟩ rfl rfl (Nat.le_of_ble_eq_true rfl) ⟨Nat.zero_le _, Nat.zero_le _⟩ dX5_copyFrom_20 23 rfl [] rfl ?_
    refine r_iinc X dX5_copyFrom_23 26 rfl [(0, .ref (b + t0)), (1, .ref (b + a1)), (2, .int (x1 + 1))] (by decide) 2 rfl (x1 + 1) rfl [1, 2, 0] rfl ?_
    refine r_goto X dX5_copyFrom_26 2 (by decide) ?_
    exact hP4 ((x1 + 1), M28) (Option.some.inj h).symm
set_option maxRecDepth 100000 in
set_option maxHeartbeats 1000000 in
theorem tX5_unusedSnapshot {l : Launch} (hl : l.stackTraces = false) (G : zG) (b : Nat) (t0 : Nat) (ht0 : z_kd t0 = 5) (M : zM) {r9 : Option Nat} (h : fX5_unusedSnapshot t0 M = some r9) : z_MN l yX5_unusedSnapshot cX5_unusedSnapshot 2 (some (.object "Cowmeadow$Snapshot")) { frames := 0, cells := 0, slots := 0, locals := 0 } G b [.ref (b + t0)] M (some (z_v b r9)) M := by
  refine z_met (own := RX5) hl (by decide) rfl rfl (fun Γ hΓ X R => ?_)
  subst hΓ
  show GW Γ G b 0 0 M 0 [(0, .ref (b + t0))] []
  unfold fX5_unusedSnapshot at h
  refine r_iconst (v := 0) X rfl dX5_unusedSnapshot_0 1 rfl ?_
  refine r_istore_n X dX5_unusedSnapshot_1 2 rfl [(0, .ref (b + t0)), (1, .int 0)] (by decide) [1, 0] rfl ?_
  obtain ⟨z2, hL2, h⟩ := z_bd h
  have hK2 : z2 = .inl () → GW Γ G b 0 0 M 33 [] [] := by
    intro e
    subst e
    have h := z_scl h
    refine r_null X dX5_unusedSnapshot_33 34 rfl ?_
    cases h
    exact r_aret X R (Or.inl rfl) dX5_unusedSnapshot_34
  have hR2 : ∀ u9, z2 = .inr u9 → some u9 = some r9 := by
    intro u9 e
    subst e
    exact z_scr h
  clear h
  refine z_loopP (fun (s : Int32) => GW Γ G b 0 0 M 2 [(0, .ref (b + t0)), (1, .int s)] []) (fun s q2 hb hP2 hx2 => ?_) _ _ hL2
  obtain ⟨x1, rfl⟩ : ∃ y, y = s := ⟨s, rfl⟩
  have h : fX5_unusedSnapshot_L1 t0 M x1 = some q2 := hb
  unfold fX5_unusedSnapshot_L1 at h
  refine r_iload_n X 1 rfl dX5_unusedSnapshot_2 3 rfl ?_
  refine r_bipush (v := 12) X rfl dX5_unusedSnapshot_3 5 rfl ?_
  refine r_icmp_ge X dX5_unusedSnapshot_5 33 (by decide) 8 rfl (fun c3 => ?_) (fun c3 => ?_)
  · have h := z_it c3 h
    refine r_sub [] [] rfl ?_
    exact hK2  (hx2 _ (Option.some.inj h).symm).symm
  · have h := z_ie c3 h
    refine r_aload_n X 0 rfl dX5_unusedSnapshot_8 9 rfl ?_
    refine r_get (v := .ref (b + (t0 + 2))) X ht0 rfl zv_X5 zi_X5 rfl kf_X5_19 rfl rfl dX5_unusedSnapshot_9 12 rfl ?_
    refine r_iload_n X 1 rfl dX5_unusedSnapshot_12 13 rfl ?_
    obtain ⟨x4, e4, h⟩ := z_bd h
    have hk4 := zq_12 (zk_5_1 ht0) e4
    refine r_aaload (C := RX2) X (zk_5_1 ht0) rfl rfl (zn_5_1 ht0) e4 rfl dX5_unusedSnapshot_13 (z_lt rfl (zk_5_1 ht0)) 14 rfl ?_
    refine r_getN (v := .int (M x4 1)) X hk4 rfl zv_X2 zi_X2 rfl kf_X5_70 rfl rfl dX5_unusedSnapshot_14 17 rfl ?_
    refine r_if_ne X dX5_unusedSnapshot_17 27 (by decide) 20 rfl (fun c5 => ?_) (fun c5 => ?_)
    · have h := z_ie c5 h
      refine r_iinc X dX5_unusedSnapshot_27 30 rfl [(0, .ref (b + t0)), (1, .int (x1 + 1))] (by decide) 1 rfl (x1 + 1) rfl [1, 0] rfl ?_
      refine r_goto X dX5_unusedSnapshot_30 2 (by decide) ?_
      exact hP2 (x1 + 1) (Option.some.inj h).symm
    · have h := z_it c5 h
      refine r_aload_n X 0 rfl dX5_unusedSnapshot_20 21 rfl ?_
      refine r_get (v := .ref (b + (t0 + 2))) X ht0 rfl zv_X5 zi_X5 rfl kf_X5_19 rfl rfl dX5_unusedSnapshot_21 24 rfl ?_
      refine r_iload_n X 1 rfl dX5_unusedSnapshot_24 25 rfl ?_
      obtain ⟨x6, e6, h⟩ := z_bd h
      have hk6 := zq_12 (zk_5_1 ht0) e6
      refine r_aaload (C := RX2) X (zk_5_1 ht0) rfl rfl (zn_5_1 ht0) e6 rfl dX5_unusedSnapshot_25 (z_lt rfl (zk_5_1 ht0)) 26 rfl ?_
      have h := hR2 _ (hx2 _ (Option.some.inj h).symm).symm
      cases h
      exact r_aret X R (Or.inr ⟨_, rfl⟩) dX5_unusedSnapshot_26
set_option maxRecDepth 100000 in
set_option maxHeartbeats 1000000 in
theorem tX5_snapshotsOf {l : Launch} (hl : l.stackTraces = false) (G : zG) (b : Nat) (t0 : Nat) (ht0 : z_kd t0 = 5) (a1 : Int32) (M : zM) {r9 : Int32} (h : fX5_snapshotsOf t0 a1 M = some r9) : z_MN l yX5_snapshotsOf cX5_snapshotsOf 4 (some .int) { frames := 1, cells := 0, slots := 0, locals := 21 } G b [.ref (b + t0), .int a1] M (some (.int r9)) M := by
  refine z_met (own := RX5) hl (by decide) rfl rfl (fun Γ hΓ X R => ?_)
  subst hΓ
  show GW Γ G b 0 0 M 0 [(0, .ref (b + t0)), (1, .int a1)] []
  unfold fX5_snapshotsOf at h
  refine r_iconst (v := 0) X rfl dX5_snapshotsOf_0 1 rfl ?_
  refine r_istore_n X dX5_snapshotsOf_1 2 rfl [(0, .ref (b + t0)), (1, .int a1), (2, .int 0)] (by decide) [1, 2, 0] rfl ?_
  refine r_iconst (v := 0) X rfl dX5_snapshotsOf_2 3 rfl ?_
  refine r_istore_n X dX5_snapshotsOf_3 4 rfl [(0, .ref (b + t0)), (1, .int a1), (2, .int 0), (3, .int 0)] (by decide) [1, 2, 3, 0] rfl ?_
  obtain ⟨x3, hL4, h⟩ := z_bd h
  have hK4 : GW Γ G b 0 0 M 32 [(2, .int x3)] [] := by
    refine r_iload_n X 0 rfl dX5_snapshotsOf_32 33 rfl ?_
    cases h
    exact r_iret X R rfl dX5_snapshotsOf_33
  clear h
  refine z_loopP (fun (s : (Int32 × Int32)) => GW Γ G b 0 0 M 4 [(0, .ref (b + t0)), (1, .int a1), (2, .int s.1), (3, .int s.2)] []) (fun s q4 hb hP4 hx4 => ?_) _ _ hL4
  obtain ⟨x1, x2⟩ := s
  have h : fX5_snapshotsOf_L1 t0 a1 M x1 x2 = some q4 := hb
  unfold fX5_snapshotsOf_L1 at h
  refine r_iload_n X 3 rfl dX5_snapshotsOf_4 5 rfl ?_
  refine r_bipush (v := 12) X rfl dX5_snapshotsOf_5 7 rfl ?_
  refine r_icmp_ge X dX5_snapshotsOf_7 32 (by decide) 10 rfl (fun c5 => ?_) (fun c5 => ?_)
  · have h := z_it c5 h
    refine r_sub [(2, .int x1)] [2] rfl ?_
    have e := hx4 _ (Option.some.inj h).symm
    cases e
    exact hK4
  · have h := z_ie c5 h
    refine r_aload_n X 0 rfl dX5_snapshotsOf_10 11 rfl ?_
    refine r_get (v := .ref (b + (t0 + 2))) X ht0 rfl zv_X5 zi_X5 rfl kf_X5_19 rfl rfl dX5_snapshotsOf_11 14 rfl ?_
    refine r_iload_n X 3 rfl dX5_snapshotsOf_14 15 rfl ?_
    obtain ⟨x6, e6, h⟩ := z_bd h
    have hk6 := zq_12 (zk_5_1 ht0) e6
    refine r_aaload (C := RX2) X (zk_5_1 ht0) rfl rfl (zn_5_1 ht0) e6 rfl dX5_snapshotsOf_15 (z_lt rfl (zk_5_1 ht0)) 16 rfl ?_
    refine r_iload_n X 1 rfl dX5_snapshotsOf_16 17 rfl ?_
    obtain ⟨x7, e7, h⟩ := z_bd h
    refine r_callVN (rest := []) X (tX2_belongsTo hl G b x6 hk6 a1 M e7) zy_X2_belongsTo zw_X2_belongsTo km_X5_72 hk6 rfl zv_X2 rfl ⟨rfl, rfl⟩ ⟨rfl, rfl⟩ rfl rfl (Nat.le_of_ble_eq_true rfl) ⟨Nat.zero_le _, Nat.zero_le _⟩ dX5_snapshotsOf_17 20 rfl [.int x7] rfl ?_
    refine r_if_eq X dX5_snapshotsOf_20 26 (by decide) 23 rfl (fun c8 => ?_) (fun c8 => ?_)
    · have h := z_it c8 h
      refine r_iinc X dX5_snapshotsOf_26 29 rfl [(0, .ref (b + t0)), (1, .int a1), (2, .int x1), (3, .int (x2 + 1))] (by decide) 3 rfl (x2 + 1) rfl [1, 2, 3, 0] rfl ?_
      refine r_goto X dX5_snapshotsOf_29 4 (by decide) ?_
      exact hP4 (x1, (x2 + 1)) (Option.some.inj h).symm
    · have h := z_ie c8 h
      refine r_iinc X dX5_snapshotsOf_23 26 rfl [(0, .ref (b + t0)), (1, .int a1), (2, .int (x1 + 1)), (3, .int x2)] (by decide) 2 rfl (x1 + 1) rfl [1, 2, 0, 3] rfl ?_
      refine r_iinc X dX5_snapshotsOf_26 29 rfl [(0, .ref (b + t0)), (1, .int a1), (2, .int (x1 + 1)), (3, .int (x2 + 1))] (by decide) 3 rfl (x2 + 1) rfl [1, 2, 3, 0] rfl ?_
      refine r_goto X dX5_snapshotsOf_29 4 (by decide) ?_
      exact hP4 ((x1 + 1), (x2 + 1)) (Option.some.inj h).symm
set_option maxRecDepth 100000 in
set_option maxHeartbeats 1000000 in
theorem tX5_fill {l : Launch} (hl : l.stackTraces = false) (G : zG) (b : Nat) (t0 : Nat) (ht0 : z_kd t0 = 5) (a1 : Nat) (ha1 : z_kd a1 = 4) (a2 : Nat) (ha2 : z_kd a2 = 4) (M : zM) {M9 : zM} (h : fX5_fill t0 a1 a2 M = some M9) : z_MN l yX5_fill cX5_fill 4 none { frames := 3, cells := 0, slots := 0, locals := 64 } G b [.ref (b + t0), .ref (b + a1), .ref (b + a2)] M none M9 := by
  refine z_met (own := RX5) hl (by decide) rfl rfl (fun Γ hΓ X R => ?_)
  subst hΓ
  show GW Γ G b 0 0 M 0 [(0, .ref (b + t0)), (1, .ref (b + a1)), (2, .ref (b + a2))] []
  unfold fX5_fill at h
  refine r_iconst (v := 0) X rfl dX5_fill_0 1 rfl ?_
  refine r_istore_n X dX5_fill_1 2 rfl [(0, .ref (b + t0)), (1, .ref (b + a1)), (2, .ref (b + a2)), (3, .int 0)] (by decide) [1, 2, 3, 0] rfl ?_
  obtain ⟨M3, hL4, h⟩ := z_bd h
  have hK4 : GW Γ G b 0 0 M3 26 [] [] := by
    cases h
    exact r_vret X R dX5_fill_26
  clear h
  refine z_loopP (fun (s : (Int32 × zM)) => GW Γ G b 0 0 s.2 2 [(0, .ref (b + t0)), (1, .ref (b + a1)), (2, .ref (b + a2)), (3, .int s.1)] []) (fun s q4 hb hP4 hx4 => ?_) _ _ hL4
  obtain ⟨x1, M2⟩ := s
  have h : fX5_fill_L1 t0 a1 a2 x1 M2 = some q4 := hb
  unfold fX5_fill_L1 at h
  refine r_iload_n X 3 rfl dX5_fill_2 3 rfl ?_
  refine r_sipush (v := 128) X rfl dX5_fill_3 6 rfl ?_
  refine r_icmp_ge X dX5_fill_6 26 (by decide) 9 rfl (fun c5 => ?_) (fun c5 => ?_)
  · have h := z_it c5 h
    refine r_sub [] [] rfl ?_
    have e := hx4 _ (Option.some.inj h).symm
    cases e
    exact hK4
  · have h := z_ie c5 h
    refine r_aload_n X 0 rfl dX5_fill_9 10 rfl ?_
    refine r_aload_n X 1 rfl dX5_fill_10 11 rfl ?_
    refine r_iload_n X 3 rfl dX5_fill_11 12 rfl ?_
    refine r_aload_n X 2 rfl dX5_fill_12 13 rfl ?_
    refine r_iload_n X 3 rfl dX5_fill_13 14 rfl ?_
    obtain ⟨x6, e6, h⟩ := z_bd h
    refine r_callVN (rest := [.int x1, .ref (b + a1), .ref (b + t0)]) X (tX4_blockOf hl G b a2 ha2 x1 M2 e6) zy_X4_blockOf zw_X4_blockOf km_X5_92 ha2 rfl zv_X4 rfl ⟨rfl, rfl⟩ ⟨rfl, rfl⟩ rfl rfl (Nat.le_of_ble_eq_true rfl) ⟨Nat.zero_le _, Nat.zero_le _⟩ dX5_fill_14 17 rfl [.int x6, .int x1, .ref (b + a1), .ref (b + t0)] rfl ?_
    obtain ⟨M7, e7, h⟩ := z_bd h
    refine r_callV (rest := []) X (tX5_put hl G b t0 ht0 a1 ha1 x1 x6 M2 e7) zy_X5_put zw_X5_put km_X5_108 ht0 rfl zv_X5 rfl ⟨rfl, rfl⟩ ⟨rfl, rfl⟩ rfl rfl (Nat.le_of_ble_eq_true rfl) ⟨Nat.zero_le _, Nat.zero_le _⟩ dX5_fill_17 20 rfl [] rfl ?_
    refine r_iinc X dX5_fill_20 23 rfl [(0, .ref (b + t0)), (1, .ref (b + a1)), (2, .ref (b + a2)), (3, .int (x1 + 1))] (by decide) 3 rfl (x1 + 1) rfl [1, 2, 3, 0] rfl ?_
    refine r_goto X dX5_fill_23 2 (by decide) ?_
    exact hP4 ((x1 + 1), M7) (Option.some.inj h).symm
set_option maxRecDepth 100000 in
set_option maxHeartbeats 1000000 in
theorem tX5_take {l : Launch} (hl : l.stackTraces = false) (G : zG) (b : Nat) (t0 : Nat) (ht0 : z_kd t0 = 5) (a1 : Nat) (ha1 : z_kd a1 = 2) (a2 : Nat) (ha2 : z_kd a2 = 0) (a3 : Int32) (M : zM) {M9 : zM} (h : fX5_take t0 a1 a2 a3 M = some M9) : z_MN l yX5_take cX5_take 4 none { frames := 4, cells := 0, slots := 0, locals := 87 } G b [.ref (b + t0), .ref (b + a1), .ref (b + a2), .int a3] M none M9 := by
  refine z_met (own := RX5) hl (by decide) rfl rfl (fun Γ hΓ X R => ?_)
  subst hΓ
  show GW Γ G b 0 0 M 0 [(0, .ref (b + t0)), (1, .ref (b + a1)), (2, .ref (b + a2)), (3, .int a3)] []
  unfold fX5_take at h
  refine r_aload_n X 1 rfl dX5_take_0 1 rfl ?_
  refine r_aload_n X 0 rfl dX5_take_1 2 rfl ?_
  refine r_iload_n X 3 rfl dX5_take_2 3 rfl ?_
  obtain ⟨x1, e1, h⟩ := z_bd h
  refine r_callV (rest := [.ref (b + a1)]) X (tX5_snapshotsOf hl G b t0 ht0 a3 M e1) zy_X5_snapshotsOf zw_X5_snapshotsOf km_X5_115 ht0 rfl zv_X5 rfl ⟨rfl, rfl⟩ ⟨rfl, rfl⟩ rfl rfl (Nat.le_of_ble_eq_true rfl) ⟨Nat.zero_le _, Nat.zero_le _⟩ dX5_take_3 6 rfl [.int x1, .ref (b + a1)] rfl ?_
  obtain ⟨M2, e2, h⟩ := z_bd h
  refine r_putN X ha1 rfl zv_X2 zi_X2 rfl kf_X5_76 rfl tyX2_ok nmX2 rfl rfl rfl rfl rfl rfl (Option.some.inj e2) dX5_take_6 9 rfl ?_
  refine r_aload_n X 1 rfl dX5_take_9 10 rfl ?_
  refine r_iload_n X 3 rfl dX5_take_10 11 rfl ?_
  obtain ⟨M3, e3, h⟩ := z_bd h
  refine r_putN X ha1 rfl zv_X2 zi_X2 rfl kf_X5_89 rfl tyX2_ok nmX2 rfl rfl rfl rfl rfl rfl (Option.some.inj e3) dX5_take_11 14 rfl ?_
  refine r_aload_n X 1 rfl dX5_take_14 15 rfl ?_
  refine r_aload_n X 0 rfl dX5_take_15 16 rfl ?_
  refine r_get (v := .int (M3 t0 5)) X ht0 rfl zv_X5 zi_X5 rfl kf_X5_40 rfl rfl dX5_take_16 19 rfl ?_
  obtain ⟨M4, e4, h⟩ := z_bd h
  refine r_putN X ha1 rfl zv_X2 zi_X2 rfl kf_X5_71 rfl tyX2_ok nmX2 rfl rfl rfl rfl rfl rfl (Option.some.inj e4) dX5_take_19 22 rfl ?_
  refine r_aload_n X 1 rfl dX5_take_22 23 rfl ?_
  refine r_aload_n X 0 rfl dX5_take_23 24 rfl ?_
  refine r_get (v := .int (M4 t0 4)) X ht0 rfl zv_X5 zi_X5 rfl kf_X5_36 rfl rfl dX5_take_24 27 rfl ?_
  obtain ⟨M5, e5, h⟩ := z_bd h
  refine r_putN X ha1 rfl zv_X2 zi_X2 rfl kf_X5_118 rfl tyX2_ok nmX2 rfl rfl rfl rfl rfl rfl (Option.some.inj e5) dX5_take_27 30 rfl ?_
  refine r_aload_n X 1 rfl dX5_take_30 31 rfl ?_
  refine r_iconst (v := 1) X rfl dX5_take_31 32 rfl ?_
  obtain ⟨M6, e6, h⟩ := z_bd h
  obtain ⟨hn6, hf6, e6⟩ := z_pz_of e6
  refine r_putN X ha1 rfl zv_X2 zi_X2 rfl kf_X5_70 rfl tyX2_ok nmX2 rfl rfl hn6 hf6 rfl rfl e6.symm dX5_take_32 35 rfl ?_
  refine r_aload_n X 0 rfl dX5_take_35 36 rfl ?_
  refine r_aload_n X 1 rfl dX5_take_36 37 rfl ?_
  refine r_getN (v := .ref (b + (a1 + 1))) X ha1 rfl zv_X2 zi_X2 rfl kf_X5_121 rfl rfl dX5_take_37 40 rfl ?_
  refine r_aload_n X 2 rfl dX5_take_40 41 rfl ?_
  refine r_getN (v := .ref (b + (a2 + 1))) X ha2 rfl zv_X0 zi_X0 rfl kf_X5_125 rfl rfl dX5_take_41 44 rfl ?_
  obtain ⟨M7, e7, h⟩ := z_bd h
  refine r_callV (rest := []) X (tX5_fill hl G b t0 ht0 (a1 + 1) (zk_2_0 ha1) (a2 + 1) (zk_0_0 ha2) M6 e7) zy_X5_fill zw_X5_fill km_X5_126 ht0 rfl zv_X5 rfl ⟨rfl, rfl⟩ ⟨rfl, rfl⟩ rfl rfl (Nat.le_of_ble_eq_true rfl) ⟨Nat.zero_le _, Nat.zero_le _⟩ dX5_take_44 47 rfl [] rfl ?_
  refine r_aload_n X 0 rfl dX5_take_47 48 rfl ?_
  refine r_dup X rfl dX5_take_48 49 rfl ?_
  refine r_get (v := .int (M7 t0 5)) X ht0 rfl zv_X5 zi_X5 rfl kf_X5_40 rfl rfl dX5_take_49 52 rfl ?_
  refine r_iconst (v := 1) X rfl dX5_take_52 53 rfl ?_
  refine r_iadd X dX5_take_53 54 rfl ?_
  obtain ⟨M8, e8, h⟩ := z_bd h
  refine r_put X ht0 rfl zv_X5 zi_X5 rfl kf_X5_40 rfl tyX5_ok nmX5 rfl rfl rfl rfl rfl rfl (Option.some.inj e8) dX5_take_54 57 rfl ?_
  cases h
  exact r_vret X R dX5_take_57
set_option maxRecDepth 100000 in
set_option maxHeartbeats 1000000 in
theorem tX5_findSnapshot {l : Launch} (hl : l.stackTraces = false) (G : zG) (b : Nat) (t0 : Nat) (ht0 : z_kd t0 = 5) (a1 : Int32) (M : zM) {r9 : Option Nat} (h : fX5_findSnapshot t0 a1 M = some r9) : z_MN l yX5_findSnapshot cX5_findSnapshot 3 (some (.object "Cowmeadow$Snapshot")) { frames := 0, cells := 0, slots := 0, locals := 0 } G b [.ref (b + t0), .int a1] M (some (z_v b r9)) M := by
  refine z_met (own := RX5) hl (by decide) rfl rfl (fun Γ hΓ X R => ?_)
  subst hΓ
  show GW Γ G b 0 0 M 0 [(0, .ref (b + t0)), (1, .int a1)] []
  unfold fX5_findSnapshot at h
  refine r_iconst (v := 0) X rfl dX5_findSnapshot_0 1 rfl ?_
  refine r_istore_n X dX5_findSnapshot_1 2 rfl [(0, .ref (b + t0)), (1, .int a1), (2, .int 0)] (by decide) [1, 2, 0] rfl ?_
  obtain ⟨z2, hL2, h⟩ := z_bd h
  have hK2 : z2 = .inl () → GW Γ G b 0 0 M 46 [] [] := by
    intro e
    subst e
    have h := z_scl h
    refine r_null X dX5_findSnapshot_46 47 rfl ?_
    cases h
    exact r_aret X R (Or.inl rfl) dX5_findSnapshot_47
  have hR2 : ∀ u9, z2 = .inr u9 → some u9 = some r9 := by
    intro u9 e
    subst e
    exact z_scr h
  clear h
  refine z_loopP (fun (s : Int32) => GW Γ G b 0 0 M 2 [(0, .ref (b + t0)), (1, .int a1), (2, .int s)] []) (fun s q2 hb hP2 hx2 => ?_) _ _ hL2
  obtain ⟨x1, rfl⟩ : ∃ y, y = s := ⟨s, rfl⟩
  have h : fX5_findSnapshot_L1 t0 a1 M x1 = some q2 := hb
  unfold fX5_findSnapshot_L1 at h
  refine r_iload_n X 2 rfl dX5_findSnapshot_2 3 rfl ?_
  refine r_bipush (v := 12) X rfl dX5_findSnapshot_3 5 rfl ?_
  refine r_icmp_ge X dX5_findSnapshot_5 46 (by decide) 8 rfl (fun c3 => ?_) (fun c3 => ?_)
  · have h := z_it c3 h
    refine r_sub [] [] rfl ?_
    exact hK2  (hx2 _ (Option.some.inj h).symm).symm
  · have h := z_ie c3 h
    refine r_aload_n X 0 rfl dX5_findSnapshot_8 9 rfl ?_
    refine r_get (v := .ref (b + (t0 + 2))) X ht0 rfl zv_X5 zi_X5 rfl kf_X5_19 rfl rfl dX5_findSnapshot_9 12 rfl ?_
    refine r_iload_n X 2 rfl dX5_findSnapshot_12 13 rfl ?_
    obtain ⟨x4, e4, h⟩ := z_bd h
    have hk4 := zq_12 (zk_5_1 ht0) e4
    refine r_aaload (C := RX2) X (zk_5_1 ht0) rfl rfl (zn_5_1 ht0) e4 rfl dX5_findSnapshot_13 (z_lt rfl (zk_5_1 ht0)) 14 rfl ?_
    refine r_getN (v := .int (M x4 1)) X hk4 rfl zv_X2 zi_X2 rfl kf_X5_70 rfl rfl dX5_findSnapshot_14 17 rfl ?_
    refine r_if_eq X dX5_findSnapshot_17 40 (by decide) 20 rfl (fun c5 => ?_) (fun c5 => ?_)
    · have h := z_it c5 h
      refine r_iinc X dX5_findSnapshot_40 43 rfl [(0, .ref (b + t0)), (1, .int a1), (2, .int (x1 + 1))] (by decide) 2 rfl (x1 + 1) rfl [1, 2, 0] rfl ?_
      refine r_goto X dX5_findSnapshot_43 2 (by decide) ?_
      exact hP2 (x1 + 1) (Option.some.inj h).symm
    · have h := z_ie c5 h
      refine r_aload_n X 0 rfl dX5_findSnapshot_20 21 rfl ?_
      refine r_get (v := .ref (b + (t0 + 2))) X ht0 rfl zv_X5 zi_X5 rfl kf_X5_19 rfl rfl dX5_findSnapshot_21 24 rfl ?_
      refine r_iload_n X 2 rfl dX5_findSnapshot_24 25 rfl ?_
      obtain ⟨x6, e6, h⟩ := z_bd h
      have hk6 := zq_12 (zk_5_1 ht0) e6
      refine r_aaload (C := RX2) X (zk_5_1 ht0) rfl rfl (zn_5_1 ht0) e6 rfl dX5_findSnapshot_25 (z_lt rfl (zk_5_1 ht0)) 26 rfl ?_
      refine r_getN (v := .int (M x6 2)) X hk6 rfl zv_X2 zi_X2 rfl kf_X5_71 rfl rfl dX5_findSnapshot_26 29 rfl ?_
      refine r_iload_n X 1 rfl dX5_findSnapshot_29 30 rfl ?_
      refine r_icmp_ne X dX5_findSnapshot_30 40 (by decide) 33 rfl (fun c7 => ?_) (fun c7 => ?_)
      · have h := z_ie c7 h
        refine r_iinc X dX5_findSnapshot_40 43 rfl [(0, .ref (b + t0)), (1, .int a1), (2, .int (x1 + 1))] (by decide) 2 rfl (x1 + 1) rfl [1, 2, 0] rfl ?_
        refine r_goto X dX5_findSnapshot_43 2 (by decide) ?_
        exact hP2 (x1 + 1) (Option.some.inj h).symm
      · have h := z_it c7 h
        refine r_aload_n X 0 rfl dX5_findSnapshot_33 34 rfl ?_
        refine r_get (v := .ref (b + (t0 + 2))) X ht0 rfl zv_X5 zi_X5 rfl kf_X5_19 rfl rfl dX5_findSnapshot_34 37 rfl ?_
        refine r_iload_n X 2 rfl dX5_findSnapshot_37 38 rfl ?_
        obtain ⟨x8, e8, h⟩ := z_bd h
        have hk8 := zq_12 (zk_5_1 ht0) e8
        refine r_aaload (C := RX2) X (zk_5_1 ht0) rfl rfl (zn_5_1 ht0) e8 rfl dX5_findSnapshot_38 (z_lt rfl (zk_5_1 ht0)) 39 rfl ?_
        have h := hR2 _ (hx2 _ (Option.some.inj h).symm).symm
        cases h
        exact r_aret X R (Or.inr ⟨_, rfl⟩) dX5_findSnapshot_39
set_option maxRecDepth 100000 in
set_option maxHeartbeats 1000000 in
theorem tX5_snapshotOfRank {l : Launch} (hl : l.stackTraces = false) (G : zG) (b : Nat) (t0 : Nat) (ht0 : z_kd t0 = 5) (a1 : Int32) (a2 : Int32) (M : zM) {r9 : Option Nat} (h : fX5_snapshotOfRank t0 a1 a2 M = some r9) : z_MN l yX5_snapshotOfRank cX5_snapshotOfRank 4 (some (.object "Cowmeadow$Snapshot")) { frames := 1, cells := 0, slots := 0, locals := 21 } G b [.ref (b + t0), .int a1, .int a2] M (some (z_v b r9)) M := by
  refine z_met (own := RX5) hl (by decide) rfl rfl (fun Γ hΓ X R => ?_)
  subst hΓ
  show GW Γ G b 0 0 M 0 [(0, .ref (b + t0)), (1, .int a1), (2, .int a2)] []
  unfold fX5_snapshotOfRank at h
  refine r_iconst (v := 0) X rfl dX5_snapshotOfRank_0 1 rfl ?_
  refine r_istore_n X dX5_snapshotOfRank_1 2 rfl [(0, .ref (b + t0)), (1, .int a1), (2, .int a2), (3, .int 0)] (by decide) [1, 2, 3, 0] rfl ?_
  obtain ⟨z2, hL2, h⟩ := z_bd h
  have hK2 : z2 = .inl () → GW Γ G b 0 0 M 47 [] [] := by
    intro e
    subst e
    have h := z_scl h
    refine r_null X dX5_snapshotOfRank_47 48 rfl ?_
    cases h
    exact r_aret X R (Or.inl rfl) dX5_snapshotOfRank_48
  have hR2 : ∀ u9, z2 = .inr u9 → some u9 = some r9 := by
    intro u9 e
    subst e
    exact z_scr h
  clear h
  refine z_loopP (fun (s : Int32) => GW Γ G b 0 0 M 2 [(0, .ref (b + t0)), (1, .int a1), (2, .int a2), (3, .int s)] []) (fun s q2 hb hP2 hx2 => ?_) _ _ hL2
  obtain ⟨x1, rfl⟩ : ∃ y, y = s := ⟨s, rfl⟩
  have h : fX5_snapshotOfRank_L1 t0 a1 a2 M x1 = some q2 := hb
  unfold fX5_snapshotOfRank_L1 at h
  refine r_iload_n X 3 rfl dX5_snapshotOfRank_2 3 rfl ?_
  refine r_bipush (v := 12) X rfl dX5_snapshotOfRank_3 5 rfl ?_
  refine r_icmp_ge X dX5_snapshotOfRank_5 47 (by decide) 8 rfl (fun c3 => ?_) (fun c3 => ?_)
  · have h := z_it c3 h
    refine r_sub [] [] rfl ?_
    exact hK2  (hx2 _ (Option.some.inj h).symm).symm
  · have h := z_ie c3 h
    refine r_aload_n X 0 rfl dX5_snapshotOfRank_8 9 rfl ?_
    refine r_get (v := .ref (b + (t0 + 2))) X ht0 rfl zv_X5 zi_X5 rfl kf_X5_19 rfl rfl dX5_snapshotOfRank_9 12 rfl ?_
    refine r_iload_n X 3 rfl dX5_snapshotOfRank_12 13 rfl ?_
    obtain ⟨x4, e4, h⟩ := z_bd h
    have hk4 := zq_12 (zk_5_1 ht0) e4
    refine r_aaload (C := RX2) X (zk_5_1 ht0) rfl rfl (zn_5_1 ht0) e4 rfl dX5_snapshotOfRank_13 (z_lt rfl (zk_5_1 ht0)) 14 rfl ?_
    refine r_iload_n X 1 rfl dX5_snapshotOfRank_14 15 rfl ?_
    obtain ⟨x5, e5, h⟩ := z_bd h
    refine r_callVN (rest := []) X (tX2_belongsTo hl G b x4 hk4 a1 M e5) zy_X2_belongsTo zw_X2_belongsTo km_X5_72 hk4 rfl zv_X2 rfl ⟨rfl, rfl⟩ ⟨rfl, rfl⟩ rfl rfl (Nat.le_of_ble_eq_true rfl) ⟨Nat.zero_le _, Nat.zero_le _⟩ dX5_snapshotOfRank_15 18 rfl [.int x5] rfl ?_
    refine r_if_eq X dX5_snapshotOfRank_18 41 (by decide) 21 rfl (fun c6 => ?_) (fun c6 => ?_)
    · have h := z_it c6 h
      refine r_iinc X dX5_snapshotOfRank_41 44 rfl [(0, .ref (b + t0)), (1, .int a1), (2, .int a2), (3, .int (x1 + 1))] (by decide) 3 rfl (x1 + 1) rfl [1, 2, 3, 0] rfl ?_
      refine r_goto X dX5_snapshotOfRank_44 2 (by decide) ?_
      exact hP2 (x1 + 1) (Option.some.inj h).symm
    · have h := z_ie c6 h
      refine r_aload_n X 0 rfl dX5_snapshotOfRank_21 22 rfl ?_
      refine r_get (v := .ref (b + (t0 + 2))) X ht0 rfl zv_X5 zi_X5 rfl kf_X5_19 rfl rfl dX5_snapshotOfRank_22 25 rfl ?_
      refine r_iload_n X 3 rfl dX5_snapshotOfRank_25 26 rfl ?_
      obtain ⟨x7, e7, h⟩ := z_bd h
      have hk7 := zq_12 (zk_5_1 ht0) e7
      refine r_aaload (C := RX2) X (zk_5_1 ht0) rfl rfl (zn_5_1 ht0) e7 rfl dX5_snapshotOfRank_26 (z_lt rfl (zk_5_1 ht0)) 27 rfl ?_
      refine r_getN (v := .int (M x7 4)) X hk7 rfl zv_X2 zi_X2 rfl kf_X5_76 rfl rfl dX5_snapshotOfRank_27 30 rfl ?_
      refine r_iload_n X 2 rfl dX5_snapshotOfRank_30 31 rfl ?_
      refine r_icmp_ne X dX5_snapshotOfRank_31 41 (by decide) 34 rfl (fun c8 => ?_) (fun c8 => ?_)
      · have h := z_ie c8 h
        refine r_iinc X dX5_snapshotOfRank_41 44 rfl [(0, .ref (b + t0)), (1, .int a1), (2, .int a2), (3, .int (x1 + 1))] (by decide) 3 rfl (x1 + 1) rfl [1, 2, 3, 0] rfl ?_
        refine r_goto X dX5_snapshotOfRank_44 2 (by decide) ?_
        exact hP2 (x1 + 1) (Option.some.inj h).symm
      · have h := z_it c8 h
        refine r_aload_n X 0 rfl dX5_snapshotOfRank_34 35 rfl ?_
        refine r_get (v := .ref (b + (t0 + 2))) X ht0 rfl zv_X5 zi_X5 rfl kf_X5_19 rfl rfl dX5_snapshotOfRank_35 38 rfl ?_
        refine r_iload_n X 3 rfl dX5_snapshotOfRank_38 39 rfl ?_
        obtain ⟨x9, e9, h⟩ := z_bd h
        have hk9 := zq_12 (zk_5_1 ht0) e9
        refine r_aaload (C := RX2) X (zk_5_1 ht0) rfl rfl (zn_5_1 ht0) e9 rfl dX5_snapshotOfRank_39 (z_lt rfl (zk_5_1 ht0)) 40 rfl ?_
        have h := hR2 _ (hx2 _ (Option.some.inj h).symm).symm
        cases h
        exact r_aret X R (Or.inr ⟨_, rfl⟩) dX5_snapshotOfRank_40
set_option maxRecDepth 100000 in
set_option maxHeartbeats 1000000 in
theorem tX5_isOrigin {l : Launch} (hl : l.stackTraces = false) (G : zG) (b : Nat) (t0 : Nat) (ht0 : z_kd t0 = 5) (a1 : Int32) (M : zM) {r9 : Int32} (h : fX5_isOrigin t0 a1 M = some r9) : z_MN l yX5_isOrigin cX5_isOrigin 3 (some .boolean) { frames := 0, cells := 0, slots := 0, locals := 0 } G b [.ref (b + t0), .int a1] M (some (.int r9)) M := by
  refine z_met (own := RX5) hl (by decide) rfl rfl (fun Γ hΓ X R => ?_)
  subst hΓ
  show GW Γ G b 0 0 M 0 [(0, .ref (b + t0)), (1, .int a1)] []
  unfold fX5_isOrigin at h
  refine r_iconst (v := 0) X rfl dX5_isOrigin_0 1 rfl ?_
  refine r_istore_n X dX5_isOrigin_1 2 rfl [(0, .ref (b + t0)), (1, .int a1), (2, .int 0)] (by decide) [1, 2, 0] rfl ?_
  obtain ⟨z2, hL2, h⟩ := z_bd h
  have hK2 : z2 = .inl () → GW Γ G b 0 0 M 41 [] [] := by
    intro e
    subst e
    have h := z_scl h
    refine r_iconst (v := 0) X rfl dX5_isOrigin_41 42 rfl ?_
    cases h
    exact r_iret X R rfl dX5_isOrigin_42
  have hR2 : ∀ u9, z2 = .inr u9 → some u9 = some r9 := by
    intro u9 e
    subst e
    exact z_scr h
  clear h
  refine z_loopP (fun (s : Int32) => GW Γ G b 0 0 M 2 [(0, .ref (b + t0)), (1, .int a1), (2, .int s)] []) (fun s q2 hb hP2 hx2 => ?_) _ _ hL2
  obtain ⟨x1, rfl⟩ : ∃ y, y = s := ⟨s, rfl⟩
  have h : fX5_isOrigin_L1 t0 a1 M x1 = some q2 := hb
  unfold fX5_isOrigin_L1 at h
  refine r_iload_n X 2 rfl dX5_isOrigin_2 3 rfl ?_
  refine r_bipush (v := 6) X rfl dX5_isOrigin_3 5 rfl ?_
  refine r_icmp_ge X dX5_isOrigin_5 41 (by decide) 8 rfl (fun c3 => ?_) (fun c3 => ?_)
  · have h := z_it c3 h
    refine r_sub [] [] rfl ?_
    exact hK2  (hx2 _ (Option.some.inj h).symm).symm
  · have h := z_ie c3 h
    refine r_aload_n X 0 rfl dX5_isOrigin_8 9 rfl ?_
    refine r_get (v := .ref (b + (t0 + 1))) X ht0 rfl zv_X5 zi_X5 rfl kf_X5_11 rfl rfl dX5_isOrigin_9 12 rfl ?_
    refine r_iload_n X 2 rfl dX5_isOrigin_12 13 rfl ?_
    obtain ⟨x4, e4, h⟩ := z_bd h
    have hk4 := zq_11 (zk_5_0 ht0) e4
    refine r_aaload (C := RX0) X (zk_5_0 ht0) rfl rfl (zn_5_0 ht0) e4 rfl dX5_isOrigin_13 (z_lt rfl (zk_5_0 ht0)) 14 rfl ?_
    refine r_getN (v := .int (M x4 1)) X hk4 rfl zv_X0 zi_X0 rfl kf_X5_66 rfl rfl dX5_isOrigin_14 17 rfl ?_
    refine r_if_eq X dX5_isOrigin_17 35 (by decide) 20 rfl (fun c5 => ?_) (fun c5 => ?_)
    · have h := z_it c5 h
      refine r_iinc X dX5_isOrigin_35 38 rfl [(0, .ref (b + t0)), (1, .int a1), (2, .int (x1 + 1))] (by decide) 2 rfl (x1 + 1) rfl [1, 2, 0] rfl ?_
      refine r_goto X dX5_isOrigin_38 2 (by decide) ?_
      exact hP2 (x1 + 1) (Option.some.inj h).symm
    · have h := z_ie c5 h
      refine r_aload_n X 0 rfl dX5_isOrigin_20 21 rfl ?_
      refine r_get (v := .ref (b + (t0 + 1))) X ht0 rfl zv_X5 zi_X5 rfl kf_X5_11 rfl rfl dX5_isOrigin_21 24 rfl ?_
      refine r_iload_n X 2 rfl dX5_isOrigin_24 25 rfl ?_
      obtain ⟨x6, e6, h⟩ := z_bd h
      have hk6 := zq_11 (zk_5_0 ht0) e6
      refine r_aaload (C := RX0) X (zk_5_0 ht0) rfl rfl (zn_5_0 ht0) e6 rfl dX5_isOrigin_25 (z_lt rfl (zk_5_0 ht0)) 26 rfl ?_
      refine r_getN (v := .int (M x6 2)) X hk6 rfl zv_X0 zi_X0 rfl kf_X5_79 rfl rfl dX5_isOrigin_26 29 rfl ?_
      refine r_iload_n X 1 rfl dX5_isOrigin_29 30 rfl ?_
      refine r_icmp_ne X dX5_isOrigin_30 35 (by decide) 33 rfl (fun c7 => ?_) (fun c7 => ?_)
      · have h := z_ie c7 h
        refine r_iinc X dX5_isOrigin_35 38 rfl [(0, .ref (b + t0)), (1, .int a1), (2, .int (x1 + 1))] (by decide) 2 rfl (x1 + 1) rfl [1, 2, 0] rfl ?_
        refine r_goto X dX5_isOrigin_38 2 (by decide) ?_
        exact hP2 (x1 + 1) (Option.some.inj h).symm
      · have h := z_it c7 h
        refine r_iconst (v := 1) X rfl dX5_isOrigin_33 34 rfl ?_
        have h := hR2 _ (hx2 _ (Option.some.inj h).symm).symm
        cases h
        exact r_iret X R rfl dX5_isOrigin_34
set_option maxRecDepth 100000 in
set_option maxHeartbeats 1000000 in
theorem tX5_isBehind {l : Launch} (hl : l.stackTraces = false) (G : zG) (b : Nat) (t0 : Nat) (ht0 : z_kd t0 = 5) (a1 : Nat) (ha1 : z_kd a1 = 2) (a2 : Nat) (ha2 : z_kd a2 = 2) (M : zM) {r9 : Int32} (h : fX5_isBehind t0 a1 a2 M = some r9) : z_MN l yX5_isBehind cX5_isBehind 3 (some .boolean) { frames := 1, cells := 0, slots := 0, locals := 21 } G b [.ref (b + t0), .ref (b + a1), .ref (b + a2)] M (some (.int r9)) M := by
  refine z_met (own := RX5) hl (by decide) rfl rfl (fun Γ hΓ X R => ?_)
  subst hΓ
  show GW Γ G b 0 0 M 0 [(0, .ref (b + t0)), (1, .ref (b + a1)), (2, .ref (b + a2))] []
  unfold fX5_isBehind at h
  refine r_sub [(1, .ref (b + a1)), (2, .ref (b + a2))] [1, 2] rfl ?_
  refine r_aload_n X 0 rfl dX5_isBehind_0 1 rfl ?_
  refine r_aload_n X 1 rfl dX5_isBehind_1 2 rfl ?_
  refine r_getN (v := .int (M a2 3)) X ha2 rfl zv_X2 zi_X2 rfl kf_X5_89 rfl rfl dX5_isBehind_2 5 rfl ?_
  obtain ⟨x1, e1, h⟩ := z_bd h
  refine r_callVN (rest := []) X (tX2_belongsTo hl G b a1 ha1 (M a2 3) M e1) zy_X2_belongsTo zw_X2_belongsTo km_X5_72 ha1 rfl zv_X2 rfl ⟨rfl, rfl⟩ ⟨rfl, rfl⟩ rfl rfl (Nat.le_of_ble_eq_true rfl) ⟨Nat.zero_le _, Nat.zero_le _⟩ dX5_isBehind_5 8 rfl [.int x1] rfl ?_
  refine r_if_eq X dX5_isBehind_8 26 (by decide) 11 rfl (fun c2 => ?_) (fun c2 => ?_)
  · have h := z_it c2 h
    refine r_iconst (v := 0) X rfl dX5_isBehind_26 27 rfl ?_
    cases h
    exact r_iret X R rfl dX5_isBehind_27
  · have h := z_ie c2 h
    refine r_aload_n X 0 rfl dX5_isBehind_11 12 rfl ?_
    refine r_getN (v := .int (M a1 4)) X ha1 rfl zv_X2 zi_X2 rfl kf_X5_76 rfl rfl dX5_isBehind_12 15 rfl ?_
    refine r_aload_n X 1 rfl dX5_isBehind_15 16 rfl ?_
    refine r_getN (v := .int (M a2 4)) X ha2 rfl zv_X2 zi_X2 rfl kf_X5_76 rfl rfl dX5_isBehind_16 19 rfl ?_
    refine r_icmp_le X dX5_isBehind_19 26 (by decide) 22 rfl (fun c3 => ?_) (fun c3 => ?_)
    · have h := z_it c3 h
      refine r_iconst (v := 0) X rfl dX5_isBehind_26 27 rfl ?_
      cases h
      exact r_iret X R rfl dX5_isBehind_27
    · have h := z_ie c3 h
      refine r_iconst (v := 1) X rfl dX5_isBehind_22 23 rfl ?_
      refine r_goto X dX5_isBehind_23 27 (by decide) ?_
      cases h
      exact r_iret X R rfl dX5_isBehind_27
set_option maxRecDepth 100000 in
set_option maxHeartbeats 1000000 in
theorem tX5_clear {l : Launch} (hl : l.stackTraces = false) (G : zG) (b : Nat) (t0 : Nat) (ht0 : z_kd t0 = 5) (a1 : Nat) (ha1 : z_kd a1 = 4) (M : zM) {M9 : zM} (h : fX5_clear t0 a1 M = some M9) : z_MN l yX5_clear cX5_clear 3 none { frames := 3, cells := 0, slots := 0, locals := 64 } G b [.ref (b + t0), .ref (b + a1)] M none M9 := by
  refine z_met (own := RX5) hl (by decide) rfl rfl (fun Γ hΓ X R => ?_)
  subst hΓ
  show GW Γ G b 0 0 M 0 [(0, .ref (b + t0)), (1, .ref (b + a1))] []
  unfold fX5_clear at h
  refine r_iconst (v := 0) X rfl dX5_clear_0 1 rfl ?_
  refine r_istore_n X dX5_clear_1 2 rfl [(0, .ref (b + t0)), (1, .ref (b + a1)), (2, .int 0)] (by decide) [1, 2, 0] rfl ?_
  obtain ⟨M3, hL4, h⟩ := z_bd h
  have hK4 : GW Γ G b 0 0 M3 22 [] [] := by
    cases h
    exact r_vret X R dX5_clear_22
  clear h
  refine z_loopP (fun (s : (Int32 × zM)) => GW Γ G b 0 0 s.2 2 [(0, .ref (b + t0)), (1, .ref (b + a1)), (2, .int s.1)] []) (fun s q4 hb hP4 hx4 => ?_) _ _ hL4
  obtain ⟨x1, M2⟩ := s
  have h : fX5_clear_L1 t0 a1 x1 M2 = some q4 := hb
  unfold fX5_clear_L1 at h
  refine r_iload_n X 2 rfl dX5_clear_2 3 rfl ?_
  refine r_sipush (v := 128) X rfl dX5_clear_3 6 rfl ?_
  refine r_icmp_ge X dX5_clear_6 22 (by decide) 9 rfl (fun c5 => ?_) (fun c5 => ?_)
  · have h := z_it c5 h
    refine r_sub [] [] rfl ?_
    have e := hx4 _ (Option.some.inj h).symm
    cases e
    exact hK4
  · have h := z_ie c5 h
    refine r_aload_n X 0 rfl dX5_clear_9 10 rfl ?_
    refine r_aload_n X 1 rfl dX5_clear_10 11 rfl ?_
    refine r_iload_n X 2 rfl dX5_clear_11 12 rfl ?_
    refine r_iconst (v := (-1)) X rfl dX5_clear_12 13 rfl ?_
    obtain ⟨M6, e6, h⟩ := z_bd h
    refine r_callV (rest := []) X (tX5_put hl G b t0 ht0 a1 ha1 x1 (-1) M2 e6) zy_X5_put zw_X5_put km_X5_108 ht0 rfl zv_X5 rfl ⟨rfl, rfl⟩ ⟨rfl, rfl⟩ rfl rfl (Nat.le_of_ble_eq_true rfl) ⟨Nat.zero_le _, Nat.zero_le _⟩ dX5_clear_13 16 rfl [] rfl ?_
    refine r_iinc X dX5_clear_16 19 rfl [(0, .ref (b + t0)), (1, .ref (b + a1)), (2, .int (x1 + 1))] (by decide) 2 rfl (x1 + 1) rfl [1, 2, 0] rfl ?_
    refine r_goto X dX5_clear_19 2 (by decide) ?_
    exact hP4 ((x1 + 1), M6) (Option.some.inj h).symm
set_option maxRecDepth 100000 in
set_option maxHeartbeats 1000000 in
theorem tX5_drop {l : Launch} (hl : l.stackTraces = false) (G : zG) (b : Nat) (t0 : Nat) (ht0 : z_kd t0 = 5) (a1 : Nat) (ha1 : z_kd a1 = 2) (M : zM) {M9 : zM} (h : fX5_drop t0 a1 M = some M9) : z_MN l yX5_drop cX5_drop 3 none { frames := 4, cells := 0, slots := 0, locals := 86 } G b [.ref (b + t0), .ref (b + a1)] M none M9 := by
  refine z_met (own := RX5) hl (by decide) rfl rfl (fun Γ hΓ X R => ?_)
  subst hΓ
  show GW Γ G b 0 0 M 0 [(0, .ref (b + t0)), (1, .ref (b + a1))] []
  unfold fX5_drop at h
  refine r_iconst (v := 0) X rfl dX5_drop_0 1 rfl ?_
  refine r_istore_n X dX5_drop_1 2 rfl [(0, .ref (b + t0)), (1, .ref (b + a1)), (2, .int 0)] (by decide) [1, 2, 0] rfl ?_
  obtain ⟨M3, hL4, h⟩ := z_bd h
  have hK4 : GW Γ G b 0 0 M3 43 [(0, .ref (b + t0)), (1, .ref (b + a1))] [] := by
    refine r_aload_n X 0 rfl dX5_drop_43 44 rfl ?_
    refine r_aload_n X 1 rfl dX5_drop_44 45 rfl ?_
    refine r_getN (v := .ref (b + (a1 + 1))) X ha1 rfl zv_X2 zi_X2 rfl kf_X5_121 rfl rfl dX5_drop_45 48 rfl ?_
    obtain ⟨M5, e5, h⟩ := z_bd h
    refine r_callV (rest := []) X (tX5_clear hl G b t0 ht0 (a1 + 1) (zk_2_0 ha1) M3 e5) zy_X5_clear zw_X5_clear km_X5_130 ht0 rfl zv_X5 rfl ⟨rfl, rfl⟩ ⟨rfl, rfl⟩ rfl rfl (Nat.le_of_ble_eq_true rfl) ⟨Nat.zero_le _, Nat.zero_le _⟩ dX5_drop_48 51 rfl [] rfl ?_
    refine r_aload_n X 1 rfl dX5_drop_51 52 rfl ?_
    refine r_iconst (v := 0) X rfl dX5_drop_52 53 rfl ?_
    obtain ⟨M6, e6, h⟩ := z_bd h
    obtain ⟨hn6, hf6, e6⟩ := z_pz_of e6
    refine r_putN X ha1 rfl zv_X2 zi_X2 rfl kf_X5_70 rfl tyX2_ok nmX2 rfl rfl hn6 hf6 rfl rfl e6.symm dX5_drop_53 56 rfl ?_
    cases h
    exact r_vret X R dX5_drop_56
  clear h
  refine z_loopP (fun (s : (Int32 × zM)) => GW Γ G b 0 0 s.2 2 [(0, .ref (b + t0)), (1, .ref (b + a1)), (2, .int s.1)] []) (fun s q4 hb hP4 hx4 => ?_) _ _ hL4
  obtain ⟨x1, M2⟩ := s
  have h : fX5_drop_L1 t0 a1 x1 M2 = some q4 := hb
  unfold fX5_drop_L1 at h
  refine r_iload_n X 2 rfl dX5_drop_2 3 rfl ?_
  refine r_bipush (v := 12) X rfl dX5_drop_3 5 rfl ?_
  refine r_icmp_ge X dX5_drop_5 43 (by decide) 8 rfl (fun c7 => ?_) (fun c7 => ?_)
  · have h := z_it c7 h
    refine r_sub [(0, .ref (b + t0)), (1, .ref (b + a1))] [0, 1] rfl ?_
    have e := hx4 _ (Option.some.inj h).symm
    cases e
    exact hK4
  · have h := z_ie c7 h
    refine r_aload_n X 0 rfl dX5_drop_8 9 rfl ?_
    refine r_aload_n X 0 rfl dX5_drop_9 10 rfl ?_
    refine r_get (v := .ref (b + (t0 + 2))) X ht0 rfl zv_X5 zi_X5 rfl kf_X5_19 rfl rfl dX5_drop_10 13 rfl ?_
    refine r_iload_n X 2 rfl dX5_drop_13 14 rfl ?_
    obtain ⟨x8, e8, h⟩ := z_bd h
    have hk8 := zq_12 (zk_5_1 ht0) e8
    refine r_aaload (C := RX2) X (zk_5_1 ht0) rfl rfl (zn_5_1 ht0) e8 rfl dX5_drop_14 (z_lt rfl (zk_5_1 ht0)) 15 rfl ?_
    refine r_aload_n X 1 rfl dX5_drop_15 16 rfl ?_
    obtain ⟨x9, e9, h⟩ := z_bd h
    refine r_callV (rest := []) X (tX5_isBehind hl G b t0 ht0 x8 hk8 a1 ha1 M2 e9) zy_X5_isBehind zw_X5_isBehind km_X5_82 ht0 rfl zv_X5 rfl ⟨rfl, rfl⟩ ⟨rfl, rfl⟩ rfl rfl (Nat.le_of_ble_eq_true rfl) ⟨Nat.zero_le _, Nat.zero_le _⟩ dX5_drop_16 19 rfl [.int x9] rfl ?_
    refine r_if_eq X dX5_drop_19 37 (by decide) 22 rfl (fun c10 => ?_) (fun c10 => ?_)
    · have h := z_it c10 h
      refine r_iinc X dX5_drop_37 40 rfl [(0, .ref (b + t0)), (1, .ref (b + a1)), (2, .int (x1 + 1))] (by decide) 2 rfl (x1 + 1) rfl [1, 2, 0] rfl ?_
      refine r_goto X dX5_drop_40 2 (by decide) ?_
      exact hP4 ((x1 + 1), M2) (Option.some.inj h).symm
    · have h := z_ie c10 h
      refine r_aload_n X 0 rfl dX5_drop_22 23 rfl ?_
      refine r_get (v := .ref (b + (t0 + 2))) X ht0 rfl zv_X5 zi_X5 rfl kf_X5_19 rfl rfl dX5_drop_23 26 rfl ?_
      refine r_iload_n X 2 rfl dX5_drop_26 27 rfl ?_
      obtain ⟨x11, e11, h⟩ := z_bd h
      have hk11 := zq_12 (zk_5_1 ht0) e11
      refine r_aaload (C := RX2) X (zk_5_1 ht0) rfl rfl (zn_5_1 ht0) e11 rfl dX5_drop_27 (z_lt rfl (zk_5_1 ht0)) 28 rfl ?_
      refine r_dup X rfl dX5_drop_28 29 rfl ?_
      refine r_getN (v := .int (M2 x11 4)) X hk11 rfl zv_X2 zi_X2 rfl kf_X5_76 rfl rfl dX5_drop_29 32 rfl ?_
      refine r_iconst (v := 1) X rfl dX5_drop_32 33 rfl ?_
      refine r_isub X dX5_drop_33 34 rfl ?_
      obtain ⟨M12, e12, h⟩ := z_bd h
      refine r_putN X hk11 rfl zv_X2 zi_X2 rfl kf_X5_76 rfl tyX2_ok nmX2 rfl rfl rfl rfl rfl rfl (Option.some.inj e12) dX5_drop_34 37 rfl ?_
      refine r_iinc X dX5_drop_37 40 rfl [(0, .ref (b + t0)), (1, .ref (b + a1)), (2, .int (x1 + 1))] (by decide) 2 rfl (x1 + 1) rfl [1, 2, 0] rfl ?_
      refine r_goto X dX5_drop_40 2 (by decide) ?_
      exact hP4 ((x1 + 1), M12) (Option.some.inj h).symm
set_option maxRecDepth 100000 in
set_option maxHeartbeats 1000000 in
theorem tX5_hasOriginBehind {l : Launch} (hl : l.stackTraces = false) (G : zG) (b : Nat) (t0 : Nat) (ht0 : z_kd t0 = 5) (a1 : Nat) (ha1 : z_kd a1 = 2) (M : zM) {r9 : Int32} (h : fX5_hasOriginBehind t0 a1 M = some r9) : z_MN l yX5_hasOriginBehind cX5_hasOriginBehind 3 (some .boolean) { frames := 2, cells := 0, slots := 0, locals := 43 } G b [.ref (b + t0), .ref (b + a1)] M (some (.int r9)) M := by
  refine z_met (own := RX5) hl (by decide) rfl rfl (fun Γ hΓ X R => ?_)
  subst hΓ
  show GW Γ G b 0 0 M 0 [(0, .ref (b + t0)), (1, .ref (b + a1))] []
  unfold fX5_hasOriginBehind at h
  refine r_iconst (v := 0) X rfl dX5_hasOriginBehind_0 1 rfl ?_
  refine r_istore_n X dX5_hasOriginBehind_1 2 rfl [(0, .ref (b + t0)), (1, .ref (b + a1)), (2, .int 0)] (by decide) [1, 2, 0] rfl ?_
  obtain ⟨z2, hL2, h⟩ := z_bd h
  have hK2 : z2 = .inl () → GW Γ G b 0 0 M 46 [] [] := by
    intro e
    subst e
    have h := z_scl h
    refine r_iconst (v := 0) X rfl dX5_hasOriginBehind_46 47 rfl ?_
    cases h
    exact r_iret X R rfl dX5_hasOriginBehind_47
  have hR2 : ∀ u9, z2 = .inr u9 → some u9 = some r9 := by
    intro u9 e
    subst e
    exact z_scr h
  clear h
  refine z_loopP (fun (s : Int32) => GW Γ G b 0 0 M 2 [(0, .ref (b + t0)), (1, .ref (b + a1)), (2, .int s)] []) (fun s q2 hb hP2 hx2 => ?_) _ _ hL2
  obtain ⟨x1, rfl⟩ : ∃ y, y = s := ⟨s, rfl⟩
  have h : fX5_hasOriginBehind_L1 t0 a1 M x1 = some q2 := hb
  unfold fX5_hasOriginBehind_L1 at h
  refine r_iload_n X 2 rfl dX5_hasOriginBehind_2 3 rfl ?_
  refine r_bipush (v := 12) X rfl dX5_hasOriginBehind_3 5 rfl ?_
  refine r_icmp_ge X dX5_hasOriginBehind_5 46 (by decide) 8 rfl (fun c3 => ?_) (fun c3 => ?_)
  · have h := z_it c3 h
    refine r_sub [] [] rfl ?_
    exact hK2  (hx2 _ (Option.some.inj h).symm).symm
  · have h := z_ie c3 h
    refine r_aload_n X 0 rfl dX5_hasOriginBehind_8 9 rfl ?_
    refine r_aload_n X 0 rfl dX5_hasOriginBehind_9 10 rfl ?_
    refine r_get (v := .ref (b + (t0 + 2))) X ht0 rfl zv_X5 zi_X5 rfl kf_X5_19 rfl rfl dX5_hasOriginBehind_10 13 rfl ?_
    refine r_iload_n X 2 rfl dX5_hasOriginBehind_13 14 rfl ?_
    obtain ⟨x4, e4, h⟩ := z_bd h
    have hk4 := zq_12 (zk_5_1 ht0) e4
    refine r_aaload (C := RX2) X (zk_5_1 ht0) rfl rfl (zn_5_1 ht0) e4 rfl dX5_hasOriginBehind_14 (z_lt rfl (zk_5_1 ht0)) 15 rfl ?_
    refine r_aload_n X 1 rfl dX5_hasOriginBehind_15 16 rfl ?_
    obtain ⟨x5, e5, h⟩ := z_bd h
    refine r_callV (rest := []) X (tX5_isBehind hl G b t0 ht0 x4 hk4 a1 ha1 M e5) zy_X5_isBehind zw_X5_isBehind km_X5_82 ht0 rfl zv_X5 rfl ⟨rfl, rfl⟩ ⟨rfl, rfl⟩ rfl rfl (Nat.le_of_ble_eq_true rfl) ⟨Nat.zero_le _, Nat.zero_le _⟩ dX5_hasOriginBehind_16 19 rfl [.int x5] rfl ?_
    refine r_if_eq X dX5_hasOriginBehind_19 40 (by decide) 22 rfl (fun c6 => ?_) (fun c6 => ?_)
    · have h := z_it c6 h
      refine r_iinc X dX5_hasOriginBehind_40 43 rfl [(0, .ref (b + t0)), (1, .ref (b + a1)), (2, .int (x1 + 1))] (by decide) 2 rfl (x1 + 1) rfl [1, 2, 0] rfl ?_
      refine r_goto X dX5_hasOriginBehind_43 2 (by decide) ?_
      exact hP2 (x1 + 1) (Option.some.inj h).symm
    · have h := z_ie c6 h
      refine r_aload_n X 0 rfl dX5_hasOriginBehind_22 23 rfl ?_
      refine r_aload_n X 0 rfl dX5_hasOriginBehind_23 24 rfl ?_
      refine r_get (v := .ref (b + (t0 + 2))) X ht0 rfl zv_X5 zi_X5 rfl kf_X5_19 rfl rfl dX5_hasOriginBehind_24 27 rfl ?_
      refine r_iload_n X 2 rfl dX5_hasOriginBehind_27 28 rfl ?_
      obtain ⟨x7, e7, h⟩ := z_bd h
      have hk7 := zq_12 (zk_5_1 ht0) e7
      refine r_aaload (C := RX2) X (zk_5_1 ht0) rfl rfl (zn_5_1 ht0) e7 rfl dX5_hasOriginBehind_28 (z_lt rfl (zk_5_1 ht0)) 29 rfl ?_
      refine r_getN (v := .int (M x7 2)) X hk7 rfl zv_X2 zi_X2 rfl kf_X5_71 rfl rfl dX5_hasOriginBehind_29 32 rfl ?_
      obtain ⟨x8, e8, h⟩ := z_bd h
      refine r_callV (rest := []) X (tX5_isOrigin hl G b t0 ht0 (M x7 2) M e8) zy_X5_isOrigin zw_X5_isOrigin km_X5_86 ht0 rfl zv_X5 rfl ⟨rfl, rfl⟩ ⟨rfl, rfl⟩ rfl rfl (Nat.le_of_ble_eq_true rfl) ⟨Nat.zero_le _, Nat.zero_le _⟩ dX5_hasOriginBehind_32 35 rfl [.int x8] rfl ?_
      refine r_if_eq X dX5_hasOriginBehind_35 40 (by decide) 38 rfl (fun c9 => ?_) (fun c9 => ?_)
      · have h := z_it c9 h
        refine r_iinc X dX5_hasOriginBehind_40 43 rfl [(0, .ref (b + t0)), (1, .ref (b + a1)), (2, .int (x1 + 1))] (by decide) 2 rfl (x1 + 1) rfl [1, 2, 0] rfl ?_
        refine r_goto X dX5_hasOriginBehind_43 2 (by decide) ?_
        exact hP2 (x1 + 1) (Option.some.inj h).symm
      · have h := z_ie c9 h
        refine r_iconst (v := 1) X rfl dX5_hasOriginBehind_38 39 rfl ?_
        have h := hR2 _ (hx2 _ (Option.some.inj h).symm).symm
        cases h
        exact r_iret X R rfl dX5_hasOriginBehind_39
set_option maxRecDepth 100000 in
set_option maxHeartbeats 1000000 in
theorem tX5_dropBehind {l : Launch} (hl : l.stackTraces = false) (G : zG) (b : Nat) (t0 : Nat) (ht0 : z_kd t0 = 5) (a1 : Nat) (ha1 : z_kd a1 = 2) (M : zM) {r9 : Int32} {M9 : zM} (h : fX5_dropBehind t0 a1 M = some (r9, M9)) : z_MN l yX5_dropBehind cX5_dropBehind 4 (some .int) { frames := 5, cells := 0, slots := 0, locals := 108 } G b [.ref (b + t0), .ref (b + a1)] M (some (.int r9)) M9 := by
  refine z_met (own := RX5) hl (by decide) rfl rfl (fun Γ hΓ X R => ?_)
  subst hΓ
  show GW Γ G b 0 0 M 0 [(0, .ref (b + t0)), (1, .ref (b + a1))] []
  unfold fX5_dropBehind at h
  refine r_iconst (v := 0) X rfl dX5_dropBehind_0 1 rfl ?_
  refine r_istore_n X dX5_dropBehind_1 2 rfl [(0, .ref (b + t0)), (1, .ref (b + a1)), (2, .int 0)] (by decide) [1, 2, 0] rfl ?_
  refine r_iconst (v := 0) X rfl dX5_dropBehind_2 3 rfl ?_
  refine r_istore_n X dX5_dropBehind_3 4 rfl [(0, .ref (b + t0)), (1, .ref (b + a1)), (2, .int 0), (3, .int 0)] (by decide) [1, 2, 3, 0] rfl ?_
  obtain ⟨x4, M5, hL6, h⟩ := z_bd2 h
  have hK6 : GW Γ G b 0 0 M5 43 [(2, .int x4)] [] := by
    refine r_iload_n X 0 rfl dX5_dropBehind_43 44 rfl ?_
    cases h
    exact r_iret X R rfl dX5_dropBehind_44
  clear h
  refine z_loopP (fun (s : (Int32 × Int32 × zM)) => GW Γ G b 0 0 s.2.2 4 [(0, .ref (b + t0)), (1, .ref (b + a1)), (2, .int s.1), (3, .int s.2.1)] []) (fun s q6 hb hP6 hx6 => ?_) _ _ hL6
  obtain ⟨x1, x2, M3⟩ := s
  have h : fX5_dropBehind_L1 t0 a1 x1 x2 M3 = some q6 := hb
  unfold fX5_dropBehind_L1 at h
  refine r_iload_n X 3 rfl dX5_dropBehind_4 5 rfl ?_
  refine r_bipush (v := 12) X rfl dX5_dropBehind_5 7 rfl ?_
  refine r_icmp_ge X dX5_dropBehind_7 43 (by decide) 10 rfl (fun c7 => ?_) (fun c7 => ?_)
  · have h := z_it c7 h
    refine r_sub [(2, .int x1)] [2] rfl ?_
    have e := hx6 _ (Option.some.inj h).symm
    cases e
    exact hK6
  · have h := z_ie c7 h
    refine r_aload_n X 0 rfl dX5_dropBehind_10 11 rfl ?_
    refine r_aload_n X 0 rfl dX5_dropBehind_11 12 rfl ?_
    refine r_get (v := .ref (b + (t0 + 2))) X ht0 rfl zv_X5 zi_X5 rfl kf_X5_19 rfl rfl dX5_dropBehind_12 15 rfl ?_
    refine r_iload_n X 3 rfl dX5_dropBehind_15 16 rfl ?_
    obtain ⟨x8, e8, h⟩ := z_bd h
    have hk8 := zq_12 (zk_5_1 ht0) e8
    refine r_aaload (C := RX2) X (zk_5_1 ht0) rfl rfl (zn_5_1 ht0) e8 rfl dX5_dropBehind_16 (z_lt rfl (zk_5_1 ht0)) 17 rfl ?_
    refine r_aload_n X 1 rfl dX5_dropBehind_17 18 rfl ?_
    obtain ⟨x9, e9, h⟩ := z_bd h
    refine r_callV (rest := []) X (tX5_isBehind hl G b t0 ht0 x8 hk8 a1 ha1 M3 e9) zy_X5_isBehind zw_X5_isBehind km_X5_82 ht0 rfl zv_X5 rfl ⟨rfl, rfl⟩ ⟨rfl, rfl⟩ rfl rfl (Nat.le_of_ble_eq_true rfl) ⟨Nat.zero_le _, Nat.zero_le _⟩ dX5_dropBehind_18 21 rfl [.int x9] rfl ?_
    refine r_if_eq X dX5_dropBehind_21 37 (by decide) 24 rfl (fun c10 => ?_) (fun c10 => ?_)
    · have h := z_it c10 h
      refine r_iinc X dX5_dropBehind_37 40 rfl [(0, .ref (b + t0)), (1, .ref (b + a1)), (2, .int x1), (3, .int (x2 + 1))] (by decide) 3 rfl (x2 + 1) rfl [1, 2, 3, 0] rfl ?_
      refine r_goto X dX5_dropBehind_40 4 (by decide) ?_
      exact hP6 (x1, (x2 + 1), M3) (Option.some.inj h).symm
    · have h := z_ie c10 h
      refine r_aload_n X 0 rfl dX5_dropBehind_24 25 rfl ?_
      refine r_aload_n X 0 rfl dX5_dropBehind_25 26 rfl ?_
      refine r_get (v := .ref (b + (t0 + 2))) X ht0 rfl zv_X5 zi_X5 rfl kf_X5_19 rfl rfl dX5_dropBehind_26 29 rfl ?_
      refine r_iload_n X 3 rfl dX5_dropBehind_29 30 rfl ?_
      obtain ⟨x11, e11, h⟩ := z_bd h
      have hk11 := zq_12 (zk_5_1 ht0) e11
      refine r_aaload (C := RX2) X (zk_5_1 ht0) rfl rfl (zn_5_1 ht0) e11 rfl dX5_dropBehind_30 (z_lt rfl (zk_5_1 ht0)) 31 rfl ?_
      obtain ⟨M12, e12, h⟩ := z_bd h
      refine r_callV (rest := []) X (tX5_drop hl G b t0 ht0 x11 hk11 M3 e12) zy_X5_drop zw_X5_drop km_X5_134 ht0 rfl zv_X5 rfl ⟨rfl, rfl⟩ ⟨rfl, rfl⟩ rfl rfl (Nat.le_of_ble_eq_true rfl) ⟨Nat.zero_le _, Nat.zero_le _⟩ dX5_dropBehind_31 34 rfl [] rfl ?_
      refine r_iinc X dX5_dropBehind_34 37 rfl [(0, .ref (b + t0)), (1, .ref (b + a1)), (2, .int (x1 + 1)), (3, .int x2)] (by decide) 2 rfl (x1 + 1) rfl [1, 2, 0, 3] rfl ?_
      refine r_iinc X dX5_dropBehind_37 40 rfl [(0, .ref (b + t0)), (1, .ref (b + a1)), (2, .int (x1 + 1)), (3, .int (x2 + 1))] (by decide) 3 rfl (x2 + 1) rfl [1, 2, 3, 0] rfl ?_
      refine r_goto X dX5_dropBehind_40 4 (by decide) ?_
      exact hP6 ((x1 + 1), (x2 + 1), M12) (Option.some.inj h).symm
set_option maxRecDepth 100000 in
set_option maxHeartbeats 1000000 in
theorem tX5_countDatasets {l : Launch} (hl : l.stackTraces = false) (G : zG) (b : Nat) (t0 : Nat) (ht0 : z_kd t0 = 5) (M : zM) {r9 : Int32} (h : fX5_countDatasets t0 M = some r9) : z_MN l yX5_countDatasets cX5_countDatasets 3 (some .int) { frames := 0, cells := 0, slots := 0, locals := 0 } G b [.ref (b + t0)] M (some (.int r9)) M := by
  refine z_met (own := RX5) hl (by decide) rfl rfl (fun Γ hΓ X R => ?_)
  subst hΓ
  show GW Γ G b 0 0 M 0 [(0, .ref (b + t0))] []
  unfold fX5_countDatasets at h
  refine r_iconst (v := 0) X rfl dX5_countDatasets_0 1 rfl ?_
  refine r_istore_n X dX5_countDatasets_1 2 rfl [(0, .ref (b + t0)), (1, .int 0)] (by decide) [1, 0] rfl ?_
  refine r_iconst (v := 0) X rfl dX5_countDatasets_2 3 rfl ?_
  refine r_istore_n X dX5_countDatasets_3 4 rfl [(0, .ref (b + t0)), (1, .int 0), (2, .int 0)] (by decide) [1, 2, 0] rfl ?_
  obtain ⟨x3, hL4, h⟩ := z_bd h
  have hK4 : GW Γ G b 0 0 M 31 [(1, .int x3)] [] := by
    refine r_iload_n X 0 rfl dX5_countDatasets_31 32 rfl ?_
    cases h
    exact r_iret X R rfl dX5_countDatasets_32
  clear h
  refine z_loopP (fun (s : (Int32 × Int32)) => GW Γ G b 0 0 M 4 [(0, .ref (b + t0)), (1, .int s.1), (2, .int s.2)] []) (fun s q4 hb hP4 hx4 => ?_) _ _ hL4
  obtain ⟨x1, x2⟩ := s
  have h : fX5_countDatasets_L1 t0 M x1 x2 = some q4 := hb
  unfold fX5_countDatasets_L1 at h
  refine r_iload_n X 2 rfl dX5_countDatasets_4 5 rfl ?_
  refine r_bipush (v := 6) X rfl dX5_countDatasets_5 7 rfl ?_
  refine r_icmp_ge X dX5_countDatasets_7 31 (by decide) 10 rfl (fun c5 => ?_) (fun c5 => ?_)
  · have h := z_it c5 h
    refine r_sub [(1, .int x1)] [1] rfl ?_
    have e := hx4 _ (Option.some.inj h).symm
    cases e
    exact hK4
  · have h := z_ie c5 h
    refine r_aload_n X 0 rfl dX5_countDatasets_10 11 rfl ?_
    refine r_get (v := .ref (b + (t0 + 1))) X ht0 rfl zv_X5 zi_X5 rfl kf_X5_11 rfl rfl dX5_countDatasets_11 14 rfl ?_
    refine r_iload_n X 2 rfl dX5_countDatasets_14 15 rfl ?_
    obtain ⟨x6, e6, h⟩ := z_bd h
    have hk6 := zq_11 (zk_5_0 ht0) e6
    refine r_aaload (C := RX0) X (zk_5_0 ht0) rfl rfl (zn_5_0 ht0) e6 rfl dX5_countDatasets_15 (z_lt rfl (zk_5_0 ht0)) 16 rfl ?_
    refine r_getN (v := .int (M x6 1)) X hk6 rfl zv_X0 zi_X0 rfl kf_X5_66 rfl rfl dX5_countDatasets_16 19 rfl ?_
    refine r_if_eq X dX5_countDatasets_19 25 (by decide) 22 rfl (fun c7 => ?_) (fun c7 => ?_)
    · have h := z_it c7 h
      refine r_iinc X dX5_countDatasets_25 28 rfl [(0, .ref (b + t0)), (1, .int x1), (2, .int (x2 + 1))] (by decide) 2 rfl (x2 + 1) rfl [1, 2, 0] rfl ?_
      refine r_goto X dX5_countDatasets_28 4 (by decide) ?_
      exact hP4 (x1, (x2 + 1)) (Option.some.inj h).symm
    · have h := z_ie c7 h
      refine r_iinc X dX5_countDatasets_22 25 rfl [(0, .ref (b + t0)), (1, .int (x1 + 1)), (2, .int x2)] (by decide) 1 rfl (x1 + 1) rfl [1, 0, 2] rfl ?_
      refine r_iinc X dX5_countDatasets_25 28 rfl [(0, .ref (b + t0)), (1, .int (x1 + 1)), (2, .int (x2 + 1))] (by decide) 2 rfl (x2 + 1) rfl [1, 2, 0] rfl ?_
      refine r_goto X dX5_countDatasets_28 4 (by decide) ?_
      exact hP4 ((x1 + 1), (x2 + 1)) (Option.some.inj h).symm
set_option maxRecDepth 100000 in
set_option maxHeartbeats 1000000 in
theorem tX5_unusedDataset {l : Launch} (hl : l.stackTraces = false) (G : zG) (b : Nat) (t0 : Nat) (ht0 : z_kd t0 = 5) (M : zM) {r9 : Int32} (h : fX5_unusedDataset t0 M = some r9) : z_MN l yX5_unusedDataset cX5_unusedDataset 2 (some .int) { frames := 0, cells := 0, slots := 0, locals := 0 } G b [.ref (b + t0)] M (some (.int r9)) M := by
  refine z_met (own := RX5) hl (by decide) rfl rfl (fun Γ hΓ X R => ?_)
  subst hΓ
  show GW Γ G b 0 0 M 0 [(0, .ref (b + t0))] []
  unfold fX5_unusedDataset at h
  refine r_iconst (v := 0) X rfl dX5_unusedDataset_0 1 rfl ?_
  refine r_istore_n X dX5_unusedDataset_1 2 rfl [(0, .ref (b + t0)), (1, .int 0)] (by decide) [1, 0] rfl ?_
  obtain ⟨z2, hL2, h⟩ := z_bd h
  have hK2 : z2 = .inl () → GW Γ G b 0 0 M 28 [] [] := by
    intro e
    subst e
    have h := z_scl h
    refine r_iconst (v := (-1)) X rfl dX5_unusedDataset_28 29 rfl ?_
    cases h
    exact r_iret X R rfl dX5_unusedDataset_29
  have hR2 : ∀ u9, z2 = .inr u9 → some u9 = some r9 := by
    intro u9 e
    subst e
    exact z_scr h
  clear h
  refine z_loopP (fun (s : Int32) => GW Γ G b 0 0 M 2 [(0, .ref (b + t0)), (1, .int s)] []) (fun s q2 hb hP2 hx2 => ?_) _ _ hL2
  obtain ⟨x1, rfl⟩ : ∃ y, y = s := ⟨s, rfl⟩
  have h : fX5_unusedDataset_L1 t0 M x1 = some q2 := hb
  unfold fX5_unusedDataset_L1 at h
  refine r_iload_n X 1 rfl dX5_unusedDataset_2 3 rfl ?_
  refine r_bipush (v := 6) X rfl dX5_unusedDataset_3 5 rfl ?_
  refine r_icmp_ge X dX5_unusedDataset_5 28 (by decide) 8 rfl (fun c3 => ?_) (fun c3 => ?_)
  · have h := z_it c3 h
    refine r_sub [] [] rfl ?_
    exact hK2  (hx2 _ (Option.some.inj h).symm).symm
  · have h := z_ie c3 h
    refine r_aload_n X 0 rfl dX5_unusedDataset_8 9 rfl ?_
    refine r_get (v := .ref (b + (t0 + 1))) X ht0 rfl zv_X5 zi_X5 rfl kf_X5_11 rfl rfl dX5_unusedDataset_9 12 rfl ?_
    refine r_iload_n X 1 rfl dX5_unusedDataset_12 13 rfl ?_
    obtain ⟨x4, e4, h⟩ := z_bd h
    have hk4 := zq_11 (zk_5_0 ht0) e4
    refine r_aaload (C := RX0) X (zk_5_0 ht0) rfl rfl (zn_5_0 ht0) e4 rfl dX5_unusedDataset_13 (z_lt rfl (zk_5_0 ht0)) 14 rfl ?_
    refine r_getN (v := .int (M x4 1)) X hk4 rfl zv_X0 zi_X0 rfl kf_X5_66 rfl rfl dX5_unusedDataset_14 17 rfl ?_
    refine r_if_ne X dX5_unusedDataset_17 22 (by decide) 20 rfl (fun c5 => ?_) (fun c5 => ?_)
    · have h := z_ie c5 h
      refine r_iinc X dX5_unusedDataset_22 25 rfl [(0, .ref (b + t0)), (1, .int (x1 + 1))] (by decide) 1 rfl (x1 + 1) rfl [1, 0] rfl ?_
      refine r_goto X dX5_unusedDataset_25 2 (by decide) ?_
      exact hP2 (x1 + 1) (Option.some.inj h).symm
    · have h := z_it c5 h
      refine r_iload_n X 1 rfl dX5_unusedDataset_20 21 rfl ?_
      have h := hR2 _ (hx2 _ (Option.some.inj h).symm).symm
      cases h
      exact r_iret X R rfl dX5_unusedDataset_21
set_option maxRecDepth 100000 in
set_option maxHeartbeats 1000000 in
theorem tX5_branch {l : Launch} (hl : l.stackTraces = false) (G : zG) (b : Nat) (t0 : Nat) (ht0 : z_kd t0 = 5) (a1 : Int32) (a2 : Nat) (ha2 : z_kd a2 = 2) (M : zM) {M9 : zM} (h : fX5_branch t0 a1 a2 M = some M9) : z_MN l yX5_branch cX5_branch 3 none { frames := 4, cells := 0, slots := 0, locals := 87 } G b [.ref (b + t0), .int a1, .ref (b + a2)] M none M9 := by
  refine z_met (own := RX5) hl (by decide) rfl rfl (fun Γ hΓ X R => ?_)
  subst hΓ
  show GW Γ G b 0 0 M 0 [(0, .ref (b + t0)), (1, .int a1), (2, .ref (b + a2))] []
  unfold fX5_branch at h
  refine r_iload_n X 1 rfl dX5_branch_0 1 rfl ?_
  refine r_if_lt X dX5_branch_1 53 (by decide) 4 rfl (fun c1 => ?_) (fun c1 => ?_)
  · have h := z_it c1 h
    cases h
    exact r_vret X R dX5_branch_53
  · have h := z_ie c1 h
    refine r_iload_n X 1 rfl dX5_branch_4 5 rfl ?_
    refine r_aload_n X 0 rfl dX5_branch_5 6 rfl ?_
    refine r_get (v := .ref (b + (t0 + 1))) X ht0 rfl zv_X5 zi_X5 rfl kf_X5_11 rfl rfl dX5_branch_6 9 rfl ?_
    refine r_alen (v := 6) X (zk_5_0 ht0) rfl (z_lt rfl (zk_5_0 ht0)) (zn_5_0 ht0) rfl rfl rfl dX5_branch_9 10 rfl ?_
    refine r_icmp_ge X dX5_branch_10 53 (by decide) 13 rfl (fun c2 => ?_) (fun c2 => ?_)
    · have h := z_it c2 h
      cases h
      exact r_vret X R dX5_branch_53
    · have h := z_ie c2 h
      refine r_aload_n X 0 rfl dX5_branch_13 14 rfl ?_
      refine r_get (v := .ref (b + (t0 + 1))) X ht0 rfl zv_X5 zi_X5 rfl kf_X5_11 rfl rfl dX5_branch_14 17 rfl ?_
      refine r_iload_n X 1 rfl dX5_branch_17 18 rfl ?_
      obtain ⟨x3, e3, h⟩ := z_bd h
      have hk3 := zq_11 (zk_5_0 ht0) e3
      refine r_aaload (C := RX0) X (zk_5_0 ht0) rfl rfl (zn_5_0 ht0) e3 rfl dX5_branch_18 (z_lt rfl (zk_5_0 ht0)) 19 rfl ?_
      refine r_iconst (v := 1) X rfl dX5_branch_19 20 rfl ?_
      obtain ⟨M4, e4, h⟩ := z_bd h
      obtain ⟨hn4, hf4, e4⟩ := z_pz_of e4
      refine r_putN X hk3 rfl zv_X0 zi_X0 rfl kf_X5_66 rfl tyX0_ok nmX0 rfl rfl hn4 hf4 rfl rfl e4.symm dX5_branch_20 23 rfl ?_
      refine r_aload_n X 0 rfl dX5_branch_23 24 rfl ?_
      refine r_get (v := .ref (b + (t0 + 1))) X ht0 rfl zv_X5 zi_X5 rfl kf_X5_11 rfl rfl dX5_branch_24 27 rfl ?_
      refine r_iload_n X 1 rfl dX5_branch_27 28 rfl ?_
      obtain ⟨x5, e5, h⟩ := z_bd h
      have hk5 := zq_11 (zk_5_0 ht0) e5
      refine r_aaload (C := RX0) X (zk_5_0 ht0) rfl rfl (zn_5_0 ht0) e5 rfl dX5_branch_28 (z_lt rfl (zk_5_0 ht0)) 29 rfl ?_
      refine r_aload_n X 2 rfl dX5_branch_29 30 rfl ?_
      refine r_getN (v := .int (M4 a2 2)) X ha2 rfl zv_X2 zi_X2 rfl kf_X5_71 rfl rfl dX5_branch_30 33 rfl ?_
      obtain ⟨M6, e6, h⟩ := z_bd h
      refine r_putN X hk5 rfl zv_X0 zi_X0 rfl kf_X5_79 rfl tyX0_ok nmX0 rfl rfl rfl rfl rfl rfl (Option.some.inj e6) dX5_branch_33 36 rfl ?_
      refine r_aload_n X 0 rfl dX5_branch_36 37 rfl ?_
      refine r_aload_n X 0 rfl dX5_branch_37 38 rfl ?_
      refine r_get (v := .ref (b + (t0 + 1))) X ht0 rfl zv_X5 zi_X5 rfl kf_X5_11 rfl rfl dX5_branch_38 41 rfl ?_
      refine r_iload_n X 1 rfl dX5_branch_41 42 rfl ?_
      obtain ⟨x7, e7, h⟩ := z_bd h
      have hk7 := zq_11 (zk_5_0 ht0) e7
      refine r_aaload (C := RX0) X (zk_5_0 ht0) rfl rfl (zn_5_0 ht0) e7 rfl dX5_branch_42 (z_lt rfl (zk_5_0 ht0)) 43 rfl ?_
      refine r_getN (v := .ref (b + (x7 + 1))) X hk7 rfl zv_X0 zi_X0 rfl kf_X5_125 rfl rfl dX5_branch_43 46 rfl ?_
      refine r_aload_n X 2 rfl dX5_branch_46 47 rfl ?_
      refine r_getN (v := .ref (b + (a2 + 1))) X ha2 rfl zv_X2 zi_X2 rfl kf_X5_121 rfl rfl dX5_branch_47 50 rfl ?_
      obtain ⟨M8, e8, h⟩ := z_bd h
      refine r_callV (rest := []) X (tX5_fill hl G b t0 ht0 (x7 + 1) (zk_0_0 hk7) (a2 + 1) (zk_2_0 ha2) M6 e8) zy_X5_fill zw_X5_fill km_X5_126 ht0 rfl zv_X5 rfl ⟨rfl, rfl⟩ ⟨rfl, rfl⟩ rfl rfl (Nat.le_of_ble_eq_true rfl) ⟨Nat.zero_le _, Nat.zero_le _⟩ dX5_branch_50 53 rfl [] rfl ?_
      cases h
      exact r_vret X R dX5_branch_53
set_option maxRecDepth 100000 in
set_option maxHeartbeats 1000000 in
theorem tX5_handOver {l : Launch} (hl : l.stackTraces = false) (G : zG) (b : Nat) (t0 : Nat) (ht0 : z_kd t0 = 5) (a1 : Nat) (ha1 : z_kd a1 = 2) (a2 : Int32) (M : zM) {M9 : zM} (h : fX5_handOver t0 a1 a2 M = some M9) : z_MN l yX5_handOver cX5_handOver 6 none { frames := 1, cells := 0, slots := 0, locals := 21 } G b [.ref (b + t0), .ref (b + a1), .int a2] M none M9 := by
  refine z_met (own := RX5) hl (by decide) rfl rfl (fun Γ hΓ X R => ?_)
  subst hΓ
  show GW Γ G b 0 0 M 0 [(0, .ref (b + t0)), (1, .ref (b + a1)), (2, .int a2)] []
  unfold fX5_handOver at h
  refine r_aload_n X 1 rfl dX5_handOver_0 1 rfl ?_
  refine r_getN (v := .int (M a1 3)) X ha1 rfl zv_X2 zi_X2 rfl kf_X5_89 rfl rfl dX5_handOver_1 4 rfl ?_
  refine r_istore_n X dX5_handOver_4 5 rfl [(0, .ref (b + t0)), (1, .ref (b + a1)), (2, .int a2), (3, .int (M a1 3))] (by decide) [1, 2, 3, 0] rfl ?_
  refine r_aload_n X 1 rfl dX5_handOver_5 6 rfl ?_
  refine r_getN (v := .int (M a1 4)) X ha1 rfl zv_X2 zi_X2 rfl kf_X5_76 rfl rfl dX5_handOver_6 9 rfl ?_
  refine r_iconst (v := 1) X rfl dX5_handOver_9 10 rfl ?_
  refine r_iadd X dX5_handOver_10 11 rfl ?_
  refine r_istore X dX5_handOver_11 13 rfl [(0, .ref (b + t0)), (2, .int a2), (3, .int (M a1 3)), (4, .int ((M a1 4) + 1))] (by decide) [1, 3, 4, 0] rfl ?_
  refine r_iconst (v := 0) X rfl dX5_handOver_13 14 rfl ?_
  refine r_istore X dX5_handOver_14 16 rfl [(0, .ref (b + t0)), (2, .int a2), (3, .int (M a1 3)), (4, .int ((M a1 4) + 1)), (5, .int 0)] (by decide) [1, 2, 3, 4, 0] rfl ?_
  obtain ⟨M3, hL4, h⟩ := z_bd h
  have hK4 : GW Γ G b 0 0 M3 137 [] [] := by
    cases h
    exact r_vret X R dX5_handOver_137
  clear h
  refine z_loopP (fun (s : (Int32 × zM)) => GW Γ G b 0 0 s.2 16 [(0, .ref (b + t0)), (2, .int a2), (3, .int (M a1 3)), (4, .int ((M a1 4) + 1)), (5, .int s.1)] []) (fun s q4 hb hP4 hx4 => ?_) _ _ hL4
  obtain ⟨x1, M2⟩ := s
  have h : fX5_handOver_L1 t0 a1 a2 M x1 M2 = some q4 := hb
  unfold fX5_handOver_L1 at h
  refine r_iload X 4 rfl dX5_handOver_16 18 rfl ?_
  refine r_bipush (v := 12) X rfl dX5_handOver_18 20 rfl ?_
  refine r_icmp_ge X dX5_handOver_20 137 (by decide) 23 rfl (fun c5 => ?_) (fun c5 => ?_)
  · have h := z_it c5 h
    refine r_sub [] [] rfl ?_
    have e := hx4 _ (Option.some.inj h).symm
    cases e
    exact hK4
  · have h := z_ie c5 h
    refine r_aload_n X 0 rfl dX5_handOver_23 24 rfl ?_
    refine r_get (v := .ref (b + (t0 + 2))) X ht0 rfl zv_X5 zi_X5 rfl kf_X5_19 rfl rfl dX5_handOver_24 27 rfl ?_
    refine r_iload X 4 rfl dX5_handOver_27 29 rfl ?_
    obtain ⟨x6, e6, h⟩ := z_bd h
    have hk6 := zq_12 (zk_5_1 ht0) e6
    refine r_aaload (C := RX2) X (zk_5_1 ht0) rfl rfl (zn_5_1 ht0) e6 rfl dX5_handOver_29 (z_lt rfl (zk_5_1 ht0)) 30 rfl ?_
    refine r_iload_n X 1 rfl dX5_handOver_30 31 rfl ?_
    obtain ⟨x7, e7, h⟩ := z_bd h
    refine r_callVN (rest := []) X (tX2_belongsTo hl G b x6 hk6 a2 M2 e7) zy_X2_belongsTo zw_X2_belongsTo km_X5_72 hk6 rfl zv_X2 rfl ⟨rfl, rfl⟩ ⟨rfl, rfl⟩ rfl rfl (Nat.le_of_ble_eq_true rfl) ⟨Nat.zero_le _, Nat.zero_le _⟩ dX5_handOver_31 34 rfl [.int x7] rfl ?_
    refine r_if_eq X dX5_handOver_34 57 (by decide) 37 rfl (fun c8 => ?_) (fun c8 => ?_)
    · have h := z_it c8 h
      refine r_aload_n X 0 rfl dX5_handOver_57 58 rfl ?_
      refine r_get (v := .ref (b + (t0 + 2))) X ht0 rfl zv_X5 zi_X5 rfl kf_X5_19 rfl rfl dX5_handOver_58 61 rfl ?_
      refine r_iload X 4 rfl dX5_handOver_61 63 rfl ?_
      obtain ⟨x9, e9, h⟩ := z_bd h
      have hk9 := zq_12 (zk_5_1 ht0) e9
      refine r_aaload (C := RX2) X (zk_5_1 ht0) rfl rfl (zn_5_1 ht0) e9 rfl dX5_handOver_63 (z_lt rfl (zk_5_1 ht0)) 64 rfl ?_
      refine r_iload_n X 2 rfl dX5_handOver_64 65 rfl ?_
      obtain ⟨x10, e10, h⟩ := z_bd h
      refine r_callVN (rest := []) X (tX2_belongsTo hl G b x9 hk9 (M a1 3) M2 e10) zy_X2_belongsTo zw_X2_belongsTo km_X5_72 hk9 rfl zv_X2 rfl ⟨rfl, rfl⟩ ⟨rfl, rfl⟩ rfl rfl (Nat.le_of_ble_eq_true rfl) ⟨Nat.zero_le _, Nat.zero_le _⟩ dX5_handOver_65 68 rfl [.int x10] rfl ?_
      refine r_if_eq X dX5_handOver_68 100 (by decide) 71 rfl (fun c11 => ?_) (fun c11 => ?_)
      · have h := z_it c11 h
        refine r_aload_n X 0 rfl dX5_handOver_100 101 rfl ?_
        refine r_get (v := .ref (b + (t0 + 2))) X ht0 rfl zv_X5 zi_X5 rfl kf_X5_19 rfl rfl dX5_handOver_101 104 rfl ?_
        refine r_iload X 4 rfl dX5_handOver_104 106 rfl ?_
        obtain ⟨x12, e12, h⟩ := z_bd h
        have hk12 := zq_12 (zk_5_1 ht0) e12
        refine r_aaload (C := RX2) X (zk_5_1 ht0) rfl rfl (zn_5_1 ht0) e12 rfl dX5_handOver_106 (z_lt rfl (zk_5_1 ht0)) 107 rfl ?_
        refine r_iload_n X 2 rfl dX5_handOver_107 108 rfl ?_
        obtain ⟨x13, e13, h⟩ := z_bd h
        refine r_callVN (rest := []) X (tX2_belongsTo hl G b x12 hk12 (M a1 3) M2 e13) zy_X2_belongsTo zw_X2_belongsTo km_X5_72 hk12 rfl zv_X2 rfl ⟨rfl, rfl⟩ ⟨rfl, rfl⟩ rfl rfl (Nat.le_of_ble_eq_true rfl) ⟨Nat.zero_le _, Nat.zero_le _⟩ dX5_handOver_108 111 rfl [.int x13] rfl ?_
        refine r_if_eq X dX5_handOver_111 131 (by decide) 114 rfl (fun c14 => ?_) (fun c14 => ?_)
        · have h := z_it c14 h
          refine r_iinc X dX5_handOver_131 134 rfl [(0, .ref (b + t0)), (2, .int a2), (3, .int (M a1 3)), (4, .int ((M a1 4) + 1)), (5, .int (x1 + 1))] (by decide) 4 rfl (x1 + 1) rfl [1, 2, 3, 4, 0] rfl ?_
          refine r_goto X dX5_handOver_134 16 (by decide) ?_
          exact hP4 ((x1 + 1), M2) (Option.some.inj h).symm
        · have h := z_ie c14 h
          refine r_aload_n X 0 rfl dX5_handOver_114 115 rfl ?_
          refine r_get (v := .ref (b + (t0 + 2))) X ht0 rfl zv_X5 zi_X5 rfl kf_X5_19 rfl rfl dX5_handOver_115 118 rfl ?_
          refine r_iload X 4 rfl dX5_handOver_118 120 rfl ?_
          obtain ⟨x15, e15, h⟩ := z_bd h
          have hk15 := zq_12 (zk_5_1 ht0) e15
          refine r_aaload (C := RX2) X (zk_5_1 ht0) rfl rfl (zn_5_1 ht0) e15 rfl dX5_handOver_120 (z_lt rfl (zk_5_1 ht0)) 121 rfl ?_
          refine r_dup X rfl dX5_handOver_121 122 rfl ?_
          refine r_getN (v := .int (M2 x15 4)) X hk15 rfl zv_X2 zi_X2 rfl kf_X5_76 rfl rfl dX5_handOver_122 125 rfl ?_
          refine r_iload X 3 rfl dX5_handOver_125 127 rfl ?_
          refine r_isub X dX5_handOver_127 128 rfl ?_
          obtain ⟨M16, e16, h⟩ := z_bd h
          refine r_putN X hk15 rfl zv_X2 zi_X2 rfl kf_X5_76 rfl tyX2_ok nmX2 rfl rfl rfl rfl rfl rfl (Option.some.inj e16) dX5_handOver_128 131 rfl ?_
          refine r_iinc X dX5_handOver_131 134 rfl [(0, .ref (b + t0)), (2, .int a2), (3, .int (M a1 3)), (4, .int ((M a1 4) + 1)), (5, .int (x1 + 1))] (by decide) 4 rfl (x1 + 1) rfl [1, 2, 3, 4, 0] rfl ?_
          refine r_goto X dX5_handOver_134 16 (by decide) ?_
          exact hP4 ((x1 + 1), M16) (Option.some.inj h).symm
      · have h := z_ie c11 h
        refine r_aload_n X 0 rfl dX5_handOver_71 72 rfl ?_
        refine r_get (v := .ref (b + (t0 + 2))) X ht0 rfl zv_X5 zi_X5 rfl kf_X5_19 rfl rfl dX5_handOver_72 75 rfl ?_
        refine r_iload X 4 rfl dX5_handOver_75 77 rfl ?_
        obtain ⟨x17, e17, h⟩ := z_bd h
        have hk17 := zq_12 (zk_5_1 ht0) e17
        refine r_aaload (C := RX2) X (zk_5_1 ht0) rfl rfl (zn_5_1 ht0) e17 rfl dX5_handOver_77 (z_lt rfl (zk_5_1 ht0)) 78 rfl ?_
        refine r_getN (v := .int (M2 x17 4)) X hk17 rfl zv_X2 zi_X2 rfl kf_X5_76 rfl rfl dX5_handOver_78 81 rfl ?_
        refine r_iload X 3 rfl dX5_handOver_81 83 rfl ?_
        refine r_icmp_ge X dX5_handOver_83 100 (by decide) 86 rfl (fun c18 => ?_) (fun c18 => ?_)
        · have h := z_it c18 h
          refine r_aload_n X 0 rfl dX5_handOver_100 101 rfl ?_
          refine r_get (v := .ref (b + (t0 + 2))) X ht0 rfl zv_X5 zi_X5 rfl kf_X5_19 rfl rfl dX5_handOver_101 104 rfl ?_
          refine r_iload X 4 rfl dX5_handOver_104 106 rfl ?_
          obtain ⟨x19, e19, h⟩ := z_bd h
          have hk19 := zq_12 (zk_5_1 ht0) e19
          refine r_aaload (C := RX2) X (zk_5_1 ht0) rfl rfl (zn_5_1 ht0) e19 rfl dX5_handOver_106 (z_lt rfl (zk_5_1 ht0)) 107 rfl ?_
          refine r_iload_n X 2 rfl dX5_handOver_107 108 rfl ?_
          obtain ⟨x20, e20, h⟩ := z_bd h
          refine r_callVN (rest := []) X (tX2_belongsTo hl G b x19 hk19 (M a1 3) M2 e20) zy_X2_belongsTo zw_X2_belongsTo km_X5_72 hk19 rfl zv_X2 rfl ⟨rfl, rfl⟩ ⟨rfl, rfl⟩ rfl rfl (Nat.le_of_ble_eq_true rfl) ⟨Nat.zero_le _, Nat.zero_le _⟩ dX5_handOver_108 111 rfl [.int x20] rfl ?_
          refine r_if_eq X dX5_handOver_111 131 (by decide) 114 rfl (fun c21 => ?_) (fun c21 => ?_)
          · have h := z_it c21 h
            refine r_iinc X dX5_handOver_131 134 rfl [(0, .ref (b + t0)), (2, .int a2), (3, .int (M a1 3)), (4, .int ((M a1 4) + 1)), (5, .int (x1 + 1))] (by decide) 4 rfl (x1 + 1) rfl [1, 2, 3, 4, 0] rfl ?_
            refine r_goto X dX5_handOver_134 16 (by decide) ?_
            exact hP4 ((x1 + 1), M2) (Option.some.inj h).symm
          · have h := z_ie c21 h
            refine r_aload_n X 0 rfl dX5_handOver_114 115 rfl ?_
            refine r_get (v := .ref (b + (t0 + 2))) X ht0 rfl zv_X5 zi_X5 rfl kf_X5_19 rfl rfl dX5_handOver_115 118 rfl ?_
            refine r_iload X 4 rfl dX5_handOver_118 120 rfl ?_
            obtain ⟨x22, e22, h⟩ := z_bd h
            have hk22 := zq_12 (zk_5_1 ht0) e22
            refine r_aaload (C := RX2) X (zk_5_1 ht0) rfl rfl (zn_5_1 ht0) e22 rfl dX5_handOver_120 (z_lt rfl (zk_5_1 ht0)) 121 rfl ?_
            refine r_dup X rfl dX5_handOver_121 122 rfl ?_
            refine r_getN (v := .int (M2 x22 4)) X hk22 rfl zv_X2 zi_X2 rfl kf_X5_76 rfl rfl dX5_handOver_122 125 rfl ?_
            refine r_iload X 3 rfl dX5_handOver_125 127 rfl ?_
            refine r_isub X dX5_handOver_127 128 rfl ?_
            obtain ⟨M23, e23, h⟩ := z_bd h
            refine r_putN X hk22 rfl zv_X2 zi_X2 rfl kf_X5_76 rfl tyX2_ok nmX2 rfl rfl rfl rfl rfl rfl (Option.some.inj e23) dX5_handOver_128 131 rfl ?_
            refine r_iinc X dX5_handOver_131 134 rfl [(0, .ref (b + t0)), (2, .int a2), (3, .int (M a1 3)), (4, .int ((M a1 4) + 1)), (5, .int (x1 + 1))] (by decide) 4 rfl (x1 + 1) rfl [1, 2, 3, 4, 0] rfl ?_
            refine r_goto X dX5_handOver_134 16 (by decide) ?_
            exact hP4 ((x1 + 1), M23) (Option.some.inj h).symm
        · have h := z_ie c18 h
          refine r_aload_n X 0 rfl dX5_handOver_86 87 rfl ?_
          refine r_get (v := .ref (b + (t0 + 2))) X ht0 rfl zv_X5 zi_X5 rfl kf_X5_19 rfl rfl dX5_handOver_87 90 rfl ?_
          refine r_iload X 4 rfl dX5_handOver_90 92 rfl ?_
          obtain ⟨x24, e24, h⟩ := z_bd h
          have hk24 := zq_12 (zk_5_1 ht0) e24
          refine r_aaload (C := RX2) X (zk_5_1 ht0) rfl rfl (zn_5_1 ht0) e24 rfl dX5_handOver_92 (z_lt rfl (zk_5_1 ht0)) 93 rfl ?_
          refine r_iload_n X 1 rfl dX5_handOver_93 94 rfl ?_
          obtain ⟨M25, e25, h⟩ := z_bd h
          refine r_putN X hk24 rfl zv_X2 zi_X2 rfl kf_X5_89 rfl tyX2_ok nmX2 rfl rfl rfl rfl rfl rfl (Option.some.inj e25) dX5_handOver_94 97 rfl ?_
          refine r_goto X dX5_handOver_97 131 (by decide) ?_
          refine r_iinc X dX5_handOver_131 134 rfl [(0, .ref (b + t0)), (2, .int a2), (3, .int (M a1 3)), (4, .int ((M a1 4) + 1)), (5, .int (x1 + 1))] (by decide) 4 rfl (x1 + 1) rfl [1, 2, 3, 4, 0] rfl ?_
          refine r_goto X dX5_handOver_134 16 (by decide) ?_
          exact hP4 ((x1 + 1), M25) (Option.some.inj h).symm
    · have h := z_ie c8 h
      refine r_aload_n X 0 rfl dX5_handOver_37 38 rfl ?_
      refine r_get (v := .ref (b + (t0 + 2))) X ht0 rfl zv_X5 zi_X5 rfl kf_X5_19 rfl rfl dX5_handOver_38 41 rfl ?_
      refine r_iload X 4 rfl dX5_handOver_41 43 rfl ?_
      obtain ⟨x26, e26, h⟩ := z_bd h
      have hk26 := zq_12 (zk_5_1 ht0) e26
      refine r_aaload (C := RX2) X (zk_5_1 ht0) rfl rfl (zn_5_1 ht0) e26 rfl dX5_handOver_43 (z_lt rfl (zk_5_1 ht0)) 44 rfl ?_
      refine r_dup X rfl dX5_handOver_44 45 rfl ?_
      refine r_getN (v := .int (M2 x26 4)) X hk26 rfl zv_X2 zi_X2 rfl kf_X5_76 rfl rfl dX5_handOver_45 48 rfl ?_
      refine r_iload X 3 rfl dX5_handOver_48 50 rfl ?_
      refine r_iadd X dX5_handOver_50 51 rfl ?_
      obtain ⟨M27, e27, h⟩ := z_bd h
      refine r_putN X hk26 rfl zv_X2 zi_X2 rfl kf_X5_76 rfl tyX2_ok nmX2 rfl rfl rfl rfl rfl rfl (Option.some.inj e27) dX5_handOver_51 54 rfl ?_
      refine r_goto X dX5_handOver_54 131 (by decide) ?_
      refine r_iinc X dX5_handOver_131 134 rfl [(0, .ref (b + t0)), (2, .int a2), (3, .int (M a1 3)), (4, .int ((M a1 4) + 1)), (5, .int (x1 + 1))] (by decide) 4 rfl (x1 + 1) rfl [1, 2, 3, 4, 0] rfl ?_
      refine r_goto X dX5_handOver_134 16 (by decide) ?_
      exact hP4 ((x1 + 1), M27) (Option.some.inj h).symm
