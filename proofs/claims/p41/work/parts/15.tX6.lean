set_option maxRecDepth 100000 in
set_option maxHeartbeats 1000000 in
theorem tX6_datasetOrThrow {l : Launch} (hl : l.stackTraces = false) (G : zG) (b : Nat) (t0 : Nat) (ht0 : z_kd t0 = 6) (a1 : Int32) (M : zM) {r9 : String ⊕ Nat} (h : fX6_datasetOrThrow t0 a1 M = some r9) : z_MX l yX6_datasetOrThrow cX6_datasetOrThrow 3 (some (.object "Cowmeadow$Dataset")) 6 90 G b [.ref (b + t0), .int a1] M (z_or b r9) M := by
  refine z_metx (own := RX6) hl (by decide) rfl rfl (fun Γ hΓ X R => ?_)
  subst hΓ
  show GW Γ G b 0 0 M 0 [(0, .ref (b + t0)), (1, .int a1)] []
  unfold fX6_datasetOrThrow at h
  refine r_aload_n X 0 rfl dX6_datasetOrThrow_0 1 rfl ?_
  refine r_get (v := .ref (b + (t0 + 1))) X ht0 rfl zv_X6 zi_X6 rfl kf_X6_12 rfl rfl dX6_datasetOrThrow_1 4 rfl ?_
  refine r_iload_n X 1 rfl dX6_datasetOrThrow_4 5 rfl ?_
  obtain ⟨o1, e1, h⟩ := z_bd h
  cases o1 with
  | none =>
    have h := z_ocn h
    refine r_callVN (rest := []) X (tX5_findDataset hl G b (t0 + 1) (zk_6_0 ht0) a1 M (r9 := none) e1) zy_X5_findDataset zw_X5_findDataset km_X6_193 (zk_6_0 ht0) rfl zv_X5 rfl ⟨rfl, rfl⟩ ⟨rfl, rfl⟩ rfl rfl (Nat.le_of_ble_eq_true rfl) ⟨Nat.zero_le _, Nat.zero_le _⟩ dX6_datasetOrThrow_5 8 rfl [.null] rfl ?_
    refine r_astore_nN X dX6_datasetOrThrow_8 9 rfl [(2, .null)] (by decide) [0] rfl ?_
    refine r_aload_nN X 0 rfl dX6_datasetOrThrow_9 10 rfl ?_
    refine r_ifnonnull_n X dX6_datasetOrThrow_10 13 rfl ?_
    cases h
    exact r_throww X R ze_io (List.mem_of_getElem? (i := 13) rfl) rfl rfl dX6_datasetOrThrow_13 dX6_datasetOrThrow_16 dX6_datasetOrThrow_17 dX6_datasetOrThrow_20 dX6_datasetOrThrow_23
  | some x2 =>
    have h := z_ocs h
    obtain ⟨hk2, h⟩ := z_gd_of h
    refine r_callVN (rest := []) X (tX5_findDataset hl G b (t0 + 1) (zk_6_0 ht0) a1 M (r9 := some x2) e1) zy_X5_findDataset zw_X5_findDataset km_X6_193 (zk_6_0 ht0) rfl zv_X5 rfl ⟨rfl, rfl⟩ ⟨rfl, rfl⟩ rfl rfl (Nat.le_of_ble_eq_true rfl) ⟨Nat.zero_le _, Nat.zero_le _⟩ dX6_datasetOrThrow_5 8 rfl [.ref (b + x2)] rfl ?_
    refine r_astore_n X dX6_datasetOrThrow_8 9 rfl [(2, .ref (b + x2))] (by decide) [0] rfl ?_
    refine r_aload_n X 0 rfl dX6_datasetOrThrow_9 10 rfl ?_
    refine r_ifnonnull_r X dX6_datasetOrThrow_10 24 (by decide) ?_
    refine r_aload_n X 0 rfl dX6_datasetOrThrow_24 25 rfl ?_
    cases h
    exact r_xaret X R (Or.inr ⟨_, rfl⟩) dX6_datasetOrThrow_25
set_option maxRecDepth 100000 in
set_option maxHeartbeats 1000000 in
theorem tX6_placeOrThrow {l : Launch} (hl : l.stackTraces = false) (G : zG) (b : Nat) (a0 : Int32) (a1 : Int32) (M : zM) {r9 : String ⊕ Int32} (h : fX6_placeOrThrow a0 a1 M = some r9) : z_MX l yX6_placeOrThrow cX6_placeOrThrow 2 (some .int) 6 90 G b [.int a0, .int a1] M (z_oi r9) M := by
  refine z_metx (own := RX6) hl (by decide) rfl rfl (fun Γ hΓ X R => ?_)
  subst hΓ
  show GW Γ G b 0 0 M 0 [(0, .int a0), (1, .int a1)] []
  unfold fX6_placeOrThrow at h
  refine r_iload_n X 0 rfl dX6_placeOrThrow_0 1 rfl ?_
  refine r_if_lt X dX6_placeOrThrow_1 10 (by decide) 4 rfl (fun c1 => ?_) (fun c1 => ?_)
  · have h := z_it c1 h
    cases h
    exact r_throww X R ze_io (List.mem_of_getElem? (i := 15) rfl) rfl rfl dX6_placeOrThrow_10 dX6_placeOrThrow_13 dX6_placeOrThrow_14 dX6_placeOrThrow_17 dX6_placeOrThrow_20
  · have h := z_ie c1 h
    refine r_iload_n X 0 rfl dX6_placeOrThrow_4 5 rfl ?_
    refine r_bipush (v := 8) X rfl dX6_placeOrThrow_5 7 rfl ?_
    refine r_icmp_lt X dX6_placeOrThrow_7 21 (by decide) 10 rfl (fun c2 => ?_) (fun c2 => ?_)
    · have h := z_it c2 h
      refine r_iload_n X 1 rfl dX6_placeOrThrow_21 22 rfl ?_
      refine r_if_lt X dX6_placeOrThrow_22 31 (by decide) 25 rfl (fun c3 => ?_) (fun c3 => ?_)
      · have h := z_it c3 h
        cases h
        exact r_throww X R ze_io (List.mem_of_getElem? (i := 16) rfl) rfl rfl dX6_placeOrThrow_31 dX6_placeOrThrow_34 dX6_placeOrThrow_35 dX6_placeOrThrow_38 dX6_placeOrThrow_41
      · have h := z_ie c3 h
        refine r_iload_n X 1 rfl dX6_placeOrThrow_25 26 rfl ?_
        refine r_bipush (v := 16) X rfl dX6_placeOrThrow_26 28 rfl ?_
        refine r_icmp_lt X dX6_placeOrThrow_28 42 (by decide) 31 rfl (fun c4 => ?_) (fun c4 => ?_)
        · have h := z_it c4 h
          refine r_iload_n X 0 rfl dX6_placeOrThrow_42 43 rfl ?_
          refine r_bipush (v := 16) X rfl dX6_placeOrThrow_43 45 rfl ?_
          refine r_imul X dX6_placeOrThrow_45 46 rfl ?_
          refine r_iload_n X 1 rfl dX6_placeOrThrow_46 47 rfl ?_
          refine r_iadd X dX6_placeOrThrow_47 48 rfl ?_
          cases h
          exact r_xiret X R rfl dX6_placeOrThrow_48
        · have h := z_ie c4 h
          cases h
          exact r_throww X R ze_io (List.mem_of_getElem? (i := 16) rfl) rfl rfl dX6_placeOrThrow_31 dX6_placeOrThrow_34 dX6_placeOrThrow_35 dX6_placeOrThrow_38 dX6_placeOrThrow_41
    · have h := z_ie c2 h
      cases h
      exact r_throww X R ze_io (List.mem_of_getElem? (i := 15) rfl) rfl rfl dX6_placeOrThrow_10 dX6_placeOrThrow_13 dX6_placeOrThrow_14 dX6_placeOrThrow_17 dX6_placeOrThrow_20
set_option maxRecDepth 100000 in
set_option maxHeartbeats 1000000 in
theorem tX6_write {l : Launch} (hl : l.stackTraces = false) (G : zG) (b : Nat) (t0 : Nat) (ht0 : z_kd t0 = 6) (a1 : Int32) (a2 : Int32) (a3 : Int32) (a4 : Int32) (M : zM) {r9 : String ⊕ Int32} {M9 : zM} (h : fX6_write t0 a1 a2 a3 a4 M = some (r9, M9)) : z_MX l yX6_write cX6_write 9 (some .int) 7 113 G b [.ref (b + t0), .int a1, .int a2, .int a3, .int a4] M (z_oi r9) M9 := by
  refine z_metx (own := RX6) hl (by decide) rfl rfl (fun Γ hΓ X R => ?_)
  subst hΓ
  show GW Γ G b 0 0 M 0 [(0, .ref (b + t0)), (1, .int a1), (2, .int a2), (3, .int a3), (4, .int a4)] []
  unfold fX6_write at h
  refine r_aload_n X 0 rfl dX6_write_0 1 rfl ?_
  refine r_iload_n X 1 rfl dX6_write_1 2 rfl ?_
  obtain ⟨o1, e1, h⟩ := z_bd h
  cases o1 with
  | inl E9 =>
    have h := z_oxl h
    cases h
    exact r_xthrV (rest := []) X R (tX6_datasetOrThrow hl G b t0 ht0 a1 M (r9 := .inl E9) e1) zy_X6_datasetOrThrow zw_X6_datasetOrThrow km_X6_26 ht0 rfl zv_X6 rfl ⟨rfl, rfl⟩ rfl rfl (Nat.le_of_ble_eq_true rfl) dX6_write_2
  | inr x2 =>
    have h := z_oxr h
    obtain ⟨hk2, h⟩ := z_gd_of h
    refine r_callV (rest := []) X (z_MX_ret (tX6_datasetOrThrow hl G b t0 ht0 a1 M (r9 := .inr x2) e1)) zy_X6_datasetOrThrow zw_X6_datasetOrThrow km_X6_26 ht0 rfl zv_X6 rfl ⟨rfl, rfl⟩ ⟨rfl, rfl⟩ rfl rfl (Nat.le_of_ble_eq_true rfl) ⟨Nat.zero_le _, Nat.zero_le _⟩ dX6_write_2 5 rfl [.ref (b + x2)] rfl ?_
    refine r_getN (v := .ref (b + (x2 + 1))) X hk2 rfl zv_X0 zi_X0 rfl kf_X6_30 rfl rfl dX6_write_5 8 rfl ?_
    refine r_astore X dX6_write_8 10 rfl [(0, .ref (b + t0)), (2, .int a2), (3, .int a3), (4, .int a4), (5, .ref (b + (x2 + 1)))] (by decide) [1, 3, 4, 5, 0] rfl ?_
    refine r_iload_n X 1 rfl dX6_write_10 11 rfl ?_
    refine r_iload_n X 2 rfl dX6_write_11 12 rfl ?_
    obtain ⟨o3, e3, h⟩ := z_bd h
    cases o3 with
    | inl E9 =>
      have h := z_oxl h
      cases h
      exact r_xthrS (rest := []) X R (tX6_placeOrThrow hl G b a2 a3 M (r9 := .inl E9) e3) zy_X6_placeOrThrow zs_X6_placeOrThrow km_X6_36 rfl ⟨rfl, rfl⟩ rfl rfl (Nat.le_of_ble_eq_true rfl) dX6_write_12
    | inr x4 =>
      have h := z_oxr h
      refine r_callS (rest := []) X (z_MX_ret (tX6_placeOrThrow hl G b a2 a3 M (r9 := .inr x4) e3)) zy_X6_placeOrThrow zs_X6_placeOrThrow km_X6_36 rfl ⟨rfl, rfl⟩ ⟨rfl, rfl⟩ rfl rfl (Nat.le_of_ble_eq_true rfl) ⟨Nat.zero_le _, Nat.zero_le _⟩ dX6_write_12 15 rfl [.int x4] rfl ?_
      refine r_istore X dX6_write_15 17 rfl [(0, .ref (b + t0)), (4, .int a4), (5, .ref (b + (x2 + 1))), (6, .int x4)] (by decide) [1, 4, 5, 0] rfl ?_
      refine r_aload X 2 rfl dX6_write_17 19 rfl ?_
      refine r_iload X 3 rfl dX6_write_19 21 rfl ?_
      obtain ⟨x5, e5, h⟩ := z_bd h
      refine r_callVN (rest := []) X (tX4_blockOf hl G b (x2 + 1) (zk_0_0 hk2) x4 M e5) zy_X4_blockOf zw_X4_blockOf km_X6_40 (zk_0_0 hk2) rfl zv_X4 rfl ⟨rfl, rfl⟩ ⟨rfl, rfl⟩ rfl rfl (Nat.le_of_ble_eq_true rfl) ⟨Nat.zero_le _, Nat.zero_le _⟩ dX6_write_21 24 rfl [.int x5] rfl ?_
      refine r_istore X dX6_write_24 26 rfl [(0, .ref (b + t0)), (4, .int a4), (5, .ref (b + (x2 + 1))), (6, .int x4), (7, .int x5)] (by decide) [1, 2, 3, 4, 0] rfl ?_
      refine r_aload_n X 0 rfl dX6_write_26 27 rfl ?_
      refine r_get (v := .ref (b + (t0 + 1))) X ht0 rfl zv_X6 zi_X6 rfl kf_X6_12 rfl rfl dX6_write_27 30 rfl ?_
      refine r_getN (v := .ref (b + ((t0 + 1) + 3))) X (zk_6_0 ht0) rfl zv_X5 zi_X5 rfl kf_X6_46 rfl rfl dX6_write_30 33 rfl ?_
      refine r_iload X 4 rfl dX6_write_33 35 rfl ?_
      refine r_aload_n X 0 rfl dX6_write_35 36 rfl ?_
      refine r_get (v := .ref (b + (t0 + 1))) X ht0 rfl zv_X6 zi_X6 rfl kf_X6_12 rfl rfl dX6_write_36 39 rfl ?_
      refine r_getN (v := .int (M (t0 + 1) 4)) X (zk_6_0 ht0) rfl zv_X5 zi_X5 rfl kf_X6_50 rfl rfl dX6_write_39 42 rfl ?_
      obtain ⟨x6, e6, h⟩ := z_bd h
      refine r_callVN (rest := []) X (tX3_bornIn hl G b ((t0 + 1) + 3) (zk_5_2 (zk_6_0 ht0)) x5 (M (t0 + 1) 4) M e6) zy_X3_bornIn zw_X3_bornIn km_X6_54 (zk_5_2 (zk_6_0 ht0)) rfl zv_X3 rfl ⟨rfl, rfl⟩ ⟨rfl, rfl⟩ rfl rfl (Nat.le_of_ble_eq_true rfl) ⟨Nat.zero_le _, Nat.zero_le _⟩ dX6_write_42 45 rfl [.int x6] rfl ?_
      refine r_if_eq X dX6_write_45 81 (by decide) 48 rfl (fun c7 => ?_) (fun c7 => ?_)
      · have h := z_it c7 h
        refine r_aload_n X 0 rfl dX6_write_81 82 rfl ?_
        refine r_get (v := .ref (b + (t0 + 1))) X ht0 rfl zv_X6 zi_X6 rfl kf_X6_12 rfl rfl dX6_write_82 85 rfl ?_
        refine r_getN (v := .ref (b + ((t0 + 1) + 3))) X (zk_6_0 ht0) rfl zv_X5 zi_X5 rfl kf_X6_46 rfl rfl dX6_write_85 88 rfl ?_
        obtain ⟨x8, e8, h⟩ := z_bd h
        refine r_callVN (rest := []) X (tX3_nextFreeBlock hl G b ((t0 + 1) + 3) (zk_5_2 (zk_6_0 ht0)) M e8) zy_X3_nextFreeBlock zw_X3_nextFreeBlock km_X6_67 (zk_5_2 (zk_6_0 ht0)) rfl zv_X3 rfl ⟨rfl, rfl⟩ ⟨rfl, rfl⟩ rfl rfl (Nat.le_of_ble_eq_true rfl) ⟨Nat.zero_le _, Nat.zero_le _⟩ dX6_write_88 91 rfl [.int x8] rfl ?_
        refine r_istore X dX6_write_91 93 rfl [(0, .ref (b + t0)), (4, .int a4), (5, .ref (b + (x2 + 1))), (6, .int x4), (8, .int x8)] (by decide) [1, 2, 3, 4, 0] rfl ?_
        refine r_iload X 4 rfl dX6_write_93 95 rfl ?_
        refine r_iconst (v := (-1)) X rfl dX6_write_95 96 rfl ?_
        refine r_icmp_ne X dX6_write_96 109 (by decide) 99 rfl (fun c9 => ?_) (fun c9 => ?_)
        · have h := z_ie c9 h
          refine r_aload_n X 0 rfl dX6_write_109 110 rfl ?_
          refine r_get (v := .ref (b + (t0 + 1))) X ht0 rfl zv_X6 zi_X6 rfl kf_X6_12 rfl rfl dX6_write_110 113 rfl ?_
          refine r_getN (v := .ref (b + ((t0 + 1) + 3))) X (zk_6_0 ht0) rfl zv_X5 zi_X5 rfl kf_X6_46 rfl rfl dX6_write_113 116 rfl ?_
          refine r_iload X 4 rfl dX6_write_116 118 rfl ?_
          refine r_iload X 1 rfl dX6_write_118 120 rfl ?_
          refine r_aload_n X 0 rfl dX6_write_120 121 rfl ?_
          refine r_get (v := .ref (b + (t0 + 1))) X ht0 rfl zv_X6 zi_X6 rfl kf_X6_12 rfl rfl dX6_write_121 124 rfl ?_
          refine r_getN (v := .int (M (t0 + 1) 4)) X (zk_6_0 ht0) rfl zv_X5 zi_X5 rfl kf_X6_50 rfl rfl dX6_write_124 127 rfl ?_
          obtain ⟨M10, e10, h⟩ := z_bd h
          refine r_callVN (rest := []) X (tX3_allocate hl G b ((t0 + 1) + 3) (zk_5_2 (zk_6_0 ht0)) x8 a4 (M (t0 + 1) 4) M e10) zy_X3_allocate zw_X3_allocate km_X6_78 (zk_5_2 (zk_6_0 ht0)) rfl zv_X3 rfl ⟨rfl, rfl⟩ ⟨rfl, rfl⟩ rfl rfl (Nat.le_of_ble_eq_true rfl) ⟨Nat.zero_le _, Nat.zero_le _⟩ dX6_write_127 130 rfl [] rfl ?_
          refine r_aload_n X 0 rfl dX6_write_130 131 rfl ?_
          refine r_get (v := .ref (b + (t0 + 1))) X ht0 rfl zv_X6 zi_X6 rfl kf_X6_12 rfl rfl dX6_write_131 134 rfl ?_
          refine r_aload X 2 rfl dX6_write_134 136 rfl ?_
          refine r_iload X 3 rfl dX6_write_136 138 rfl ?_
          refine r_iload X 4 rfl dX6_write_138 140 rfl ?_
          obtain ⟨M11, e11, h⟩ := z_bd h
          refine r_callVN (rest := []) X (tX5_put hl G b (t0 + 1) (zk_6_0 ht0) (x2 + 1) (zk_0_0 hk2) x4 x8 M10 e11) zy_X5_put zw_X5_put km_X6_82 (zk_6_0 ht0) rfl zv_X5 rfl ⟨rfl, rfl⟩ ⟨rfl, rfl⟩ rfl rfl (Nat.le_of_ble_eq_true rfl) ⟨Nat.zero_le _, Nat.zero_le _⟩ dX6_write_140 143 rfl [] rfl ?_
          refine r_aload_n X 0 rfl dX6_write_143 144 rfl ?_
          refine r_get (v := .ref (b + (t0 + 1))) X ht0 rfl zv_X6 zi_X6 rfl kf_X6_12 rfl rfl dX6_write_144 147 rfl ?_
          obtain ⟨x12, M13, e13, h⟩ := z_bd2 h
          refine r_callVN (rest := []) X (tX5_settle hl G b (t0 + 1) (zk_6_0 ht0) M11 e13) zy_X5_settle zw_X5_settle km_X6_86 (zk_6_0 ht0) rfl zv_X5 rfl ⟨rfl, rfl⟩ ⟨rfl, rfl⟩ rfl rfl (Nat.le_of_ble_eq_true rfl) ⟨Nat.zero_le _, Nat.zero_le _⟩ dX6_write_147 150 rfl [.int x12] rfl ?_
          refine r_pop X rfl dX6_write_150 151 rfl ?_
          refine r_iload X 4 rfl dX6_write_151 153 rfl ?_
          cases h
          exact r_xiret X R rfl dX6_write_153
        · have h := z_it c9 h
          cases h
          exact r_throw X R ze_is (List.mem_of_getElem? (i := 0) rfl) rfl rfl dX6_write_99 dX6_write_102 dX6_write_103 dX6_write_105 dX6_write_108
      · have h := z_ie c7 h
        refine r_aload_n X 0 rfl dX6_write_48 49 rfl ?_
        refine r_get (v := .ref (b + (t0 + 1))) X ht0 rfl zv_X6 zi_X6 rfl kf_X6_12 rfl rfl dX6_write_49 52 rfl ?_
        refine r_getN (v := .ref (b + ((t0 + 1) + 3))) X (zk_6_0 ht0) rfl zv_X5 zi_X5 rfl kf_X6_46 rfl rfl dX6_write_52 55 rfl ?_
        refine r_iload X 4 rfl dX6_write_55 57 rfl ?_
        obtain ⟨x14, e14, h⟩ := z_bd h
        refine r_callVN (rest := []) X (tX3_usesOf hl G b ((t0 + 1) + 3) (zk_5_2 (zk_6_0 ht0)) x5 M e14) zy_X3_usesOf zw_X3_usesOf km_X6_60 (zk_5_2 (zk_6_0 ht0)) rfl zv_X3 rfl ⟨rfl, rfl⟩ ⟨rfl, rfl⟩ rfl rfl (Nat.le_of_ble_eq_true rfl) ⟨Nat.zero_le _, Nat.zero_le _⟩ dX6_write_57 60 rfl [.int x14] rfl ?_
        refine r_iconst (v := 1) X rfl dX6_write_60 61 rfl ?_
        refine r_icmp_ne X dX6_write_61 81 (by decide) 64 rfl (fun c15 => ?_) (fun c15 => ?_)
        · have h := z_ie c15 h
          refine r_aload_n X 0 rfl dX6_write_81 82 rfl ?_
          refine r_get (v := .ref (b + (t0 + 1))) X ht0 rfl zv_X6 zi_X6 rfl kf_X6_12 rfl rfl dX6_write_82 85 rfl ?_
          refine r_getN (v := .ref (b + ((t0 + 1) + 3))) X (zk_6_0 ht0) rfl zv_X5 zi_X5 rfl kf_X6_46 rfl rfl dX6_write_85 88 rfl ?_
          obtain ⟨x17, e17, h⟩ := z_bd h
          refine r_callVN (rest := []) X (tX3_nextFreeBlock hl G b ((t0 + 1) + 3) (zk_5_2 (zk_6_0 ht0)) M e17) zy_X3_nextFreeBlock zw_X3_nextFreeBlock km_X6_67 (zk_5_2 (zk_6_0 ht0)) rfl zv_X3 rfl ⟨rfl, rfl⟩ ⟨rfl, rfl⟩ rfl rfl (Nat.le_of_ble_eq_true rfl) ⟨Nat.zero_le _, Nat.zero_le _⟩ dX6_write_88 91 rfl [.int x17] rfl ?_
          refine r_istore X dX6_write_91 93 rfl [(0, .ref (b + t0)), (4, .int a4), (5, .ref (b + (x2 + 1))), (6, .int x4), (8, .int x17)] (by decide) [1, 2, 3, 4, 0] rfl ?_
          refine r_iload X 4 rfl dX6_write_93 95 rfl ?_
          refine r_iconst (v := (-1)) X rfl dX6_write_95 96 rfl ?_
          refine r_icmp_ne X dX6_write_96 109 (by decide) 99 rfl (fun c18 => ?_) (fun c18 => ?_)
          · have h := z_ie c18 h
            refine r_aload_n X 0 rfl dX6_write_109 110 rfl ?_
            refine r_get (v := .ref (b + (t0 + 1))) X ht0 rfl zv_X6 zi_X6 rfl kf_X6_12 rfl rfl dX6_write_110 113 rfl ?_
            refine r_getN (v := .ref (b + ((t0 + 1) + 3))) X (zk_6_0 ht0) rfl zv_X5 zi_X5 rfl kf_X6_46 rfl rfl dX6_write_113 116 rfl ?_
            refine r_iload X 4 rfl dX6_write_116 118 rfl ?_
            refine r_iload X 1 rfl dX6_write_118 120 rfl ?_
            refine r_aload_n X 0 rfl dX6_write_120 121 rfl ?_
            refine r_get (v := .ref (b + (t0 + 1))) X ht0 rfl zv_X6 zi_X6 rfl kf_X6_12 rfl rfl dX6_write_121 124 rfl ?_
            refine r_getN (v := .int (M (t0 + 1) 4)) X (zk_6_0 ht0) rfl zv_X5 zi_X5 rfl kf_X6_50 rfl rfl dX6_write_124 127 rfl ?_
            obtain ⟨M19, e19, h⟩ := z_bd h
            refine r_callVN (rest := []) X (tX3_allocate hl G b ((t0 + 1) + 3) (zk_5_2 (zk_6_0 ht0)) x17 a4 (M (t0 + 1) 4) M e19) zy_X3_allocate zw_X3_allocate km_X6_78 (zk_5_2 (zk_6_0 ht0)) rfl zv_X3 rfl ⟨rfl, rfl⟩ ⟨rfl, rfl⟩ rfl rfl (Nat.le_of_ble_eq_true rfl) ⟨Nat.zero_le _, Nat.zero_le _⟩ dX6_write_127 130 rfl [] rfl ?_
            refine r_aload_n X 0 rfl dX6_write_130 131 rfl ?_
            refine r_get (v := .ref (b + (t0 + 1))) X ht0 rfl zv_X6 zi_X6 rfl kf_X6_12 rfl rfl dX6_write_131 134 rfl ?_
            refine r_aload X 2 rfl dX6_write_134 136 rfl ?_
            refine r_iload X 3 rfl dX6_write_136 138 rfl ?_
            refine r_iload X 4 rfl dX6_write_138 140 rfl ?_
            obtain ⟨M20, e20, h⟩ := z_bd h
            refine r_callVN (rest := []) X (tX5_put hl G b (t0 + 1) (zk_6_0 ht0) (x2 + 1) (zk_0_0 hk2) x4 x17 M19 e20) zy_X5_put zw_X5_put km_X6_82 (zk_6_0 ht0) rfl zv_X5 rfl ⟨rfl, rfl⟩ ⟨rfl, rfl⟩ rfl rfl (Nat.le_of_ble_eq_true rfl) ⟨Nat.zero_le _, Nat.zero_le _⟩ dX6_write_140 143 rfl [] rfl ?_
            refine r_aload_n X 0 rfl dX6_write_143 144 rfl ?_
            refine r_get (v := .ref (b + (t0 + 1))) X ht0 rfl zv_X6 zi_X6 rfl kf_X6_12 rfl rfl dX6_write_144 147 rfl ?_
            obtain ⟨x21, M22, e22, h⟩ := z_bd2 h
            refine r_callVN (rest := []) X (tX5_settle hl G b (t0 + 1) (zk_6_0 ht0) M20 e22) zy_X5_settle zw_X5_settle km_X6_86 (zk_6_0 ht0) rfl zv_X5 rfl ⟨rfl, rfl⟩ ⟨rfl, rfl⟩ rfl rfl (Nat.le_of_ble_eq_true rfl) ⟨Nat.zero_le _, Nat.zero_le _⟩ dX6_write_147 150 rfl [.int x21] rfl ?_
            refine r_pop X rfl dX6_write_150 151 rfl ?_
            refine r_iload X 4 rfl dX6_write_151 153 rfl ?_
            cases h
            exact r_xiret X R rfl dX6_write_153
          · have h := z_it c18 h
            cases h
            exact r_throw X R ze_is (List.mem_of_getElem? (i := 0) rfl) rfl rfl dX6_write_99 dX6_write_102 dX6_write_103 dX6_write_105 dX6_write_108
        · have h := z_it c15 h
          refine r_aload_n X 0 rfl dX6_write_64 65 rfl ?_
          refine r_get (v := .ref (b + (t0 + 1))) X ht0 rfl zv_X6 zi_X6 rfl kf_X6_12 rfl rfl dX6_write_65 68 rfl ?_
          refine r_getN (v := .ref (b + ((t0 + 1) + 3))) X (zk_6_0 ht0) rfl zv_X5 zi_X5 rfl kf_X6_46 rfl rfl dX6_write_68 71 rfl ?_
          refine r_iload X 4 rfl dX6_write_71 73 rfl ?_
          refine r_iload X 1 rfl dX6_write_73 75 rfl ?_
          obtain ⟨M16, e16, h⟩ := z_bd h
          refine r_callVN (rest := []) X (tX3_setValue hl G b ((t0 + 1) + 3) (zk_5_2 (zk_6_0 ht0)) x5 a4 M e16) zy_X3_setValue zw_X3_setValue km_X6_63 (zk_5_2 (zk_6_0 ht0)) rfl zv_X3 rfl ⟨rfl, rfl⟩ ⟨rfl, rfl⟩ rfl rfl (Nat.le_of_ble_eq_true rfl) ⟨Nat.zero_le _, Nat.zero_le _⟩ dX6_write_75 78 rfl [] rfl ?_
          refine r_iload X 4 rfl dX6_write_78 80 rfl ?_
          cases h
          exact r_xiret X R rfl dX6_write_80
set_option maxRecDepth 100000 in
set_option maxHeartbeats 1000000 in
theorem tX6_read {l : Launch} (hl : l.stackTraces = false) (G : zG) (b : Nat) (t0 : Nat) (ht0 : z_kd t0 = 6) (a1 : Int32) (a2 : Int32) (a3 : Int32) (M : zM) {r9 : String ⊕ Int32} (h : fX6_read t0 a1 a2 a3 M = some r9) : z_MX l yX6_read cX6_read 4 (some .int) 7 112 G b [.ref (b + t0), .int a1, .int a2, .int a3] M (z_oi r9) M := by
  refine z_metx (own := RX6) hl (by decide) rfl rfl (fun Γ hΓ X R => ?_)
  subst hΓ
  show GW Γ G b 0 0 M 0 [(0, .ref (b + t0)), (1, .int a1), (2, .int a2), (3, .int a3)] []
  unfold fX6_read at h
  refine r_aload_n X 0 rfl dX6_read_0 1 rfl ?_
  refine r_get (v := .ref (b + (t0 + 1))) X ht0 rfl zv_X6 zi_X6 rfl kf_X6_12 rfl rfl dX6_read_1 4 rfl ?_
  refine r_getN (v := .ref (b + ((t0 + 1) + 3))) X (zk_6_0 ht0) rfl zv_X5 zi_X5 rfl kf_X6_46 rfl rfl dX6_read_4 7 rfl ?_
  refine r_aload_n X 0 rfl dX6_read_7 8 rfl ?_
  refine r_iload_n X 1 rfl dX6_read_8 9 rfl ?_
  obtain ⟨o1, e1, h⟩ := z_bd h
  cases o1 with
  | inl E9 =>
    have h := z_oxl h
    cases h
    exact r_xthrV (rest := [.ref (b + ((t0 + 1) + 3))]) X R (tX6_datasetOrThrow hl G b t0 ht0 a1 M (r9 := .inl E9) e1) zy_X6_datasetOrThrow zw_X6_datasetOrThrow km_X6_26 ht0 rfl zv_X6 rfl ⟨rfl, rfl⟩ rfl rfl (Nat.le_of_ble_eq_true rfl) dX6_read_9
  | inr x2 =>
    have h := z_oxr h
    obtain ⟨hk2, h⟩ := z_gd_of h
    refine r_callV (rest := [.ref (b + ((t0 + 1) + 3))]) X (z_MX_ret (tX6_datasetOrThrow hl G b t0 ht0 a1 M (r9 := .inr x2) e1)) zy_X6_datasetOrThrow zw_X6_datasetOrThrow km_X6_26 ht0 rfl zv_X6 rfl ⟨rfl, rfl⟩ ⟨rfl, rfl⟩ rfl rfl (Nat.le_of_ble_eq_true rfl) ⟨Nat.zero_le _, Nat.zero_le _⟩ dX6_read_9 12 rfl [.ref (b + x2), .ref (b + ((t0 + 1) + 3))] rfl ?_
    refine r_getN (v := .ref (b + (x2 + 1))) X hk2 rfl zv_X0 zi_X0 rfl kf_X6_30 rfl rfl dX6_read_12 15 rfl ?_
    refine r_iload_n X 2 rfl dX6_read_15 16 rfl ?_
    refine r_iload_n X 3 rfl dX6_read_16 17 rfl ?_
    obtain ⟨o3, e3, h⟩ := z_bd h
    cases o3 with
    | inl E9 =>
      have h := z_oxl h
      cases h
      exact r_xthrS (rest := [.ref (b + (x2 + 1)), .ref (b + ((t0 + 1) + 3))]) X R (tX6_placeOrThrow hl G b a2 a3 M (r9 := .inl E9) e3) zy_X6_placeOrThrow zs_X6_placeOrThrow km_X6_36 rfl ⟨rfl, rfl⟩ rfl rfl (Nat.le_of_ble_eq_true rfl) dX6_read_17
    | inr x4 =>
      have h := z_oxr h
      refine r_callS (rest := [.ref (b + (x2 + 1)), .ref (b + ((t0 + 1) + 3))]) X (z_MX_ret (tX6_placeOrThrow hl G b a2 a3 M (r9 := .inr x4) e3)) zy_X6_placeOrThrow zs_X6_placeOrThrow km_X6_36 rfl ⟨rfl, rfl⟩ ⟨rfl, rfl⟩ rfl rfl (Nat.le_of_ble_eq_true rfl) ⟨Nat.zero_le _, Nat.zero_le _⟩ dX6_read_17 20 rfl [.int x4, .ref (b + (x2 + 1)), .ref (b + ((t0 + 1) + 3))] rfl ?_
      obtain ⟨x5, e5, h⟩ := z_bd h
      refine r_callVN (rest := [.ref (b + ((t0 + 1) + 3))]) X (tX4_blockOf hl G b (x2 + 1) (zk_0_0 hk2) x4 M e5) zy_X4_blockOf zw_X4_blockOf km_X6_40 (zk_0_0 hk2) rfl zv_X4 rfl ⟨rfl, rfl⟩ ⟨rfl, rfl⟩ rfl rfl (Nat.le_of_ble_eq_true rfl) ⟨Nat.zero_le _, Nat.zero_le _⟩ dX6_read_20 23 rfl [.int x5, .ref (b + ((t0 + 1) + 3))] rfl ?_
      obtain ⟨x6, e6, h⟩ := z_bd h
      refine r_callVN (rest := []) X (tX3_valueOf hl G b ((t0 + 1) + 3) (zk_5_2 (zk_6_0 ht0)) x5 M e6) zy_X3_valueOf zw_X3_valueOf km_X6_89 (zk_5_2 (zk_6_0 ht0)) rfl zv_X3 rfl ⟨rfl, rfl⟩ ⟨rfl, rfl⟩ rfl rfl (Nat.le_of_ble_eq_true rfl) ⟨Nat.zero_le _, Nat.zero_le _⟩ dX6_read_23 26 rfl [.int x6] rfl ?_
      cases h
      exact r_xiret X R rfl dX6_read_26
set_option maxRecDepth 100000 in
set_option maxHeartbeats 1000000 in
theorem tX6_blockAt {l : Launch} (hl : l.stackTraces = false) (G : zG) (b : Nat) (t0 : Nat) (ht0 : z_kd t0 = 6) (a1 : Int32) (a2 : Int32) (a3 : Int32) (M : zM) {r9 : String ⊕ Int32} (h : fX6_blockAt t0 a1 a2 a3 M = some r9) : z_MX l yX6_blockAt cX6_blockAt 4 (some .int) 7 112 G b [.ref (b + t0), .int a1, .int a2, .int a3] M (z_oi r9) M := by
  refine z_metx (own := RX6) hl (by decide) rfl rfl (fun Γ hΓ X R => ?_)
  subst hΓ
  show GW Γ G b 0 0 M 0 [(0, .ref (b + t0)), (1, .int a1), (2, .int a2), (3, .int a3)] []
  unfold fX6_blockAt at h
  refine r_aload_n X 0 rfl dX6_blockAt_0 1 rfl ?_
  refine r_iload_n X 1 rfl dX6_blockAt_1 2 rfl ?_
  obtain ⟨o1, e1, h⟩ := z_bd h
  cases o1 with
  | inl E9 =>
    have h := z_oxl h
    cases h
    exact r_xthrV (rest := []) X R (tX6_datasetOrThrow hl G b t0 ht0 a1 M (r9 := .inl E9) e1) zy_X6_datasetOrThrow zw_X6_datasetOrThrow km_X6_26 ht0 rfl zv_X6 rfl ⟨rfl, rfl⟩ rfl rfl (Nat.le_of_ble_eq_true rfl) dX6_blockAt_2
  | inr x2 =>
    have h := z_oxr h
    obtain ⟨hk2, h⟩ := z_gd_of h
    refine r_callV (rest := []) X (z_MX_ret (tX6_datasetOrThrow hl G b t0 ht0 a1 M (r9 := .inr x2) e1)) zy_X6_datasetOrThrow zw_X6_datasetOrThrow km_X6_26 ht0 rfl zv_X6 rfl ⟨rfl, rfl⟩ ⟨rfl, rfl⟩ rfl rfl (Nat.le_of_ble_eq_true rfl) ⟨Nat.zero_le _, Nat.zero_le _⟩ dX6_blockAt_2 5 rfl [.ref (b + x2)] rfl ?_
    refine r_getN (v := .ref (b + (x2 + 1))) X hk2 rfl zv_X0 zi_X0 rfl kf_X6_30 rfl rfl dX6_blockAt_5 8 rfl ?_
    refine r_iload_n X 2 rfl dX6_blockAt_8 9 rfl ?_
    refine r_iload_n X 3 rfl dX6_blockAt_9 10 rfl ?_
    obtain ⟨o3, e3, h⟩ := z_bd h
    cases o3 with
    | inl E9 =>
      have h := z_oxl h
      cases h
      exact r_xthrS (rest := [.ref (b + (x2 + 1))]) X R (tX6_placeOrThrow hl G b a2 a3 M (r9 := .inl E9) e3) zy_X6_placeOrThrow zs_X6_placeOrThrow km_X6_36 rfl ⟨rfl, rfl⟩ rfl rfl (Nat.le_of_ble_eq_true rfl) dX6_blockAt_10
    | inr x4 =>
      have h := z_oxr h
      refine r_callS (rest := [.ref (b + (x2 + 1))]) X (z_MX_ret (tX6_placeOrThrow hl G b a2 a3 M (r9 := .inr x4) e3)) zy_X6_placeOrThrow zs_X6_placeOrThrow km_X6_36 rfl ⟨rfl, rfl⟩ ⟨rfl, rfl⟩ rfl rfl (Nat.le_of_ble_eq_true rfl) ⟨Nat.zero_le _, Nat.zero_le _⟩ dX6_blockAt_10 13 rfl [.int x4, .ref (b + (x2 + 1))] rfl ?_
      obtain ⟨x5, e5, h⟩ := z_bd h
      refine r_callVN (rest := []) X (tX4_blockOf hl G b (x2 + 1) (zk_0_0 hk2) x4 M e5) zy_X4_blockOf zw_X4_blockOf km_X6_40 (zk_0_0 hk2) rfl zv_X4 rfl ⟨rfl, rfl⟩ ⟨rfl, rfl⟩ rfl rfl (Nat.le_of_ble_eq_true rfl) ⟨Nat.zero_le _, Nat.zero_le _⟩ dX6_blockAt_13 16 rfl [.int x5] rfl ?_
      cases h
      exact r_xiret X R rfl dX6_blockAt_16
set_option maxRecDepth 100000 in
set_option maxHeartbeats 1000000 in
theorem tX6_length {l : Launch} (hl : l.stackTraces = false) (G : zG) (b : Nat) (t0 : Nat) (ht0 : z_kd t0 = 6) (a1 : Int32) (a2 : Int32) (M : zM) {r9 : String ⊕ Int32} (h : fX6_length t0 a1 a2 M = some r9) : z_MX l yX6_length cX6_length 7 (some .int) 7 112 G b [.ref (b + t0), .int a1, .int a2] M (z_oi r9) M := by
  refine z_metx (own := RX6) hl (by decide) rfl rfl (fun Γ hΓ X R => ?_)
  subst hΓ
  show GW Γ G b 0 0 M 0 [(0, .ref (b + t0)), (1, .int a1), (2, .int a2)] []
  unfold fX6_length at h
  refine r_aload_n X 0 rfl dX6_length_0 1 rfl ?_
  refine r_iload_n X 1 rfl dX6_length_1 2 rfl ?_
  obtain ⟨o1, e1, h⟩ := z_bd h
  cases o1 with
  | inl E9 =>
    have h := z_oxl h
    cases h
    exact r_xthrV (rest := []) X R (tX6_datasetOrThrow hl G b t0 ht0 a1 M (r9 := .inl E9) e1) zy_X6_datasetOrThrow zw_X6_datasetOrThrow km_X6_26 ht0 rfl zv_X6 rfl ⟨rfl, rfl⟩ rfl rfl (Nat.le_of_ble_eq_true rfl) dX6_length_2
  | inr x2 =>
    have h := z_oxr h
    obtain ⟨hk2, h⟩ := z_gd_of h
    refine r_callV (rest := []) X (z_MX_ret (tX6_datasetOrThrow hl G b t0 ht0 a1 M (r9 := .inr x2) e1)) zy_X6_datasetOrThrow zw_X6_datasetOrThrow km_X6_26 ht0 rfl zv_X6 rfl ⟨rfl, rfl⟩ ⟨rfl, rfl⟩ rfl rfl (Nat.le_of_ble_eq_true rfl) ⟨Nat.zero_le _, Nat.zero_le _⟩ dX6_length_2 5 rfl [.ref (b + x2)] rfl ?_
    refine r_getN (v := .ref (b + (x2 + 1))) X hk2 rfl zv_X0 zi_X0 rfl kf_X6_30 rfl rfl dX6_length_5 8 rfl ?_
    refine r_astore_n X dX6_length_8 9 rfl [(2, .int a2), (3, .ref (b + (x2 + 1)))] (by decide) [3, 0] rfl ?_
    refine r_iload_n X 0 rfl dX6_length_9 10 rfl ?_
    refine r_iconst (v := 0) X rfl dX6_length_10 11 rfl ?_
    obtain ⟨o3, e3, h⟩ := z_bd h
    cases o3 with
    | inl E9 =>
      have h := z_oxl h
      cases h
      exact r_xthrS (rest := []) X R (tX6_placeOrThrow hl G b a2 0 M (r9 := .inl E9) e3) zy_X6_placeOrThrow zs_X6_placeOrThrow km_X6_36 rfl ⟨rfl, rfl⟩ rfl rfl (Nat.le_of_ble_eq_true rfl) dX6_length_11
    | inr x4 =>
      have h := z_oxr h
      refine r_callS (rest := []) X (z_MX_ret (tX6_placeOrThrow hl G b a2 0 M (r9 := .inr x4) e3)) zy_X6_placeOrThrow zs_X6_placeOrThrow km_X6_36 rfl ⟨rfl, rfl⟩ ⟨rfl, rfl⟩ rfl rfl (Nat.le_of_ble_eq_true rfl) ⟨Nat.zero_le _, Nat.zero_le _⟩ dX6_length_11 14 rfl [.int x4] rfl ?_
      refine r_istore X dX6_length_14 16 rfl [(3, .ref (b + (x2 + 1))), (4, .int x4)] (by decide) [2, 0] rfl ?_
      refine r_iconst (v := 0) X rfl dX6_length_16 17 rfl ?_
      refine r_istore X dX6_length_17 19 rfl [(3, .ref (b + (x2 + 1))), (4, .int x4), (5, .int 0)] (by decide) [1, 2, 0] rfl ?_
      refine r_iconst (v := 0) X rfl dX6_length_19 20 rfl ?_
      refine r_istore X dX6_length_20 22 rfl [(3, .ref (b + (x2 + 1))), (4, .int x4), (5, .int 0), (6, .int 0)] (by decide) [1, 2, 3, 0] rfl ?_
      obtain ⟨x7, hL8, h⟩ := z_bd h
      have hK8 : GW Γ G b 0 0 M 54 [(5, .int x7)] [] := by
        refine r_iload X 0 rfl dX6_length_54 56 rfl ?_
        cases h
        exact r_xiret X R rfl dX6_length_56
      clear h
      refine z_loopP (fun (s : (Int32 × Int32)) => GW Γ G b 0 0 M 22 [(3, .ref (b + (x2 + 1))), (4, .int x4), (5, .int s.1), (6, .int s.2)] []) (fun s q8 hb hP8 hx8 => ?_) _ _ hL8
      obtain ⟨x5, x6⟩ := s
      have h : fX6_length_L1 M x2 x4 x5 x6 = some q8 := hb
      unfold fX6_length_L1 at h
      refine r_iload X 3 rfl dX6_length_22 24 rfl ?_
      refine r_bipush (v := 16) X rfl dX6_length_24 26 rfl ?_
      refine r_icmp_ge X dX6_length_26 54 (by decide) 29 rfl (fun c9 => ?_) (fun c9 => ?_)
      · have h := z_it c9 h
        refine r_sub [(5, .int x5)] [2] rfl ?_
        have e := hx8 _ (Option.some.inj h).symm
        cases e
        exact hK8
      · have h := z_ie c9 h
        refine r_aload_n X 0 rfl dX6_length_29 30 rfl ?_
        refine r_iload X 1 rfl dX6_length_30 32 rfl ?_
        refine r_iload X 3 rfl dX6_length_32 34 rfl ?_
        refine r_iadd X dX6_length_34 35 rfl ?_
        obtain ⟨x10, e10, h⟩ := z_bd h
        refine r_callVN (rest := []) X (tX4_blockOf hl G b (x2 + 1) (zk_0_0 hk2) (x4 + x6) M e10) zy_X4_blockOf zw_X4_blockOf km_X6_40 (zk_0_0 hk2) rfl zv_X4 rfl ⟨rfl, rfl⟩ ⟨rfl, rfl⟩ rfl rfl (Nat.le_of_ble_eq_true rfl) ⟨Nat.zero_le _, Nat.zero_le _⟩ dX6_length_35 38 rfl [.int x10] rfl ?_
        refine r_iconst (v := (-1)) X rfl dX6_length_38 39 rfl ?_
        refine r_icmp_eq X dX6_length_39 48 (by decide) 42 rfl (fun c11 => ?_) (fun c11 => ?_)
        · have h := z_it c11 h
          refine r_iinc X dX6_length_48 51 rfl [(3, .ref (b + (x2 + 1))), (4, .int x4), (5, .int x5), (6, .int (x6 + 1))] (by decide) 3 rfl (x6 + 1) rfl [1, 2, 3, 0] rfl ?_
          refine r_goto X dX6_length_51 22 (by decide) ?_
          exact hP8 (x5, (x6 + 1)) (Option.some.inj h).symm
        · have h := z_ie c11 h
          refine r_iload X 3 rfl dX6_length_42 44 rfl ?_
          refine r_iconst (v := 1) X rfl dX6_length_44 45 rfl ?_
          refine r_iadd X dX6_length_45 46 rfl ?_
          refine r_istore X dX6_length_46 48 rfl [(3, .ref (b + (x2 + 1))), (4, .int x4), (5, .int (x6 + 1)), (6, .int x6)] (by decide) [1, 2, 0, 3] rfl ?_
          refine r_iinc X dX6_length_48 51 rfl [(3, .ref (b + (x2 + 1))), (4, .int x4), (5, .int (x6 + 1)), (6, .int (x6 + 1))] (by decide) 3 rfl (x6 + 1) rfl [1, 2, 3, 0] rfl ?_
          refine r_goto X dX6_length_51 22 (by decide) ?_
          exact hP8 ((x6 + 1), (x6 + 1)) (Option.some.inj h).symm
set_option maxRecDepth 100000 in
set_option maxHeartbeats 1000000 in
theorem tX6_fits {l : Launch} (hl : l.stackTraces = false) (G : zG) (b : Nat) (a0 : Int32) (a1 : Int32) (M : zM) {r9 : Int32} (h : fX6_fits a0 a1 M = some r9) : z_MN l yX6_fits cX6_fits 2 (some .boolean) { frames := 0, cells := 0, slots := 0, locals := 0 } G b [.int a0, .int a1] M (some (.int r9)) M := by
  refine z_met (own := RX6) hl (by decide) rfl rfl (fun Γ hΓ X R => ?_)
  subst hΓ
  show GW Γ G b 0 0 M 0 [(0, .int a0), (1, .int a1)] []
  unfold fX6_fits at h
  refine r_iload_n X 1 rfl dX6_fits_0 1 rfl ?_
  refine r_iconst (v := 1) X rfl dX6_fits_1 2 rfl ?_
  refine r_icmp_lt X dX6_fits_2 17 (by decide) 5 rfl (fun c1 => ?_) (fun c1 => ?_)
  · have h := z_it c1 h
    refine r_iconst (v := 0) X rfl dX6_fits_17 18 rfl ?_
    cases h
    exact r_iret X R rfl dX6_fits_18
  · have h := z_ie c1 h
    refine r_iload_n X 1 rfl dX6_fits_5 6 rfl ?_
    refine r_bipush (v := 16) X rfl dX6_fits_6 8 rfl ?_
    refine r_iload_n X 0 rfl dX6_fits_8 9 rfl ?_
    refine r_isub X dX6_fits_9 10 rfl ?_
    refine r_icmp_gt X dX6_fits_10 17 (by decide) 13 rfl (fun c2 => ?_) (fun c2 => ?_)
    · have h := z_it c2 h
      refine r_iconst (v := 0) X rfl dX6_fits_17 18 rfl ?_
      cases h
      exact r_iret X R rfl dX6_fits_18
    · have h := z_ie c2 h
      refine r_iconst (v := 1) X rfl dX6_fits_13 14 rfl ?_
      refine r_goto X dX6_fits_14 18 (by decide) ?_
      cases h
      exact r_iret X R rfl dX6_fits_18
set_option maxRecDepth 100000 in
set_option maxHeartbeats 1000000 in
theorem tX6_punch {l : Launch} (hl : l.stackTraces = false) (G : zG) (b : Nat) (t0 : Nat) (ht0 : z_kd t0 = 6) (a1 : Int32) (a2 : Int32) (a3 : Int32) (a4 : Int32) (M : zM) {r9 : String ⊕ Int32} {M9 : zM} (h : fX6_punch t0 a1 a2 a3 a4 M = some (r9, M9)) : z_MX l yX6_punch cX6_punch 9 (some .int) 7 112 G b [.ref (b + t0), .int a1, .int a2, .int a3, .int a4] M (z_oi r9) M9 := by
  refine z_metx (own := RX6) hl (by decide) rfl rfl (fun Γ hΓ X R => ?_)
  subst hΓ
  show GW Γ G b 0 0 M 0 [(0, .ref (b + t0)), (1, .int a1), (2, .int a2), (3, .int a3), (4, .int a4)] []
  unfold fX6_punch at h
  refine r_aload_n X 0 rfl dX6_punch_0 1 rfl ?_
  refine r_iload_n X 1 rfl dX6_punch_1 2 rfl ?_
  obtain ⟨o1, e1, h⟩ := z_bd h
  cases o1 with
  | inl E9 =>
    have h := z_oxl h
    cases h
    exact r_xthrV (rest := []) X R (tX6_datasetOrThrow hl G b t0 ht0 a1 M (r9 := .inl E9) e1) zy_X6_datasetOrThrow zw_X6_datasetOrThrow km_X6_26 ht0 rfl zv_X6 rfl ⟨rfl, rfl⟩ rfl rfl (Nat.le_of_ble_eq_true rfl) dX6_punch_2
  | inr x2 =>
    have h := z_oxr h
    obtain ⟨hk2, h⟩ := z_gd_of h
    refine r_callV (rest := []) X (z_MX_ret (tX6_datasetOrThrow hl G b t0 ht0 a1 M (r9 := .inr x2) e1)) zy_X6_datasetOrThrow zw_X6_datasetOrThrow km_X6_26 ht0 rfl zv_X6 rfl ⟨rfl, rfl⟩ ⟨rfl, rfl⟩ rfl rfl (Nat.le_of_ble_eq_true rfl) ⟨Nat.zero_le _, Nat.zero_le _⟩ dX6_punch_2 5 rfl [.ref (b + x2)] rfl ?_
    refine r_getN (v := .ref (b + (x2 + 1))) X hk2 rfl zv_X0 zi_X0 rfl kf_X6_30 rfl rfl dX6_punch_5 8 rfl ?_
    refine r_astore X dX6_punch_8 10 rfl [(0, .ref (b + t0)), (2, .int a2), (3, .int a3), (4, .int a4), (5, .ref (b + (x2 + 1)))] (by decide) [1, 3, 4, 5, 0] rfl ?_
    refine r_iload_n X 1 rfl dX6_punch_10 11 rfl ?_
    refine r_iload_n X 2 rfl dX6_punch_11 12 rfl ?_
    obtain ⟨o3, e3, h⟩ := z_bd h
    cases o3 with
    | inl E9 =>
      have h := z_oxl h
      cases h
      exact r_xthrS (rest := []) X R (tX6_placeOrThrow hl G b a2 a3 M (r9 := .inl E9) e3) zy_X6_placeOrThrow zs_X6_placeOrThrow km_X6_36 rfl ⟨rfl, rfl⟩ rfl rfl (Nat.le_of_ble_eq_true rfl) dX6_punch_12
    | inr x4 =>
      have h := z_oxr h
      refine r_callS (rest := []) X (z_MX_ret (tX6_placeOrThrow hl G b a2 a3 M (r9 := .inr x4) e3)) zy_X6_placeOrThrow zs_X6_placeOrThrow km_X6_36 rfl ⟨rfl, rfl⟩ ⟨rfl, rfl⟩ rfl rfl (Nat.le_of_ble_eq_true rfl) ⟨Nat.zero_le _, Nat.zero_le _⟩ dX6_punch_12 15 rfl [.int x4] rfl ?_
      refine r_istore X dX6_punch_15 17 rfl [(0, .ref (b + t0)), (3, .int a3), (4, .int a4), (5, .ref (b + (x2 + 1))), (6, .int x4)] (by decide) [1, 3, 4, 5, 0] rfl ?_
      refine r_iload_n X 1 rfl dX6_punch_17 18 rfl ?_
      refine r_iload X 2 rfl dX6_punch_18 20 rfl ?_
      obtain ⟨x5, e5, h⟩ := z_bd h
      refine r_callS (rest := []) X (tX6_fits hl G b a3 a4 M e5) zy_X6_fits zs_X6_fits km_X6_92 rfl ⟨rfl, rfl⟩ ⟨rfl, rfl⟩ rfl rfl (Nat.le_of_ble_eq_true rfl) ⟨Nat.zero_le _, Nat.zero_le _⟩ dX6_punch_20 23 rfl [.int x5] rfl ?_
      refine r_if_ne X dX6_punch_23 36 (by decide) 26 rfl (fun c6 => ?_) (fun c6 => ?_)
      · have h := z_ie c6 h
        refine r_iconst (v := 0) X rfl dX6_punch_36 37 rfl ?_
        refine r_istore X dX6_punch_37 39 rfl [(0, .ref (b + t0)), (4, .int a4), (5, .ref (b + (x2 + 1))), (6, .int x4), (7, .int 0)] (by decide) [1, 3, 4, 5, 0] rfl ?_
        refine r_iconst (v := 0) X rfl dX6_punch_39 40 rfl ?_
        refine r_istore X dX6_punch_40 42 rfl [(0, .ref (b + t0)), (4, .int a4), (5, .ref (b + (x2 + 1))), (6, .int x4), (7, .int 0), (8, .int 0)] (by decide) [1, 2, 3, 4, 5, 0] rfl ?_
        obtain ⟨x10, M11, hL12, h⟩ := z_bd2 h
        have hK12 : GW Γ G b 0 0 M11 87 [(0, .ref (b + t0)), (7, .int x10)] [] := by
          refine r_aload_n X 0 rfl dX6_punch_87 88 rfl ?_
          refine r_get (v := .ref (b + (t0 + 1))) X ht0 rfl zv_X6 zi_X6 rfl kf_X6_12 rfl rfl dX6_punch_88 91 rfl ?_
          obtain ⟨x13, M14, e14, h⟩ := z_bd2 h
          refine r_callVN (rest := []) X (tX5_settle hl G b (t0 + 1) (zk_6_0 ht0) M11 e14) zy_X5_settle zw_X5_settle km_X6_86 (zk_6_0 ht0) rfl zv_X5 rfl ⟨rfl, rfl⟩ ⟨rfl, rfl⟩ rfl rfl (Nat.le_of_ble_eq_true rfl) ⟨Nat.zero_le _, Nat.zero_le _⟩ dX6_punch_91 94 rfl [.int x13] rfl ?_
          refine r_pop X rfl dX6_punch_94 95 rfl ?_
          refine r_iload X 1 rfl dX6_punch_95 97 rfl ?_
          cases h
          exact r_xiret X R rfl dX6_punch_97
        clear h
        refine z_loopP (fun (s : (Int32 × Int32 × zM)) => GW Γ G b 0 0 s.2.2 42 [(0, .ref (b + t0)), (4, .int a4), (5, .ref (b + (x2 + 1))), (6, .int x4), (7, .int s.1), (8, .int s.2.1)] []) (fun s q12 hb hP12 hx12 => ?_) _ _ hL12
        obtain ⟨x7, x8, M9⟩ := s
        have h : fX6_punch_L1 t0 a4 x2 x4 x7 x8 M9 = some q12 := hb
        unfold fX6_punch_L1 at h
        refine r_iload X 5 rfl dX6_punch_42 44 rfl ?_
        refine r_iload X 1 rfl dX6_punch_44 46 rfl ?_
        refine r_icmp_ge X dX6_punch_46 87 (by decide) 49 rfl (fun c15 => ?_) (fun c15 => ?_)
        · have h := z_it c15 h
          refine r_sub [(0, .ref (b + t0)), (7, .int x7)] [0, 4] rfl ?_
          have e := hx12 _ (Option.some.inj h).symm
          cases e
          exact hK12
        · have h := z_ie c15 h
          refine r_aload X 2 rfl dX6_punch_49 51 rfl ?_
          refine r_iload X 3 rfl dX6_punch_51 53 rfl ?_
          refine r_iload X 5 rfl dX6_punch_53 55 rfl ?_
          refine r_iadd X dX6_punch_55 56 rfl ?_
          obtain ⟨x16, e16, h⟩ := z_bd h
          refine r_callVN (rest := []) X (tX4_blockOf hl G b (x2 + 1) (zk_0_0 hk2) (x4 + x8) M9 e16) zy_X4_blockOf zw_X4_blockOf km_X6_40 (zk_0_0 hk2) rfl zv_X4 rfl ⟨rfl, rfl⟩ ⟨rfl, rfl⟩ rfl rfl (Nat.le_of_ble_eq_true rfl) ⟨Nat.zero_le _, Nat.zero_le _⟩ dX6_punch_56 59 rfl [.int x16] rfl ?_
          refine r_iconst (v := (-1)) X rfl dX6_punch_59 60 rfl ?_
          refine r_icmp_eq X dX6_punch_60 81 (by decide) 63 rfl (fun c17 => ?_) (fun c17 => ?_)
          · have h := z_it c17 h
            refine r_iinc X dX6_punch_81 84 rfl [(0, .ref (b + t0)), (4, .int a4), (5, .ref (b + (x2 + 1))), (6, .int x4), (7, .int x7), (8, .int (x8 + 1))] (by decide) 5 rfl (x8 + 1) rfl [1, 2, 3, 4, 5, 0] rfl ?_
            refine r_goto X dX6_punch_84 42 (by decide) ?_
            exact hP12 (x7, (x8 + 1), M9) (Option.some.inj h).symm
          · have h := z_ie c17 h
            refine r_aload_n X 0 rfl dX6_punch_63 64 rfl ?_
            refine r_get (v := .ref (b + (t0 + 1))) X ht0 rfl zv_X6 zi_X6 rfl kf_X6_12 rfl rfl dX6_punch_64 67 rfl ?_
            refine r_aload X 2 rfl dX6_punch_67 69 rfl ?_
            refine r_iload X 3 rfl dX6_punch_69 71 rfl ?_
            refine r_iload X 5 rfl dX6_punch_71 73 rfl ?_
            refine r_iadd X dX6_punch_73 74 rfl ?_
            refine r_iconst (v := (-1)) X rfl dX6_punch_74 75 rfl ?_
            obtain ⟨M18, e18, h⟩ := z_bd h
            refine r_callVN (rest := []) X (tX5_put hl G b (t0 + 1) (zk_6_0 ht0) (x2 + 1) (zk_0_0 hk2) (x4 + x8) (-1) M9 e18) zy_X5_put zw_X5_put km_X6_82 (zk_6_0 ht0) rfl zv_X5 rfl ⟨rfl, rfl⟩ ⟨rfl, rfl⟩ rfl rfl (Nat.le_of_ble_eq_true rfl) ⟨Nat.zero_le _, Nat.zero_le _⟩ dX6_punch_75 78 rfl [] rfl ?_
            refine r_iinc X dX6_punch_78 81 rfl [(0, .ref (b + t0)), (4, .int a4), (5, .ref (b + (x2 + 1))), (6, .int x4), (7, .int (x7 + 1)), (8, .int x8)] (by decide) 4 rfl (x7 + 1) rfl [1, 2, 3, 4, 0, 5] rfl ?_
            refine r_iinc X dX6_punch_81 84 rfl [(0, .ref (b + t0)), (4, .int a4), (5, .ref (b + (x2 + 1))), (6, .int x4), (7, .int (x7 + 1)), (8, .int (x8 + 1))] (by decide) 5 rfl (x8 + 1) rfl [1, 2, 3, 4, 5, 0] rfl ?_
            refine r_goto X dX6_punch_84 42 (by decide) ?_
            exact hP12 ((x7 + 1), (x8 + 1), M18) (Option.some.inj h).symm
      · have h := z_it c6 h
        cases h
        exact r_throw X R ze_ia (List.mem_of_getElem? (i := 1) rfl) rfl rfl dX6_punch_26 dX6_punch_29 dX6_punch_30 dX6_punch_32 dX6_punch_35
set_option maxRecDepth 100000 in
set_option maxHeartbeats 1000000 in
theorem tX6_take {l : Launch} (hl : l.stackTraces = false) (G : zG) (b : Nat) (t0 : Nat) (ht0 : z_kd t0 = 6) (a1 : Nat) (ha1 : z_kd a1 = 4) (a2 : Int32) (a3 : Int32) (M : zM) {M9 : zM} (h : fX6_take t0 a1 a2 a3 M = some M9) : z_MN l yX6_take cX6_take 5 none { frames := 1, cells := 0, slots := 0, locals := 21 } G b [.ref (b + t0), .ref (b + a1), .int a2, .int a3] M none M9 := by
  refine z_met (own := RX6) hl (by decide) rfl rfl (fun Γ hΓ X R => ?_)
  subst hΓ
  show GW Γ G b 0 0 M 0 [(0, .ref (b + t0)), (1, .ref (b + a1)), (2, .int a2), (3, .int a3)] []
  unfold fX6_take at h
  refine r_iconst (v := 0) X rfl dX6_take_0 1 rfl ?_
  refine r_istore X dX6_take_1 3 rfl [(0, .ref (b + t0)), (1, .ref (b + a1)), (2, .int a2), (3, .int a3), (4, .int 0)] (by decide) [1, 2, 3, 4, 0] rfl ?_
  obtain ⟨M3, hL4, h⟩ := z_bd h
  have hK4 : GW Γ G b 0 0 M3 40 [] [] := by
    cases h
    exact r_vret X R dX6_take_40
  clear h
  refine z_loopP (fun (s : (Int32 × zM)) => GW Γ G b 0 0 s.2 3 [(0, .ref (b + t0)), (1, .ref (b + a1)), (2, .int a2), (3, .int a3), (4, .int s.1)] []) (fun s q4 hb hP4 hx4 => ?_) _ _ hL4
  obtain ⟨x1, M2⟩ := s
  have h : fX6_take_L1 t0 a1 a2 a3 x1 M2 = some q4 := hb
  unfold fX6_take_L1 at h
  refine r_iload X 4 rfl dX6_take_3 5 rfl ?_
  refine r_iload_n X 3 rfl dX6_take_5 6 rfl ?_
  refine r_icmp_ge X dX6_take_6 40 (by decide) 9 rfl (fun c5 => ?_) (fun c5 => ?_)
  · have h := z_it c5 h
    refine r_sub [] [] rfl ?_
    have e := hx4 _ (Option.some.inj h).symm
    cases e
    exact hK4
  · have h := z_ie c5 h
    refine r_iload X 4 rfl dX6_take_9 11 rfl ?_
    refine r_aload_n X 0 rfl dX6_take_11 12 rfl ?_
    refine r_get (v := .ref (b + (t0 + 167))) X ht0 rfl zv_X6 zi_X6 rfl kf_X6_19 rfl rfl dX6_take_12 15 rfl ?_
    refine r_alen (v := 16) X (zk_6_2 ht0) rfl (z_lt rfl (zk_6_2 ht0)) (zn_6_2 ht0) rfl rfl rfl dX6_take_15 16 rfl ?_
    refine r_icmp_ge X dX6_take_16 40 (by decide) 19 rfl (fun c6 => ?_) (fun c6 => ?_)
    · have h := z_it c6 h
      refine r_sub [] [] rfl ?_
      have e := hx4 _ (Option.some.inj h).symm
      cases e
      exact hK4
    · have h := z_ie c6 h
      refine r_aload_n X 0 rfl dX6_take_19 20 rfl ?_
      refine r_get (v := .ref (b + (t0 + 167))) X ht0 rfl zv_X6 zi_X6 rfl kf_X6_19 rfl rfl dX6_take_20 23 rfl ?_
      refine r_iload X 4 rfl dX6_take_23 25 rfl ?_
      refine r_aload_n X 1 rfl dX6_take_25 26 rfl ?_
      refine r_iload_n X 2 rfl dX6_take_26 27 rfl ?_
      refine r_iload X 4 rfl dX6_take_27 29 rfl ?_
      refine r_iadd X dX6_take_29 30 rfl ?_
      obtain ⟨x7, e7, h⟩ := z_bd h
      refine r_callVN (rest := [.int x1, .ref (b + (t0 + 167))]) X (tX4_blockOf hl G b a1 ha1 (a2 + x1) M2 e7) zy_X4_blockOf zw_X4_blockOf km_X6_40 ha1 rfl zv_X4 rfl ⟨rfl, rfl⟩ ⟨rfl, rfl⟩ rfl rfl (Nat.le_of_ble_eq_true rfl) ⟨Nat.zero_le _, Nat.zero_le _⟩ dX6_take_30 33 rfl [.int x7, .int x1, .ref (b + (t0 + 167))] rfl ?_
      obtain ⟨M8, e8, h⟩ := z_bd h
      refine r_iastore X (zk_6_2 ht0) (zn_6_2 ht0) e8 dX6_take_33 34 rfl ?_
      refine r_iinc X dX6_take_34 37 rfl [(0, .ref (b + t0)), (1, .ref (b + a1)), (2, .int a2), (3, .int a3), (4, .int (x1 + 1))] (by decide) 4 rfl (x1 + 1) rfl [1, 2, 3, 4, 0] rfl ?_
      refine r_goto X dX6_take_37 3 (by decide) ?_
      exact hP4 ((x1 + 1), M8) (Option.some.inj h).symm
set_option maxRecDepth 100000 in
set_option maxHeartbeats 1000000 in
theorem tX6_reflink {l : Launch} (hl : l.stackTraces = false) (G : zG) (b : Nat) (t0 : Nat) (ht0 : z_kd t0 = 6) (a1 : Int32) (a2 : Int32) (a3 : Int32) (a4 : Int32) (a5 : Int32) (a6 : Int32) (M : zM) {r9 : String ⊕ Int32} {M9 : zM} (h : fX6_reflink t0 a1 a2 a3 a4 a5 a6 M = some (r9, M9)) : z_MX l yX6_reflink cX6_reflink 12 (some .int) 7 112 G b [.ref (b + t0), .int a1, .int a2, .int a3, .int a4, .int a5, .int a6] M (z_oi r9) M9 := by
  refine z_metx (own := RX6) hl (by decide) rfl rfl (fun Γ hΓ X R => ?_)
  subst hΓ
  show GW Γ G b 0 0 M 0 [(0, .ref (b + t0)), (1, .int a1), (2, .int a2), (3, .int a3), (4, .int a4), (5, .int a5), (6, .int a6)] []
  unfold fX6_reflink at h
  refine r_aload_n X 0 rfl dX6_reflink_0 1 rfl ?_
  refine r_iload_n X 1 rfl dX6_reflink_1 2 rfl ?_
  obtain ⟨o1, e1, h⟩ := z_bd h
  cases o1 with
  | inl E9 =>
    have h := z_oxl h
    cases h
    exact r_xthrV (rest := []) X R (tX6_datasetOrThrow hl G b t0 ht0 a1 M (r9 := .inl E9) e1) zy_X6_datasetOrThrow zw_X6_datasetOrThrow km_X6_26 ht0 rfl zv_X6 rfl ⟨rfl, rfl⟩ rfl rfl (Nat.le_of_ble_eq_true rfl) dX6_reflink_2
  | inr x2 =>
    have h := z_oxr h
    obtain ⟨hk2, h⟩ := z_gd_of h
    refine r_callV (rest := []) X (z_MX_ret (tX6_datasetOrThrow hl G b t0 ht0 a1 M (r9 := .inr x2) e1)) zy_X6_datasetOrThrow zw_X6_datasetOrThrow km_X6_26 ht0 rfl zv_X6 rfl ⟨rfl, rfl⟩ ⟨rfl, rfl⟩ rfl rfl (Nat.le_of_ble_eq_true rfl) ⟨Nat.zero_le _, Nat.zero_le _⟩ dX6_reflink_2 5 rfl [.ref (b + x2)] rfl ?_
    refine r_getN (v := .ref (b + (x2 + 1))) X hk2 rfl zv_X0 zi_X0 rfl kf_X6_30 rfl rfl dX6_reflink_5 8 rfl ?_
    refine r_astore X dX6_reflink_8 10 rfl [(0, .ref (b + t0)), (2, .int a2), (3, .int a3), (4, .int a4), (5, .int a5), (6, .int a6), (7, .ref (b + (x2 + 1)))] (by decide) [1, 3, 4, 5, 6, 7, 0] rfl ?_
    refine r_iload_n X 1 rfl dX6_reflink_10 11 rfl ?_
    refine r_iload_n X 2 rfl dX6_reflink_11 12 rfl ?_
    obtain ⟨o3, e3, h⟩ := z_bd h
    cases o3 with
    | inl E9 =>
      have h := z_oxl h
      cases h
      exact r_xthrS (rest := []) X R (tX6_placeOrThrow hl G b a2 a3 M (r9 := .inl E9) e3) zy_X6_placeOrThrow zs_X6_placeOrThrow km_X6_36 rfl ⟨rfl, rfl⟩ rfl rfl (Nat.le_of_ble_eq_true rfl) dX6_reflink_12
    | inr x4 =>
      have h := z_oxr h
      refine r_callS (rest := []) X (z_MX_ret (tX6_placeOrThrow hl G b a2 a3 M (r9 := .inr x4) e3)) zy_X6_placeOrThrow zs_X6_placeOrThrow km_X6_36 rfl ⟨rfl, rfl⟩ ⟨rfl, rfl⟩ rfl rfl (Nat.le_of_ble_eq_true rfl) ⟨Nat.zero_le _, Nat.zero_le _⟩ dX6_reflink_12 15 rfl [.int x4] rfl ?_
      refine r_istore X dX6_reflink_15 17 rfl [(0, .ref (b + t0)), (3, .int a3), (4, .int a4), (5, .int a5), (6, .int a6), (7, .ref (b + (x2 + 1))), (8, .int x4)] (by decide) [1, 3, 4, 5, 6, 7, 0] rfl ?_
      refine r_iload X 2 rfl dX6_reflink_17 19 rfl ?_
      refine r_iload X 3 rfl dX6_reflink_19 21 rfl ?_
      obtain ⟨o5, e5, h⟩ := z_bd h
      cases o5 with
      | inl E9 =>
        have h := z_oxl h
        cases h
        exact r_xthrS (rest := []) X R (tX6_placeOrThrow hl G b a4 a5 M (r9 := .inl E9) e5) zy_X6_placeOrThrow zs_X6_placeOrThrow km_X6_36 rfl ⟨rfl, rfl⟩ rfl rfl (Nat.le_of_ble_eq_true rfl) dX6_reflink_21
      | inr x6 =>
        have h := z_oxr h
        refine r_callS (rest := []) X (z_MX_ret (tX6_placeOrThrow hl G b a4 a5 M (r9 := .inr x6) e5)) zy_X6_placeOrThrow zs_X6_placeOrThrow km_X6_36 rfl ⟨rfl, rfl⟩ ⟨rfl, rfl⟩ rfl rfl (Nat.le_of_ble_eq_true rfl) ⟨Nat.zero_le _, Nat.zero_le _⟩ dX6_reflink_21 24 rfl [.int x6] rfl ?_
        refine r_istore X dX6_reflink_24 26 rfl [(0, .ref (b + t0)), (3, .int a3), (5, .int a5), (6, .int a6), (7, .ref (b + (x2 + 1))), (8, .int x4), (9, .int x6)] (by decide) [1, 2, 4, 5, 6, 7, 0] rfl ?_
        refine r_iload_n X 1 rfl dX6_reflink_26 27 rfl ?_
        refine r_iload X 3 rfl dX6_reflink_27 29 rfl ?_
        obtain ⟨x7, e7, h⟩ := z_bd h
        refine r_callS (rest := []) X (tX6_fits hl G b a3 a6 M e7) zy_X6_fits zs_X6_fits km_X6_92 rfl ⟨rfl, rfl⟩ ⟨rfl, rfl⟩ rfl rfl (Nat.le_of_ble_eq_true rfl) ⟨Nat.zero_le _, Nat.zero_le _⟩ dX6_reflink_29 32 rfl [.int x7] rfl ?_
        refine r_if_eq X dX6_reflink_32 45 (by decide) 35 rfl (fun c8 => ?_) (fun c8 => ?_)
        · have h := z_it c8 h
          cases h
          exact r_throw X R ze_ia (List.mem_of_getElem? (i := 2) rfl) rfl rfl dX6_reflink_45 dX6_reflink_48 dX6_reflink_49 dX6_reflink_51 dX6_reflink_54
        · have h := z_ie c8 h
          refine r_iload X 2 rfl dX6_reflink_35 37 rfl ?_
          refine r_iload X 3 rfl dX6_reflink_37 39 rfl ?_
          obtain ⟨x9, e9, h⟩ := z_bd h
          refine r_callS (rest := []) X (tX6_fits hl G b a5 a6 M e9) zy_X6_fits zs_X6_fits km_X6_92 rfl ⟨rfl, rfl⟩ ⟨rfl, rfl⟩ rfl rfl (Nat.le_of_ble_eq_true rfl) ⟨Nat.zero_le _, Nat.zero_le _⟩ dX6_reflink_39 42 rfl [.int x9] rfl ?_
          refine r_if_ne X dX6_reflink_42 55 (by decide) 45 rfl (fun c10 => ?_) (fun c10 => ?_)
          · have h := z_ie c10 h
            refine r_aload_n X 0 rfl dX6_reflink_55 56 rfl ?_
            refine r_aload X 4 rfl dX6_reflink_56 58 rfl ?_
            refine r_iload X 5 rfl dX6_reflink_58 60 rfl ?_
            refine r_iload X 3 rfl dX6_reflink_60 62 rfl ?_
            obtain ⟨M11, e11, h⟩ := z_bd h
            refine r_callV (rest := []) X (tX6_take hl G b t0 ht0 (x2 + 1) (zk_0_0 hk2) x4 a6 M e11) zy_X6_take zw_X6_take km_X6_102 ht0 rfl zv_X6 rfl ⟨rfl, rfl⟩ ⟨rfl, rfl⟩ rfl rfl (Nat.le_of_ble_eq_true rfl) ⟨Nat.zero_le _, Nat.zero_le _⟩ dX6_reflink_62 65 rfl [] rfl ?_
            refine r_iconst (v := 0) X rfl dX6_reflink_65 66 rfl ?_
            refine r_istore X dX6_reflink_66 68 rfl [(0, .ref (b + t0)), (6, .int a6), (7, .ref (b + (x2 + 1))), (9, .int x6), (10, .int 0)] (by decide) [1, 4, 5, 7, 0] rfl ?_
            refine r_iconst (v := 0) X rfl dX6_reflink_68 69 rfl ?_
            refine r_istore X dX6_reflink_69 71 rfl [(0, .ref (b + t0)), (6, .int a6), (7, .ref (b + (x2 + 1))), (9, .int x6), (10, .int 0), (11, .int 0)] (by decide) [1, 2, 3, 4, 5, 0] rfl ?_
            obtain ⟨x15, M16, hL17, h⟩ := z_bd2 h
            have hK17 : GW Γ G b 0 0 M16 138 [(0, .ref (b + t0)), (10, .int x15)] [] := by
              refine r_aload_n X 0 rfl dX6_reflink_138 139 rfl ?_
              refine r_get (v := .ref (b + (t0 + 1))) X ht0 rfl zv_X6 zi_X6 rfl kf_X6_12 rfl rfl dX6_reflink_139 142 rfl ?_
              obtain ⟨x18, M19, e19, h⟩ := z_bd2 h
              refine r_callVN (rest := []) X (tX5_settle hl G b (t0 + 1) (zk_6_0 ht0) M16 e19) zy_X5_settle zw_X5_settle km_X6_86 (zk_6_0 ht0) rfl zv_X5 rfl ⟨rfl, rfl⟩ ⟨rfl, rfl⟩ rfl rfl (Nat.le_of_ble_eq_true rfl) ⟨Nat.zero_le _, Nat.zero_le _⟩ dX6_reflink_142 145 rfl [.int x18] rfl ?_
              refine r_pop X rfl dX6_reflink_145 146 rfl ?_
              refine r_iload X 1 rfl dX6_reflink_146 148 rfl ?_
              cases h
              exact r_xiret X R rfl dX6_reflink_148
            clear h
            refine z_loopP (fun (s : (Int32 × Int32 × zM)) => GW Γ G b 0 0 s.2.2 71 [(0, .ref (b + t0)), (6, .int a6), (7, .ref (b + (x2 + 1))), (9, .int x6), (10, .int s.1), (11, .int s.2.1)] []) (fun s q17 hb hP17 hx17 => ?_) _ _ hL17
            obtain ⟨x12, x13, M14⟩ := s
            have h : fX6_reflink_L1 t0 a6 x2 x6 x12 x13 M14 = some q17 := hb
            unfold fX6_reflink_L1 at h
            refine r_iload X 5 rfl dX6_reflink_71 73 rfl ?_
            refine r_iload X 1 rfl dX6_reflink_73 75 rfl ?_
            refine r_icmp_ge X dX6_reflink_75 138 (by decide) 78 rfl (fun c20 => ?_) (fun c20 => ?_)
            · have h := z_it c20 h
              refine r_sub [(0, .ref (b + t0)), (10, .int x12)] [0, 4] rfl ?_
              have e := hx17 _ (Option.some.inj h).symm
              cases e
              exact hK17
            · have h := z_ie c20 h
              refine r_iload X 5 rfl dX6_reflink_78 80 rfl ?_
              refine r_aload_n X 0 rfl dX6_reflink_80 81 rfl ?_
              refine r_get (v := .ref (b + (t0 + 167))) X ht0 rfl zv_X6 zi_X6 rfl kf_X6_19 rfl rfl dX6_reflink_81 84 rfl ?_
              refine r_alen (v := 16) X (zk_6_2 ht0) rfl (z_lt rfl (zk_6_2 ht0)) (zn_6_2 ht0) rfl rfl rfl dX6_reflink_84 85 rfl ?_
              refine r_icmp_ge X dX6_reflink_85 138 (by decide) 88 rfl (fun c21 => ?_) (fun c21 => ?_)
              · have h := z_it c21 h
                refine r_sub [(0, .ref (b + t0)), (10, .int x12)] [0, 4] rfl ?_
                have e := hx17 _ (Option.some.inj h).symm
                cases e
                exact hK17
              · have h := z_ie c21 h
                refine r_aload X 2 rfl dX6_reflink_88 90 rfl ?_
                refine r_iload X 3 rfl dX6_reflink_90 92 rfl ?_
                refine r_iload X 5 rfl dX6_reflink_92 94 rfl ?_
                refine r_iadd X dX6_reflink_94 95 rfl ?_
                obtain ⟨x22, e22, h⟩ := z_bd h
                refine r_callVN (rest := []) X (tX4_blockOf hl G b (x2 + 1) (zk_0_0 hk2) (x6 + x13) M14 e22) zy_X4_blockOf zw_X4_blockOf km_X6_40 (zk_0_0 hk2) rfl zv_X4 rfl ⟨rfl, rfl⟩ ⟨rfl, rfl⟩ rfl rfl (Nat.le_of_ble_eq_true rfl) ⟨Nat.zero_le _, Nat.zero_le _⟩ dX6_reflink_95 98 rfl [.int x22] rfl ?_
                refine r_aload_n X 0 rfl dX6_reflink_98 99 rfl ?_
                refine r_get (v := .ref (b + (t0 + 167))) X ht0 rfl zv_X6 zi_X6 rfl kf_X6_19 rfl rfl dX6_reflink_99 102 rfl ?_
                refine r_iload X 5 rfl dX6_reflink_102 104 rfl ?_
                obtain ⟨x23, e23, h⟩ := z_bd h
                refine r_iaload X (zk_6_2 ht0) (zn_6_2 ht0) e23 dX6_reflink_104 105 rfl ?_
                refine r_icmp_eq X dX6_reflink_105 132 (by decide) 108 rfl (fun c24 => ?_) (fun c24 => ?_)
                · have h := z_it c24 h
                  refine r_iinc X dX6_reflink_132 135 rfl [(0, .ref (b + t0)), (6, .int a6), (7, .ref (b + (x2 + 1))), (9, .int x6), (10, .int x12), (11, .int (x13 + 1))] (by decide) 5 rfl (x13 + 1) rfl [1, 2, 3, 4, 5, 0] rfl ?_
                  refine r_goto X dX6_reflink_135 71 (by decide) ?_
                  exact hP17 (x12, (x13 + 1), M14) (Option.some.inj h).symm
                · have h := z_ie c24 h
                  refine r_aload_n X 0 rfl dX6_reflink_108 109 rfl ?_
                  refine r_get (v := .ref (b + (t0 + 1))) X ht0 rfl zv_X6 zi_X6 rfl kf_X6_12 rfl rfl dX6_reflink_109 112 rfl ?_
                  refine r_aload X 2 rfl dX6_reflink_112 114 rfl ?_
                  refine r_iload X 3 rfl dX6_reflink_114 116 rfl ?_
                  refine r_iload X 5 rfl dX6_reflink_116 118 rfl ?_
                  refine r_iadd X dX6_reflink_118 119 rfl ?_
                  refine r_aload_n X 0 rfl dX6_reflink_119 120 rfl ?_
                  refine r_get (v := .ref (b + (t0 + 167))) X ht0 rfl zv_X6 zi_X6 rfl kf_X6_19 rfl rfl dX6_reflink_120 123 rfl ?_
                  refine r_iload X 5 rfl dX6_reflink_123 125 rfl ?_
                  obtain ⟨x25, e25, h⟩ := z_bd h
                  refine r_iaload X (zk_6_2 ht0) (zn_6_2 ht0) e25 dX6_reflink_125 126 rfl ?_
                  obtain ⟨M26, e26, h⟩ := z_bd h
                  refine r_callVN (rest := []) X (tX5_put hl G b (t0 + 1) (zk_6_0 ht0) (x2 + 1) (zk_0_0 hk2) (x6 + x13) x25 M14 e26) zy_X5_put zw_X5_put km_X6_82 (zk_6_0 ht0) rfl zv_X5 rfl ⟨rfl, rfl⟩ ⟨rfl, rfl⟩ rfl rfl (Nat.le_of_ble_eq_true rfl) ⟨Nat.zero_le _, Nat.zero_le _⟩ dX6_reflink_126 129 rfl [] rfl ?_
                  refine r_iinc X dX6_reflink_129 132 rfl [(0, .ref (b + t0)), (6, .int a6), (7, .ref (b + (x2 + 1))), (9, .int x6), (10, .int (x12 + 1)), (11, .int x13)] (by decide) 4 rfl (x12 + 1) rfl [1, 2, 3, 4, 0, 5] rfl ?_
                  refine r_iinc X dX6_reflink_132 135 rfl [(0, .ref (b + t0)), (6, .int a6), (7, .ref (b + (x2 + 1))), (9, .int x6), (10, .int (x12 + 1)), (11, .int (x13 + 1))] (by decide) 5 rfl (x13 + 1) rfl [1, 2, 3, 4, 5, 0] rfl ?_
                  refine r_goto X dX6_reflink_135 71 (by decide) ?_
                  exact hP17 ((x12 + 1), (x13 + 1), M26) (Option.some.inj h).symm
          · have h := z_it c10 h
            cases h
            exact r_throw X R ze_ia (List.mem_of_getElem? (i := 2) rfl) rfl rfl dX6_reflink_45 dX6_reflink_48 dX6_reflink_49 dX6_reflink_51 dX6_reflink_54
set_option maxRecDepth 100000 in
set_option maxHeartbeats 1000000 in
theorem tX6_closeTransaction {l : Launch} (hl : l.stackTraces = false) (G : zG) (b : Nat) (t0 : Nat) (ht0 : z_kd t0 = 6) (M : zM) {r9 : Int32} {M9 : zM} (h : fX6_closeTransaction t0 M = some (r9, M9)) : z_MN l yX6_closeTransaction cX6_closeTransaction 3 (some .int) { frames := 4, cells := 0, slots := 0, locals := 104 } G b [.ref (b + t0)] M (some (.int r9)) M9 := by
  refine z_met (own := RX6) hl (by decide) rfl rfl (fun Γ hΓ X R => ?_)
  subst hΓ
  show GW Γ G b 0 0 M 0 [(0, .ref (b + t0))] []
  unfold fX6_closeTransaction at h
  refine r_aload_n X 0 rfl dX6_closeTransaction_0 1 rfl ?_
  refine r_get (v := .ref (b + (t0 + 1))) X ht0 rfl zv_X6 zi_X6 rfl kf_X6_12 rfl rfl dX6_closeTransaction_1 4 rfl ?_
  refine r_getN (v := .int (M (t0 + 1) 4)) X (zk_6_0 ht0) rfl zv_X5 zi_X5 rfl kf_X6_50 rfl rfl dX6_closeTransaction_4 7 rfl ?_
  refine r_istore_n X dX6_closeTransaction_7 8 rfl [(0, .ref (b + t0)), (1, .int (M (t0 + 1) 4))] (by decide) [1, 0] rfl ?_
  refine r_aload_n X 0 rfl dX6_closeTransaction_8 9 rfl ?_
  refine r_get (v := .ref (b + (t0 + 1))) X ht0 rfl zv_X6 zi_X6 rfl kf_X6_12 rfl rfl dX6_closeTransaction_9 12 rfl ?_
  refine r_getN (v := .ref (b + ((t0 + 1) + 3))) X (zk_6_0 ht0) rfl zv_X5 zi_X5 rfl kf_X6_46 rfl rfl dX6_closeTransaction_12 15 rfl ?_
  obtain ⟨M1, e1, h⟩ := z_bd h
  refine r_callVN (rest := []) X (tX3_releasePending hl G b ((t0 + 1) + 3) (zk_5_2 (zk_6_0 ht0)) M e1) zy_X3_releasePending zw_X3_releasePending km_X6_287 (zk_5_2 (zk_6_0 ht0)) rfl zv_X3 rfl ⟨rfl, rfl⟩ ⟨rfl, rfl⟩ rfl rfl (Nat.le_of_ble_eq_true rfl) ⟨Nat.zero_le _, Nat.zero_le _⟩ dX6_closeTransaction_15 18 rfl [] rfl ?_
  refine r_iconst (v := 0) X rfl dX6_closeTransaction_18 19 rfl ?_
  refine r_istore_n X dX6_closeTransaction_19 20 rfl [(0, .ref (b + t0)), (1, .int (M (t0 + 1) 4)), (2, .int 0)] (by decide) [1, 2, 0] rfl ?_
  obtain ⟨M4, hL5, h⟩ := z_bd h
  have hK5 : GW Γ G b 0 0 M4 80 [(0, .ref (b + t0)), (1, .int (M (t0 + 1) 4))] [] := by
    refine r_aload_n X 0 rfl dX6_closeTransaction_80 81 rfl ?_
    refine r_get (v := .ref (b + (t0 + 1))) X ht0 rfl zv_X6 zi_X6 rfl kf_X6_12 rfl rfl dX6_closeTransaction_81 84 rfl ?_
    refine r_iload_n X 1 rfl dX6_closeTransaction_84 85 rfl ?_
    refine r_iconst (v := 1) X rfl dX6_closeTransaction_85 86 rfl ?_
    refine r_iadd X dX6_closeTransaction_86 87 rfl ?_
    obtain ⟨M6, e6, h⟩ := z_bd h
    refine r_putN X (zk_6_0 ht0) rfl zv_X5 zi_X5 rfl kf_X6_50 rfl tyX5_ok nmX5 rfl rfl rfl rfl rfl rfl (Option.some.inj e6) dX6_closeTransaction_87 90 rfl ?_
    refine r_aload_n X 0 rfl dX6_closeTransaction_90 91 rfl ?_
    refine r_get (v := .ref (b + (t0 + 84))) X ht0 rfl zv_X6 zi_X6 rfl kf_X6_16 rfl rfl dX6_closeTransaction_91 94 rfl ?_
    refine r_aload_n X 0 rfl dX6_closeTransaction_94 95 rfl ?_
    refine r_get (v := .ref (b + (t0 + 1))) X ht0 rfl zv_X6 zi_X6 rfl kf_X6_12 rfl rfl dX6_closeTransaction_95 98 rfl ?_
    obtain ⟨M7, e7, h⟩ := z_bd h
    refine r_callVN (rest := []) X (tX5_copyFrom hl G b (t0 + 84) (zk_6_1 ht0) (t0 + 1) (zk_6_0 ht0) M6 e7) zy_X5_copyFrom zw_X5_copyFrom km_X6_108 (zk_6_1 ht0) rfl zv_X5 rfl ⟨rfl, rfl⟩ ⟨rfl, rfl⟩ rfl rfl (Nat.le_of_ble_eq_true rfl) ⟨Nat.zero_le _, Nat.zero_le _⟩ dX6_closeTransaction_98 101 rfl [] rfl ?_
    refine r_iload_n X 1 rfl dX6_closeTransaction_101 102 rfl ?_
    cases h
    exact r_iret X R rfl dX6_closeTransaction_102
  clear h
  refine z_loopP (fun (s : (Int32 × zM)) => GW Γ G b 0 0 s.2 20 [(0, .ref (b + t0)), (1, .int (M (t0 + 1) 4)), (2, .int s.1)] []) (fun s q5 hb hP5 hx5 => ?_) _ _ hL5
  obtain ⟨x2, M3⟩ := s
  have h : fX6_closeTransaction_L1 t0 x2 M3 = some q5 := hb
  unfold fX6_closeTransaction_L1 at h
  refine r_iload_n X 2 rfl dX6_closeTransaction_20 21 rfl ?_
  refine r_aload_n X 0 rfl dX6_closeTransaction_21 22 rfl ?_
  refine r_get (v := .ref (b + (t0 + 1))) X ht0 rfl zv_X6 zi_X6 rfl kf_X6_12 rfl rfl dX6_closeTransaction_22 25 rfl ?_
  refine r_getN (v := .ref (b + ((t0 + 1) + 8))) X (zk_6_0 ht0) rfl zv_X5 zi_X5 rfl kf_X6_281 rfl rfl dX6_closeTransaction_25 28 rfl ?_
  refine r_alen (v := 4) X (zk_5_3 (zk_6_0 ht0)) rfl (z_lt rfl (zk_5_3 (zk_6_0 ht0))) (zn_5_3 (zk_6_0 ht0)) rfl rfl rfl dX6_closeTransaction_28 29 rfl ?_
  refine r_icmp_ge X dX6_closeTransaction_29 80 (by decide) 32 rfl (fun c8 => ?_) (fun c8 => ?_)
  · have h := z_it c8 h
    refine r_sub [(0, .ref (b + t0)), (1, .int (M (t0 + 1) 4))] [0, 1] rfl ?_
    have e := hx5 _ (Option.some.inj h).symm
    cases e
    exact hK5
  · have h := z_ie c8 h
    refine r_aload_n X 0 rfl dX6_closeTransaction_32 33 rfl ?_
    refine r_get (v := .ref (b + (t0 + 1))) X ht0 rfl zv_X6 zi_X6 rfl kf_X6_12 rfl rfl dX6_closeTransaction_33 36 rfl ?_
    refine r_getN (v := .ref (b + ((t0 + 1) + 8))) X (zk_6_0 ht0) rfl zv_X5 zi_X5 rfl kf_X6_281 rfl rfl dX6_closeTransaction_36 39 rfl ?_
    refine r_iload_n X 2 rfl dX6_closeTransaction_39 40 rfl ?_
    obtain ⟨x9, e9, h⟩ := z_bd h
    have hk9 := zq_13 (zk_5_3 (zk_6_0 ht0)) e9
    refine r_aaload (C := RX1) X (zk_5_3 (zk_6_0 ht0)) rfl rfl (zn_5_3 (zk_6_0 ht0)) e9 rfl dX6_closeTransaction_40 (z_lt rfl (zk_5_3 (zk_6_0 ht0))) 41 rfl ?_
    refine r_aload_n X 0 rfl dX6_closeTransaction_41 42 rfl ?_
    refine r_get (v := .ref (b + (t0 + 1))) X ht0 rfl zv_X6 zi_X6 rfl kf_X6_12 rfl rfl dX6_closeTransaction_42 45 rfl ?_
    refine r_getN (v := .ref (b + ((t0 + 1) + 3))) X (zk_6_0 ht0) rfl zv_X5 zi_X5 rfl kf_X6_46 rfl rfl dX6_closeTransaction_45 48 rfl ?_
    refine r_aload_n X 0 rfl dX6_closeTransaction_48 49 rfl ?_
    refine r_get (v := .ref (b + (t0 + 84))) X ht0 rfl zv_X6 zi_X6 rfl kf_X6_16 rfl rfl dX6_closeTransaction_49 52 rfl ?_
    refine r_getN (v := .ref (b + ((t0 + 84) + 3))) X (zk_6_1 ht0) rfl zv_X5 zi_X5 rfl kf_X6_46 rfl rfl dX6_closeTransaction_52 55 rfl ?_
    obtain ⟨x10, M11, e11, h⟩ := z_bd2 h
    refine r_callVN (rest := []) X (tX1_record hl G b x9 hk9 ((t0 + 1) + 3) (zk_5_2 (zk_6_0 ht0)) ((t0 + 84) + 3) (zk_5_2 (zk_6_1 ht0)) M3 e11) zy_X1_record zw_X1_record km_X6_290 hk9 rfl zv_X1 rfl ⟨rfl, rfl⟩ ⟨rfl, rfl⟩ rfl rfl (Nat.le_of_ble_eq_true rfl) ⟨Nat.zero_le _, Nat.zero_le _⟩ dX6_closeTransaction_55 58 rfl [.int x10] rfl ?_
    refine r_if_eq X dX6_closeTransaction_58 74 (by decide) 61 rfl (fun c12 => ?_) (fun c12 => ?_)
    · have h := z_it c12 h
      refine r_iinc X dX6_closeTransaction_74 77 rfl [(0, .ref (b + t0)), (1, .int (M (t0 + 1) 4)), (2, .int (x2 + 1))] (by decide) 2 rfl (x2 + 1) rfl [1, 2, 0] rfl ?_
      refine r_goto X dX6_closeTransaction_77 20 (by decide) ?_
      exact hP5 ((x2 + 1), M11) (Option.some.inj h).symm
    · have h := z_ie c12 h
      refine r_aload_n X 0 rfl dX6_closeTransaction_61 62 rfl ?_
      refine r_get (v := .ref (b + (t0 + 1))) X ht0 rfl zv_X6 zi_X6 rfl kf_X6_12 rfl rfl dX6_closeTransaction_62 65 rfl ?_
      refine r_dup X rfl dX6_closeTransaction_65 66 rfl ?_
      refine r_getN (v := .int (M11 (t0 + 1) 6)) X (zk_6_0 ht0) rfl zv_X5 zi_X5 rfl kf_X6_266 rfl rfl dX6_closeTransaction_66 69 rfl ?_
      refine r_iconst (v := 1) X rfl dX6_closeTransaction_69 70 rfl ?_
      refine r_iadd X dX6_closeTransaction_70 71 rfl ?_
      obtain ⟨M13, e13, h⟩ := z_bd h
      refine r_putN X (zk_6_0 ht0) rfl zv_X5 zi_X5 rfl kf_X6_266 rfl tyX5_ok nmX5 rfl rfl rfl rfl rfl rfl (Option.some.inj e13) dX6_closeTransaction_71 74 rfl ?_
      refine r_iinc X dX6_closeTransaction_74 77 rfl [(0, .ref (b + t0)), (1, .int (M (t0 + 1) 4)), (2, .int (x2 + 1))] (by decide) 2 rfl (x2 + 1) rfl [1, 2, 0] rfl ?_
      refine r_goto X dX6_closeTransaction_77 20 (by decide) ?_
      exact hP5 ((x2 + 1), M13) (Option.some.inj h).symm
set_option maxRecDepth 100000 in
set_option maxHeartbeats 1000000 in
theorem tX6_commit {l : Launch} (hl : l.stackTraces = false) (G : zG) (b : Nat) (t0 : Nat) (ht0 : z_kd t0 = 6) (M : zM) {r9 : Int32} {M9 : zM} (h : fX6_commit t0 M = some (r9, M9)) : z_MN l yX6_commit cX6_commit 1 (some .int) { frames := 5, cells := 0, slots := 0, locals := 126 } G b [.ref (b + t0)] M (some (.int r9)) M9 := by
  refine z_met (own := RX6) hl (by decide) rfl rfl (fun Γ hΓ X R => ?_)
  subst hΓ
  show GW Γ G b 0 0 M 0 [(0, .ref (b + t0))] []
  unfold fX6_commit at h
  refine r_aload_n X 0 rfl dX6_commit_0 1 rfl ?_
  obtain ⟨x1, M2, e2, h⟩ := z_bd2 h
  refine r_callV (rest := []) X (tX6_closeTransaction hl G b t0 ht0 M e2) zy_X6_closeTransaction zw_X6_closeTransaction km_X6_105 ht0 rfl zv_X6 rfl ⟨rfl, rfl⟩ ⟨rfl, rfl⟩ rfl rfl (Nat.le_of_ble_eq_true rfl) ⟨Nat.zero_le _, Nat.zero_le _⟩ dX6_commit_1 4 rfl [.int x1] rfl ?_
  cases h
  exact r_iret X R rfl dX6_commit_4
set_option maxRecDepth 100000 in
set_option maxHeartbeats 1000000 in
theorem tX6_crash {l : Launch} (hl : l.stackTraces = false) (G : zG) (b : Nat) (t0 : Nat) (ht0 : z_kd t0 = 6) (M : zM) {r9 : Int32} {M9 : zM} (h : fX6_crash t0 M = some (r9, M9)) : z_MN l yX6_crash cX6_crash 1 (some .int) { frames := 4, cells := 0, slots := 0, locals := 104 } G b [.ref (b + t0)] M (some (.int r9)) M9 := by
  refine z_met (own := RX6) hl (by decide) rfl rfl (fun Γ hΓ X R => ?_)
  subst hΓ
  show GW Γ G b 0 0 M 0 [(0, .ref (b + t0))] []
  unfold fX6_crash at h
  refine r_aload_n X 0 rfl dX6_crash_0 1 rfl ?_
  refine r_get (v := .ref (b + (t0 + 1))) X ht0 rfl zv_X6 zi_X6 rfl kf_X6_12 rfl rfl dX6_crash_1 4 rfl ?_
  refine r_aload_n X 0 rfl dX6_crash_4 5 rfl ?_
  refine r_get (v := .ref (b + (t0 + 84))) X ht0 rfl zv_X6 zi_X6 rfl kf_X6_16 rfl rfl dX6_crash_5 8 rfl ?_
  obtain ⟨M1, e1, h⟩ := z_bd h
  refine r_callVN (rest := []) X (tX5_copyFrom hl G b (t0 + 1) (zk_6_0 ht0) (t0 + 84) (zk_6_1 ht0) M e1) zy_X5_copyFrom zw_X5_copyFrom km_X6_108 (zk_6_0 ht0) rfl zv_X5 rfl ⟨rfl, rfl⟩ ⟨rfl, rfl⟩ rfl rfl (Nat.le_of_ble_eq_true rfl) ⟨Nat.zero_le _, Nat.zero_le _⟩ dX6_crash_8 11 rfl [] rfl ?_
  refine r_aload_n X 0 rfl dX6_crash_11 12 rfl ?_
  refine r_get (v := .ref (b + (t0 + 1))) X ht0 rfl zv_X6 zi_X6 rfl kf_X6_12 rfl rfl dX6_crash_12 15 rfl ?_
  refine r_getN (v := .int (M1 (t0 + 1) 4)) X (zk_6_0 ht0) rfl zv_X5 zi_X5 rfl kf_X6_50 rfl rfl dX6_crash_15 18 rfl ?_
  cases h
  exact r_iret X R rfl dX6_crash_18
set_option maxRecDepth 100000 in
set_option maxHeartbeats 1000000 in
theorem tX6_transaction {l : Launch} (hl : l.stackTraces = false) (G : zG) (b : Nat) (t0 : Nat) (ht0 : z_kd t0 = 6) (M : zM) {r9 : Int32} (h : fX6_transaction t0 M = some r9) : z_MN l yX6_transaction cX6_transaction 1 (some .int) { frames := 0, cells := 0, slots := 0, locals := 0 } G b [.ref (b + t0)] M (some (.int r9)) M := by
  refine z_met (own := RX6) hl (by decide) rfl rfl (fun Γ hΓ X R => ?_)
  subst hΓ
  show GW Γ G b 0 0 M 0 [(0, .ref (b + t0))] []
  unfold fX6_transaction at h
  refine r_aload_n X 0 rfl dX6_transaction_0 1 rfl ?_
  refine r_get (v := .ref (b + (t0 + 1))) X ht0 rfl zv_X6 zi_X6 rfl kf_X6_12 rfl rfl dX6_transaction_1 4 rfl ?_
  refine r_getN (v := .int (M (t0 + 1) 4)) X (zk_6_0 ht0) rfl zv_X5 zi_X5 rfl kf_X6_50 rfl rfl dX6_transaction_4 7 rfl ?_
  cases h
  exact r_iret X R rfl dX6_transaction_7
set_option maxRecDepth 100000 in
set_option maxHeartbeats 1000000 in
theorem tX6_snapshot {l : Launch} (hl : l.stackTraces = false) (G : zG) (b : Nat) (t0 : Nat) (ht0 : z_kd t0 = 6) (a1 : Int32) (M : zM) {r9 : String ⊕ Int32} {M9 : zM} (h : fX6_snapshot t0 a1 M = some (r9, M9)) : z_MX l yX6_snapshot cX6_snapshot 4 (some .int) 7 126 G b [.ref (b + t0), .int a1] M (z_oi r9) M9 := by
  refine z_metx (own := RX6) hl (by decide) rfl rfl (fun Γ hΓ X R => ?_)
  subst hΓ
  show GW Γ G b 0 0 M 0 [(0, .ref (b + t0)), (1, .int a1)] []
  unfold fX6_snapshot at h
  refine r_aload_n X 0 rfl dX6_snapshot_0 1 rfl ?_
  refine r_iload_n X 1 rfl dX6_snapshot_1 2 rfl ?_
  obtain ⟨o1, e1, h⟩ := z_bd h
  cases o1 with
  | inl E9 =>
    have h := z_oxl h
    cases h
    exact r_xthrV (rest := []) X R (tX6_datasetOrThrow hl G b t0 ht0 a1 M (r9 := .inl E9) e1) zy_X6_datasetOrThrow zw_X6_datasetOrThrow km_X6_26 ht0 rfl zv_X6 rfl ⟨rfl, rfl⟩ rfl rfl (Nat.le_of_ble_eq_true rfl) dX6_snapshot_2
  | inr x2 =>
    have h := z_oxr h
    obtain ⟨hk2, h⟩ := z_gd_of h
    refine r_callV (rest := []) X (z_MX_ret (tX6_datasetOrThrow hl G b t0 ht0 a1 M (r9 := .inr x2) e1)) zy_X6_datasetOrThrow zw_X6_datasetOrThrow km_X6_26 ht0 rfl zv_X6 rfl ⟨rfl, rfl⟩ ⟨rfl, rfl⟩ rfl rfl (Nat.le_of_ble_eq_true rfl) ⟨Nat.zero_le _, Nat.zero_le _⟩ dX6_snapshot_2 5 rfl [.ref (b + x2)] rfl ?_
    refine r_astore_n X dX6_snapshot_5 6 rfl [(0, .ref (b + t0)), (1, .int a1), (2, .ref (b + x2))] (by decide) [1, 2, 0] rfl ?_
    refine r_aload_n X 0 rfl dX6_snapshot_6 7 rfl ?_
    refine r_get (v := .ref (b + (t0 + 1))) X ht0 rfl zv_X6 zi_X6 rfl kf_X6_12 rfl rfl dX6_snapshot_7 10 rfl ?_
    obtain ⟨o3, e3, h⟩ := z_bd h
    cases o3 with
    | none =>
      have h := z_ocn h
      refine r_callVN (rest := []) X (tX5_unusedSnapshot hl G b (t0 + 1) (zk_6_0 ht0) M (r9 := none) e3) zy_X5_unusedSnapshot zw_X5_unusedSnapshot km_X6_112 (zk_6_0 ht0) rfl zv_X5 rfl ⟨rfl, rfl⟩ ⟨rfl, rfl⟩ rfl rfl (Nat.le_of_ble_eq_true rfl) ⟨Nat.zero_le _, Nat.zero_le _⟩ dX6_snapshot_10 13 rfl [.null] rfl ?_
      refine r_astore_nN X dX6_snapshot_13 14 rfl [(0, .ref (b + t0)), (1, .int a1), (2, .ref (b + x2)), (3, .null)] (by decide) [1, 2, 3, 0] rfl ?_
      refine r_aload_nN X 3 rfl dX6_snapshot_14 15 rfl ?_
      refine r_ifnonnull_n X dX6_snapshot_15 18 rfl ?_
      cases h
      exact r_throw X R ze_is (List.mem_of_getElem? (i := 3) rfl) rfl rfl dX6_snapshot_18 dX6_snapshot_21 dX6_snapshot_22 dX6_snapshot_24 dX6_snapshot_27
    | some x4 =>
      have h := z_ocs h
      obtain ⟨hk4, h⟩ := z_gd_of h
      refine r_callVN (rest := []) X (tX5_unusedSnapshot hl G b (t0 + 1) (zk_6_0 ht0) M (r9 := some x4) e3) zy_X5_unusedSnapshot zw_X5_unusedSnapshot km_X6_112 (zk_6_0 ht0) rfl zv_X5 rfl ⟨rfl, rfl⟩ ⟨rfl, rfl⟩ rfl rfl (Nat.le_of_ble_eq_true rfl) ⟨Nat.zero_le _, Nat.zero_le _⟩ dX6_snapshot_10 13 rfl [.ref (b + x4)] rfl ?_
      refine r_astore_n X dX6_snapshot_13 14 rfl [(0, .ref (b + t0)), (1, .int a1), (2, .ref (b + x2)), (3, .ref (b + x4))] (by decide) [1, 2, 3, 0] rfl ?_
      refine r_aload_n X 3 rfl dX6_snapshot_14 15 rfl ?_
      refine r_ifnonnull_r X dX6_snapshot_15 28 (by decide) ?_
      refine r_aload_n X 0 rfl dX6_snapshot_28 29 rfl ?_
      refine r_get (v := .ref (b + (t0 + 1))) X ht0 rfl zv_X6 zi_X6 rfl kf_X6_12 rfl rfl dX6_snapshot_29 32 rfl ?_
      refine r_aload_n X 3 rfl dX6_snapshot_32 33 rfl ?_
      refine r_aload_n X 2 rfl dX6_snapshot_33 34 rfl ?_
      refine r_iload_n X 1 rfl dX6_snapshot_34 35 rfl ?_
      obtain ⟨M5, e5, h⟩ := z_bd h
      refine r_callVN (rest := []) X (tX5_take hl G b (t0 + 1) (zk_6_0 ht0) x4 hk4 x2 hk2 a1 M e5) zy_X5_take zw_X5_take km_X6_118 (zk_6_0 ht0) rfl zv_X5 rfl ⟨rfl, rfl⟩ ⟨rfl, rfl⟩ rfl rfl (Nat.le_of_ble_eq_true rfl) ⟨Nat.zero_le _, Nat.zero_le _⟩ dX6_snapshot_35 38 rfl [] rfl ?_
      refine r_aload_n X 0 rfl dX6_snapshot_38 39 rfl ?_
      obtain ⟨x6, M7, e7, h⟩ := z_bd2 h
      refine r_callV (rest := []) X (tX6_closeTransaction hl G b t0 ht0 M5 e7) zy_X6_closeTransaction zw_X6_closeTransaction km_X6_105 ht0 rfl zv_X6 rfl ⟨rfl, rfl⟩ ⟨rfl, rfl⟩ rfl rfl (Nat.le_of_ble_eq_true rfl) ⟨Nat.zero_le _, Nat.zero_le _⟩ dX6_snapshot_39 42 rfl [.int x6] rfl ?_
      refine r_pop X rfl dX6_snapshot_42 43 rfl ?_
      refine r_aload_n X 3 rfl dX6_snapshot_43 44 rfl ?_
      refine r_getN (v := .int (M7 x4 2)) X hk4 rfl zv_X2 zi_X2 rfl kf_X6_121 rfl rfl dX6_snapshot_44 47 rfl ?_
      cases h
      exact r_xiret X R rfl dX6_snapshot_47
set_option maxRecDepth 100000 in
set_option maxHeartbeats 1000000 in
theorem tX6_snapshotOrThrow {l : Launch} (hl : l.stackTraces = false) (G : zG) (b : Nat) (t0 : Nat) (ht0 : z_kd t0 = 6) (a1 : Int32) (M : zM) {r9 : String ⊕ Nat} (h : fX6_snapshotOrThrow t0 a1 M = some r9) : z_MX l yX6_snapshotOrThrow cX6_snapshotOrThrow 3 (some (.object "Cowmeadow$Snapshot")) 6 90 G b [.ref (b + t0), .int a1] M (z_or b r9) M := by
  refine z_metx (own := RX6) hl (by decide) rfl rfl (fun Γ hΓ X R => ?_)
  subst hΓ
  show GW Γ G b 0 0 M 0 [(0, .ref (b + t0)), (1, .int a1)] []
  unfold fX6_snapshotOrThrow at h
  refine r_aload_n X 0 rfl dX6_snapshotOrThrow_0 1 rfl ?_
  refine r_get (v := .ref (b + (t0 + 1))) X ht0 rfl zv_X6 zi_X6 rfl kf_X6_12 rfl rfl dX6_snapshotOrThrow_1 4 rfl ?_
  refine r_iload_n X 1 rfl dX6_snapshotOrThrow_4 5 rfl ?_
  obtain ⟨o1, e1, h⟩ := z_bd h
  cases o1 with
  | none =>
    have h := z_ocn h
    refine r_callVN (rest := []) X (tX5_findSnapshot hl G b (t0 + 1) (zk_6_0 ht0) a1 M (r9 := none) e1) zy_X5_findSnapshot zw_X5_findSnapshot km_X6_188 (zk_6_0 ht0) rfl zv_X5 rfl ⟨rfl, rfl⟩ ⟨rfl, rfl⟩ rfl rfl (Nat.le_of_ble_eq_true rfl) ⟨Nat.zero_le _, Nat.zero_le _⟩ dX6_snapshotOrThrow_5 8 rfl [.null] rfl ?_
    refine r_astore_nN X dX6_snapshotOrThrow_8 9 rfl [(2, .null)] (by decide) [0] rfl ?_
    refine r_aload_nN X 0 rfl dX6_snapshotOrThrow_9 10 rfl ?_
    refine r_ifnonnull_n X dX6_snapshotOrThrow_10 13 rfl ?_
    cases h
    exact r_throww X R ze_io (List.mem_of_getElem? (i := 14) rfl) rfl rfl dX6_snapshotOrThrow_13 dX6_snapshotOrThrow_16 dX6_snapshotOrThrow_17 dX6_snapshotOrThrow_20 dX6_snapshotOrThrow_23
  | some x2 =>
    have h := z_ocs h
    obtain ⟨hk2, h⟩ := z_gd_of h
    refine r_callVN (rest := []) X (tX5_findSnapshot hl G b (t0 + 1) (zk_6_0 ht0) a1 M (r9 := some x2) e1) zy_X5_findSnapshot zw_X5_findSnapshot km_X6_188 (zk_6_0 ht0) rfl zv_X5 rfl ⟨rfl, rfl⟩ ⟨rfl, rfl⟩ rfl rfl (Nat.le_of_ble_eq_true rfl) ⟨Nat.zero_le _, Nat.zero_le _⟩ dX6_snapshotOrThrow_5 8 rfl [.ref (b + x2)] rfl ?_
    refine r_astore_n X dX6_snapshotOrThrow_8 9 rfl [(2, .ref (b + x2))] (by decide) [0] rfl ?_
    refine r_aload_n X 0 rfl dX6_snapshotOrThrow_9 10 rfl ?_
    refine r_ifnonnull_r X dX6_snapshotOrThrow_10 24 (by decide) ?_
    refine r_aload_n X 0 rfl dX6_snapshotOrThrow_24 25 rfl ?_
    cases h
    exact r_xaret X R (Or.inr ⟨_, rfl⟩) dX6_snapshotOrThrow_25
set_option maxRecDepth 100000 in
set_option maxHeartbeats 1000000 in
theorem tX6_readSnapshot {l : Launch} (hl : l.stackTraces = false) (G : zG) (b : Nat) (t0 : Nat) (ht0 : z_kd t0 = 6) (a1 : Int32) (a2 : Int32) (a3 : Int32) (M : zM) {r9 : String ⊕ Int32} (h : fX6_readSnapshot t0 a1 a2 a3 M = some r9) : z_MX l yX6_readSnapshot cX6_readSnapshot 4 (some .int) 7 112 G b [.ref (b + t0), .int a1, .int a2, .int a3] M (z_oi r9) M := by
  refine z_metx (own := RX6) hl (by decide) rfl rfl (fun Γ hΓ X R => ?_)
  subst hΓ
  show GW Γ G b 0 0 M 0 [(0, .ref (b + t0)), (1, .int a1), (2, .int a2), (3, .int a3)] []
  unfold fX6_readSnapshot at h
  refine r_aload_n X 0 rfl dX6_readSnapshot_0 1 rfl ?_
  refine r_get (v := .ref (b + (t0 + 1))) X ht0 rfl zv_X6 zi_X6 rfl kf_X6_12 rfl rfl dX6_readSnapshot_1 4 rfl ?_
  refine r_getN (v := .ref (b + ((t0 + 1) + 3))) X (zk_6_0 ht0) rfl zv_X5 zi_X5 rfl kf_X6_46 rfl rfl dX6_readSnapshot_4 7 rfl ?_
  refine r_aload_n X 0 rfl dX6_readSnapshot_7 8 rfl ?_
  refine r_iload_n X 1 rfl dX6_readSnapshot_8 9 rfl ?_
  obtain ⟨o1, e1, h⟩ := z_bd h
  cases o1 with
  | inl E9 =>
    have h := z_oxl h
    cases h
    exact r_xthrV (rest := [.ref (b + ((t0 + 1) + 3))]) X R (tX6_snapshotOrThrow hl G b t0 ht0 a1 M (r9 := .inl E9) e1) zy_X6_snapshotOrThrow zw_X6_snapshotOrThrow km_X6_124 ht0 rfl zv_X6 rfl ⟨rfl, rfl⟩ rfl rfl (Nat.le_of_ble_eq_true rfl) dX6_readSnapshot_9
  | inr x2 =>
    have h := z_oxr h
    obtain ⟨hk2, h⟩ := z_gd_of h
    refine r_callV (rest := [.ref (b + ((t0 + 1) + 3))]) X (z_MX_ret (tX6_snapshotOrThrow hl G b t0 ht0 a1 M (r9 := .inr x2) e1)) zy_X6_snapshotOrThrow zw_X6_snapshotOrThrow km_X6_124 ht0 rfl zv_X6 rfl ⟨rfl, rfl⟩ ⟨rfl, rfl⟩ rfl rfl (Nat.le_of_ble_eq_true rfl) ⟨Nat.zero_le _, Nat.zero_le _⟩ dX6_readSnapshot_9 12 rfl [.ref (b + x2), .ref (b + ((t0 + 1) + 3))] rfl ?_
    refine r_getN (v := .ref (b + (x2 + 1))) X hk2 rfl zv_X2 zi_X2 rfl kf_X6_128 rfl rfl dX6_readSnapshot_12 15 rfl ?_
    refine r_iload_n X 2 rfl dX6_readSnapshot_15 16 rfl ?_
    refine r_iload_n X 3 rfl dX6_readSnapshot_16 17 rfl ?_
    obtain ⟨o3, e3, h⟩ := z_bd h
    cases o3 with
    | inl E9 =>
      have h := z_oxl h
      cases h
      exact r_xthrS (rest := [.ref (b + (x2 + 1)), .ref (b + ((t0 + 1) + 3))]) X R (tX6_placeOrThrow hl G b a2 a3 M (r9 := .inl E9) e3) zy_X6_placeOrThrow zs_X6_placeOrThrow km_X6_36 rfl ⟨rfl, rfl⟩ rfl rfl (Nat.le_of_ble_eq_true rfl) dX6_readSnapshot_17
    | inr x4 =>
      have h := z_oxr h
      refine r_callS (rest := [.ref (b + (x2 + 1)), .ref (b + ((t0 + 1) + 3))]) X (z_MX_ret (tX6_placeOrThrow hl G b a2 a3 M (r9 := .inr x4) e3)) zy_X6_placeOrThrow zs_X6_placeOrThrow km_X6_36 rfl ⟨rfl, rfl⟩ ⟨rfl, rfl⟩ rfl rfl (Nat.le_of_ble_eq_true rfl) ⟨Nat.zero_le _, Nat.zero_le _⟩ dX6_readSnapshot_17 20 rfl [.int x4, .ref (b + (x2 + 1)), .ref (b + ((t0 + 1) + 3))] rfl ?_
      obtain ⟨x5, e5, h⟩ := z_bd h
      refine r_callVN (rest := [.ref (b + ((t0 + 1) + 3))]) X (tX4_blockOf hl G b (x2 + 1) (zk_2_0 hk2) x4 M e5) zy_X4_blockOf zw_X4_blockOf km_X6_40 (zk_2_0 hk2) rfl zv_X4 rfl ⟨rfl, rfl⟩ ⟨rfl, rfl⟩ rfl rfl (Nat.le_of_ble_eq_true rfl) ⟨Nat.zero_le _, Nat.zero_le _⟩ dX6_readSnapshot_20 23 rfl [.int x5, .ref (b + ((t0 + 1) + 3))] rfl ?_
      obtain ⟨x6, e6, h⟩ := z_bd h
      refine r_callVN (rest := []) X (tX3_valueOf hl G b ((t0 + 1) + 3) (zk_5_2 (zk_6_0 ht0)) x5 M e6) zy_X3_valueOf zw_X3_valueOf km_X6_89 (zk_5_2 (zk_6_0 ht0)) rfl zv_X3 rfl ⟨rfl, rfl⟩ ⟨rfl, rfl⟩ rfl rfl (Nat.le_of_ble_eq_true rfl) ⟨Nat.zero_le _, Nat.zero_le _⟩ dX6_readSnapshot_23 26 rfl [.int x6] rfl ?_
      cases h
      exact r_xiret X R rfl dX6_readSnapshot_26
set_option maxRecDepth 100000 in
set_option maxHeartbeats 1000000 in
theorem tX6_blockInSnapshot {l : Launch} (hl : l.stackTraces = false) (G : zG) (b : Nat) (t0 : Nat) (ht0 : z_kd t0 = 6) (a1 : Int32) (a2 : Int32) (a3 : Int32) (M : zM) {r9 : String ⊕ Int32} (h : fX6_blockInSnapshot t0 a1 a2 a3 M = some r9) : z_MX l yX6_blockInSnapshot cX6_blockInSnapshot 4 (some .int) 7 112 G b [.ref (b + t0), .int a1, .int a2, .int a3] M (z_oi r9) M := by
  refine z_metx (own := RX6) hl (by decide) rfl rfl (fun Γ hΓ X R => ?_)
  subst hΓ
  show GW Γ G b 0 0 M 0 [(0, .ref (b + t0)), (1, .int a1), (2, .int a2), (3, .int a3)] []
  unfold fX6_blockInSnapshot at h
  refine r_aload_n X 0 rfl dX6_blockInSnapshot_0 1 rfl ?_
  refine r_iload_n X 1 rfl dX6_blockInSnapshot_1 2 rfl ?_
  obtain ⟨o1, e1, h⟩ := z_bd h
  cases o1 with
  | inl E9 =>
    have h := z_oxl h
    cases h
    exact r_xthrV (rest := []) X R (tX6_snapshotOrThrow hl G b t0 ht0 a1 M (r9 := .inl E9) e1) zy_X6_snapshotOrThrow zw_X6_snapshotOrThrow km_X6_124 ht0 rfl zv_X6 rfl ⟨rfl, rfl⟩ rfl rfl (Nat.le_of_ble_eq_true rfl) dX6_blockInSnapshot_2
  | inr x2 =>
    have h := z_oxr h
    obtain ⟨hk2, h⟩ := z_gd_of h
    refine r_callV (rest := []) X (z_MX_ret (tX6_snapshotOrThrow hl G b t0 ht0 a1 M (r9 := .inr x2) e1)) zy_X6_snapshotOrThrow zw_X6_snapshotOrThrow km_X6_124 ht0 rfl zv_X6 rfl ⟨rfl, rfl⟩ ⟨rfl, rfl⟩ rfl rfl (Nat.le_of_ble_eq_true rfl) ⟨Nat.zero_le _, Nat.zero_le _⟩ dX6_blockInSnapshot_2 5 rfl [.ref (b + x2)] rfl ?_
    refine r_getN (v := .ref (b + (x2 + 1))) X hk2 rfl zv_X2 zi_X2 rfl kf_X6_128 rfl rfl dX6_blockInSnapshot_5 8 rfl ?_
    refine r_iload_n X 2 rfl dX6_blockInSnapshot_8 9 rfl ?_
    refine r_iload_n X 3 rfl dX6_blockInSnapshot_9 10 rfl ?_
    obtain ⟨o3, e3, h⟩ := z_bd h
    cases o3 with
    | inl E9 =>
      have h := z_oxl h
      cases h
      exact r_xthrS (rest := [.ref (b + (x2 + 1))]) X R (tX6_placeOrThrow hl G b a2 a3 M (r9 := .inl E9) e3) zy_X6_placeOrThrow zs_X6_placeOrThrow km_X6_36 rfl ⟨rfl, rfl⟩ rfl rfl (Nat.le_of_ble_eq_true rfl) dX6_blockInSnapshot_10
    | inr x4 =>
      have h := z_oxr h
      refine r_callS (rest := [.ref (b + (x2 + 1))]) X (z_MX_ret (tX6_placeOrThrow hl G b a2 a3 M (r9 := .inr x4) e3)) zy_X6_placeOrThrow zs_X6_placeOrThrow km_X6_36 rfl ⟨rfl, rfl⟩ ⟨rfl, rfl⟩ rfl rfl (Nat.le_of_ble_eq_true rfl) ⟨Nat.zero_le _, Nat.zero_le _⟩ dX6_blockInSnapshot_10 13 rfl [.int x4, .ref (b + (x2 + 1))] rfl ?_
      obtain ⟨x5, e5, h⟩ := z_bd h
      refine r_callVN (rest := []) X (tX4_blockOf hl G b (x2 + 1) (zk_2_0 hk2) x4 M e5) zy_X4_blockOf zw_X4_blockOf km_X6_40 (zk_2_0 hk2) rfl zv_X4 rfl ⟨rfl, rfl⟩ ⟨rfl, rfl⟩ rfl rfl (Nat.le_of_ble_eq_true rfl) ⟨Nat.zero_le _, Nat.zero_le _⟩ dX6_blockInSnapshot_13 16 rfl [.int x5] rfl ?_
      cases h
      exact r_xiret X R rfl dX6_blockInSnapshot_16
set_option maxRecDepth 100000 in
set_option maxHeartbeats 1000000 in
theorem tX6_transactionOf {l : Launch} (hl : l.stackTraces = false) (G : zG) (b : Nat) (t0 : Nat) (ht0 : z_kd t0 = 6) (a1 : Int32) (M : zM) {r9 : String ⊕ Int32} (h : fX6_transactionOf t0 a1 M = some r9) : z_MX l yX6_transactionOf cX6_transactionOf 2 (some .int) 7 112 G b [.ref (b + t0), .int a1] M (z_oi r9) M := by
  refine z_metx (own := RX6) hl (by decide) rfl rfl (fun Γ hΓ X R => ?_)
  subst hΓ
  show GW Γ G b 0 0 M 0 [(0, .ref (b + t0)), (1, .int a1)] []
  unfold fX6_transactionOf at h
  refine r_aload_n X 0 rfl dX6_transactionOf_0 1 rfl ?_
  refine r_iload_n X 1 rfl dX6_transactionOf_1 2 rfl ?_
  obtain ⟨o1, e1, h⟩ := z_bd h
  cases o1 with
  | inl E9 =>
    have h := z_oxl h
    cases h
    exact r_xthrV (rest := []) X R (tX6_snapshotOrThrow hl G b t0 ht0 a1 M (r9 := .inl E9) e1) zy_X6_snapshotOrThrow zw_X6_snapshotOrThrow km_X6_124 ht0 rfl zv_X6 rfl ⟨rfl, rfl⟩ rfl rfl (Nat.le_of_ble_eq_true rfl) dX6_transactionOf_2
  | inr x2 =>
    have h := z_oxr h
    obtain ⟨hk2, h⟩ := z_gd_of h
    refine r_callV (rest := []) X (z_MX_ret (tX6_snapshotOrThrow hl G b t0 ht0 a1 M (r9 := .inr x2) e1)) zy_X6_snapshotOrThrow zw_X6_snapshotOrThrow km_X6_124 ht0 rfl zv_X6 rfl ⟨rfl, rfl⟩ ⟨rfl, rfl⟩ rfl rfl (Nat.le_of_ble_eq_true rfl) ⟨Nat.zero_le _, Nat.zero_le _⟩ dX6_transactionOf_2 5 rfl [.ref (b + x2)] rfl ?_
    refine r_getN (v := .int (M x2 5)) X hk2 rfl zv_X2 zi_X2 rfl kf_X6_129 rfl rfl dX6_transactionOf_5 8 rfl ?_
    cases h
    exact r_xiret X R rfl dX6_transactionOf_8
set_option maxRecDepth 100000 in
set_option maxHeartbeats 1000000 in
theorem tX6_datasetOf {l : Launch} (hl : l.stackTraces = false) (G : zG) (b : Nat) (t0 : Nat) (ht0 : z_kd t0 = 6) (a1 : Int32) (M : zM) {r9 : String ⊕ Int32} (h : fX6_datasetOf t0 a1 M = some r9) : z_MX l yX6_datasetOf cX6_datasetOf 2 (some .int) 7 112 G b [.ref (b + t0), .int a1] M (z_oi r9) M := by
  refine z_metx (own := RX6) hl (by decide) rfl rfl (fun Γ hΓ X R => ?_)
  subst hΓ
  show GW Γ G b 0 0 M 0 [(0, .ref (b + t0)), (1, .int a1)] []
  unfold fX6_datasetOf at h
  refine r_aload_n X 0 rfl dX6_datasetOf_0 1 rfl ?_
  refine r_iload_n X 1 rfl dX6_datasetOf_1 2 rfl ?_
  obtain ⟨o1, e1, h⟩ := z_bd h
  cases o1 with
  | inl E9 =>
    have h := z_oxl h
    cases h
    exact r_xthrV (rest := []) X R (tX6_snapshotOrThrow hl G b t0 ht0 a1 M (r9 := .inl E9) e1) zy_X6_snapshotOrThrow zw_X6_snapshotOrThrow km_X6_124 ht0 rfl zv_X6 rfl ⟨rfl, rfl⟩ rfl rfl (Nat.le_of_ble_eq_true rfl) dX6_datasetOf_2
  | inr x2 =>
    have h := z_oxr h
    obtain ⟨hk2, h⟩ := z_gd_of h
    refine r_callV (rest := []) X (z_MX_ret (tX6_snapshotOrThrow hl G b t0 ht0 a1 M (r9 := .inr x2) e1)) zy_X6_snapshotOrThrow zw_X6_snapshotOrThrow km_X6_124 ht0 rfl zv_X6 rfl ⟨rfl, rfl⟩ ⟨rfl, rfl⟩ rfl rfl (Nat.le_of_ble_eq_true rfl) ⟨Nat.zero_le _, Nat.zero_le _⟩ dX6_datasetOf_2 5 rfl [.ref (b + x2)] rfl ?_
    refine r_getN (v := .int (M x2 3)) X hk2 rfl zv_X2 zi_X2 rfl kf_X6_132 rfl rfl dX6_datasetOf_5 8 rfl ?_
    cases h
    exact r_xiret X R rfl dX6_datasetOf_8
set_option maxRecDepth 100000 in
set_option maxHeartbeats 1000000 in
theorem tX6_snapshots {l : Launch} (hl : l.stackTraces = false) (G : zG) (b : Nat) (t0 : Nat) (ht0 : z_kd t0 = 6) (a1 : Int32) (M : zM) {r9 : String ⊕ Int32} (h : fX6_snapshots t0 a1 M = some r9) : z_MX l yX6_snapshots cX6_snapshots 2 (some .int) 7 112 G b [.ref (b + t0), .int a1] M (z_oi r9) M := by
  refine z_metx (own := RX6) hl (by decide) rfl rfl (fun Γ hΓ X R => ?_)
  subst hΓ
  show GW Γ G b 0 0 M 0 [(0, .ref (b + t0)), (1, .int a1)] []
  unfold fX6_snapshots at h
  refine r_aload_n X 0 rfl dX6_snapshots_0 1 rfl ?_
  refine r_iload_n X 1 rfl dX6_snapshots_1 2 rfl ?_
  obtain ⟨o1, e1, h⟩ := z_bd h
  cases o1 with
  | inl E9 =>
    have h := z_oxl h
    cases h
    exact r_xthrV (rest := []) X R (tX6_datasetOrThrow hl G b t0 ht0 a1 M (r9 := .inl E9) e1) zy_X6_datasetOrThrow zw_X6_datasetOrThrow km_X6_26 ht0 rfl zv_X6 rfl ⟨rfl, rfl⟩ rfl rfl (Nat.le_of_ble_eq_true rfl) dX6_snapshots_2
  | inr x2 =>
    have h := z_oxr h
    obtain ⟨hk2, h⟩ := z_gd_of h
    refine r_callV (rest := []) X (z_MX_ret (tX6_datasetOrThrow hl G b t0 ht0 a1 M (r9 := .inr x2) e1)) zy_X6_datasetOrThrow zw_X6_datasetOrThrow km_X6_26 ht0 rfl zv_X6 rfl ⟨rfl, rfl⟩ ⟨rfl, rfl⟩ rfl rfl (Nat.le_of_ble_eq_true rfl) ⟨Nat.zero_le _, Nat.zero_le _⟩ dX6_snapshots_2 5 rfl [.ref (b + x2)] rfl ?_
    refine r_pop X rfl dX6_snapshots_5 6 rfl ?_
    refine r_aload_n X 0 rfl dX6_snapshots_6 7 rfl ?_
    refine r_get (v := .ref (b + (t0 + 1))) X ht0 rfl zv_X6 zi_X6 rfl kf_X6_12 rfl rfl dX6_snapshots_7 10 rfl ?_
    refine r_iload_n X 1 rfl dX6_snapshots_10 11 rfl ?_
    obtain ⟨x3, e3, h⟩ := z_bd h
    refine r_callVN (rest := []) X (tX5_snapshotsOf hl G b (t0 + 1) (zk_6_0 ht0) a1 M e3) zy_X5_snapshotsOf zw_X5_snapshotsOf km_X6_135 (zk_6_0 ht0) rfl zv_X5 rfl ⟨rfl, rfl⟩ ⟨rfl, rfl⟩ rfl rfl (Nat.le_of_ble_eq_true rfl) ⟨Nat.zero_le _, Nat.zero_le _⟩ dX6_snapshots_11 14 rfl [.int x3] rfl ?_
    cases h
    exact r_xiret X R rfl dX6_snapshots_14
set_option maxRecDepth 100000 in
set_option maxHeartbeats 1000000 in
theorem tX6_snapshotAt {l : Launch} (hl : l.stackTraces = false) (G : zG) (b : Nat) (t0 : Nat) (ht0 : z_kd t0 = 6) (a1 : Int32) (a2 : Int32) (M : zM) {r9 : String ⊕ Int32} (h : fX6_snapshotAt t0 a1 a2 M = some r9) : z_MX l yX6_snapshotAt cX6_snapshotAt 4 (some .int) 7 112 G b [.ref (b + t0), .int a1, .int a2] M (z_oi r9) M := by
  refine z_metx (own := RX6) hl (by decide) rfl rfl (fun Γ hΓ X R => ?_)
  subst hΓ
  show GW Γ G b 0 0 M 0 [(0, .ref (b + t0)), (1, .int a1), (2, .int a2)] []
  unfold fX6_snapshotAt at h
  refine r_aload_n X 0 rfl dX6_snapshotAt_0 1 rfl ?_
  refine r_iload_n X 1 rfl dX6_snapshotAt_1 2 rfl ?_
  obtain ⟨o1, e1, h⟩ := z_bd h
  cases o1 with
  | inl E9 =>
    have h := z_oxl h
    cases h
    exact r_xthrV (rest := []) X R (tX6_datasetOrThrow hl G b t0 ht0 a1 M (r9 := .inl E9) e1) zy_X6_datasetOrThrow zw_X6_datasetOrThrow km_X6_26 ht0 rfl zv_X6 rfl ⟨rfl, rfl⟩ rfl rfl (Nat.le_of_ble_eq_true rfl) dX6_snapshotAt_2
  | inr x2 =>
    have h := z_oxr h
    obtain ⟨hk2, h⟩ := z_gd_of h
    refine r_callV (rest := []) X (z_MX_ret (tX6_datasetOrThrow hl G b t0 ht0 a1 M (r9 := .inr x2) e1)) zy_X6_datasetOrThrow zw_X6_datasetOrThrow km_X6_26 ht0 rfl zv_X6 rfl ⟨rfl, rfl⟩ ⟨rfl, rfl⟩ rfl rfl (Nat.le_of_ble_eq_true rfl) ⟨Nat.zero_le _, Nat.zero_le _⟩ dX6_snapshotAt_2 5 rfl [.ref (b + x2)] rfl ?_
    refine r_pop X rfl dX6_snapshotAt_5 6 rfl ?_
    refine r_aload_n X 0 rfl dX6_snapshotAt_6 7 rfl ?_
    refine r_get (v := .ref (b + (t0 + 1))) X ht0 rfl zv_X6 zi_X6 rfl kf_X6_12 rfl rfl dX6_snapshotAt_7 10 rfl ?_
    refine r_iload_n X 1 rfl dX6_snapshotAt_10 11 rfl ?_
    refine r_iload_n X 2 rfl dX6_snapshotAt_11 12 rfl ?_
    obtain ⟨o3, e3, h⟩ := z_bd h
    cases o3 with
    | none =>
      have h := z_ocn h
      refine r_callVN (rest := []) X (tX5_snapshotOfRank hl G b (t0 + 1) (zk_6_0 ht0) a1 a2 M (r9 := none) e3) zy_X5_snapshotOfRank zw_X5_snapshotOfRank km_X6_138 (zk_6_0 ht0) rfl zv_X5 rfl ⟨rfl, rfl⟩ ⟨rfl, rfl⟩ rfl rfl (Nat.le_of_ble_eq_true rfl) ⟨Nat.zero_le _, Nat.zero_le _⟩ dX6_snapshotAt_12 15 rfl [.null] rfl ?_
      refine r_astore_nN X dX6_snapshotAt_15 16 rfl [(3, .null)] (by decide) [0] rfl ?_
      refine r_aload_nN X 0 rfl dX6_snapshotAt_16 17 rfl ?_
      refine r_ifnonnull_n X dX6_snapshotAt_17 20 rfl ?_
      cases h
      exact r_throw X R ze_io (List.mem_of_getElem? (i := 4) rfl) rfl rfl dX6_snapshotAt_20 dX6_snapshotAt_23 dX6_snapshotAt_24 dX6_snapshotAt_26 dX6_snapshotAt_29
    | some x4 =>
      have h := z_ocs h
      obtain ⟨hk4, h⟩ := z_gd_of h
      refine r_callVN (rest := []) X (tX5_snapshotOfRank hl G b (t0 + 1) (zk_6_0 ht0) a1 a2 M (r9 := some x4) e3) zy_X5_snapshotOfRank zw_X5_snapshotOfRank km_X6_138 (zk_6_0 ht0) rfl zv_X5 rfl ⟨rfl, rfl⟩ ⟨rfl, rfl⟩ rfl rfl (Nat.le_of_ble_eq_true rfl) ⟨Nat.zero_le _, Nat.zero_le _⟩ dX6_snapshotAt_12 15 rfl [.ref (b + x4)] rfl ?_
      refine r_astore_n X dX6_snapshotAt_15 16 rfl [(3, .ref (b + x4))] (by decide) [0] rfl ?_
      refine r_aload_n X 0 rfl dX6_snapshotAt_16 17 rfl ?_
      refine r_ifnonnull_r X dX6_snapshotAt_17 30 (by decide) ?_
      refine r_aload_n X 0 rfl dX6_snapshotAt_30 31 rfl ?_
      refine r_getN (v := .int (M x4 2)) X hk4 rfl zv_X2 zi_X2 rfl kf_X6_121 rfl rfl dX6_snapshotAt_31 34 rfl ?_
      cases h
      exact r_xiret X R rfl dX6_snapshotAt_34
set_option maxRecDepth 100000 in
set_option maxHeartbeats 1000000 in
theorem tX6_destroySnapshot {l : Launch} (hl : l.stackTraces = false) (G : zG) (b : Nat) (t0 : Nat) (ht0 : z_kd t0 = 6) (a1 : Int32) (M : zM) {r9 : String ⊕ Int32} {M9 : zM} (h : fX6_destroySnapshot t0 a1 M = some (r9, M9)) : z_MX l yX6_destroySnapshot cX6_destroySnapshot 3 (some .int) 7 112 G b [.ref (b + t0), .int a1] M (z_oi r9) M9 := by
  refine z_metx (own := RX6) hl (by decide) rfl rfl (fun Γ hΓ X R => ?_)
  subst hΓ
  show GW Γ G b 0 0 M 0 [(0, .ref (b + t0)), (1, .int a1)] []
  unfold fX6_destroySnapshot at h
  refine r_aload_n X 0 rfl dX6_destroySnapshot_0 1 rfl ?_
  refine r_iload_n X 1 rfl dX6_destroySnapshot_1 2 rfl ?_
  obtain ⟨o1, e1, h⟩ := z_bd h
  cases o1 with
  | inl E9 =>
    have h := z_oxl h
    cases h
    exact r_xthrV (rest := []) X R (tX6_snapshotOrThrow hl G b t0 ht0 a1 M (r9 := .inl E9) e1) zy_X6_snapshotOrThrow zw_X6_snapshotOrThrow km_X6_124 ht0 rfl zv_X6 rfl ⟨rfl, rfl⟩ rfl rfl (Nat.le_of_ble_eq_true rfl) dX6_destroySnapshot_2
  | inr x2 =>
    have h := z_oxr h
    obtain ⟨hk2, h⟩ := z_gd_of h
    refine r_callV (rest := []) X (z_MX_ret (tX6_snapshotOrThrow hl G b t0 ht0 a1 M (r9 := .inr x2) e1)) zy_X6_snapshotOrThrow zw_X6_snapshotOrThrow km_X6_124 ht0 rfl zv_X6 rfl ⟨rfl, rfl⟩ ⟨rfl, rfl⟩ rfl rfl (Nat.le_of_ble_eq_true rfl) ⟨Nat.zero_le _, Nat.zero_le _⟩ dX6_destroySnapshot_2 5 rfl [.ref (b + x2)] rfl ?_
    refine r_astore_n X dX6_destroySnapshot_5 6 rfl [(0, .ref (b + t0)), (1, .int a1), (2, .ref (b + x2))] (by decide) [1, 2, 0] rfl ?_
    refine r_aload_n X 0 rfl dX6_destroySnapshot_6 7 rfl ?_
    refine r_get (v := .ref (b + (t0 + 1))) X ht0 rfl zv_X6 zi_X6 rfl kf_X6_12 rfl rfl dX6_destroySnapshot_7 10 rfl ?_
    refine r_iload_n X 1 rfl dX6_destroySnapshot_10 11 rfl ?_
    obtain ⟨x3, e3, h⟩ := z_bd h
    refine r_callVN (rest := []) X (tX5_isOrigin hl G b (t0 + 1) (zk_6_0 ht0) a1 M e3) zy_X5_isOrigin zw_X5_isOrigin km_X6_147 (zk_6_0 ht0) rfl zv_X5 rfl ⟨rfl, rfl⟩ ⟨rfl, rfl⟩ rfl rfl (Nat.le_of_ble_eq_true rfl) ⟨Nat.zero_le _, Nat.zero_le _⟩ dX6_destroySnapshot_11 14 rfl [.int x3] rfl ?_
    refine r_if_eq X dX6_destroySnapshot_14 27 (by decide) 17 rfl (fun c4 => ?_) (fun c4 => ?_)
    · have h := z_it c4 h
      refine r_aload_n X 0 rfl dX6_destroySnapshot_27 28 rfl ?_
      refine r_get (v := .ref (b + (t0 + 1))) X ht0 rfl zv_X6 zi_X6 rfl kf_X6_12 rfl rfl dX6_destroySnapshot_28 31 rfl ?_
      refine r_aload_n X 2 rfl dX6_destroySnapshot_31 32 rfl ?_
      obtain ⟨M5, e5, h⟩ := z_bd h
      refine r_callVN (rest := []) X (tX5_drop hl G b (t0 + 1) (zk_6_0 ht0) x2 hk2 M e5) zy_X5_drop zw_X5_drop km_X6_153 (zk_6_0 ht0) rfl zv_X5 rfl ⟨rfl, rfl⟩ ⟨rfl, rfl⟩ rfl rfl (Nat.le_of_ble_eq_true rfl) ⟨Nat.zero_le _, Nat.zero_le _⟩ dX6_destroySnapshot_32 35 rfl [] rfl ?_
      refine r_aload_n X 0 rfl dX6_destroySnapshot_35 36 rfl ?_
      refine r_get (v := .ref (b + (t0 + 1))) X ht0 rfl zv_X6 zi_X6 rfl kf_X6_12 rfl rfl dX6_destroySnapshot_36 39 rfl ?_
      obtain ⟨x6, M7, e7, h⟩ := z_bd2 h
      refine r_callVN (rest := []) X (tX5_settle hl G b (t0 + 1) (zk_6_0 ht0) M5 e7) zy_X5_settle zw_X5_settle km_X6_86 (zk_6_0 ht0) rfl zv_X5 rfl ⟨rfl, rfl⟩ ⟨rfl, rfl⟩ rfl rfl (Nat.le_of_ble_eq_true rfl) ⟨Nat.zero_le _, Nat.zero_le _⟩ dX6_destroySnapshot_39 42 rfl [.int x6] rfl ?_
      cases h
      exact r_xiret X R rfl dX6_destroySnapshot_42
    · have h := z_ie c4 h
      cases h
      exact r_throw X R ze_is (List.mem_of_getElem? (i := 5) rfl) rfl rfl dX6_destroySnapshot_17 dX6_destroySnapshot_20 dX6_destroySnapshot_21 dX6_destroySnapshot_23 dX6_destroySnapshot_26
set_option maxRecDepth 100000 in
set_option maxHeartbeats 1000000 in
theorem tX6_rollback {l : Launch} (hl : l.stackTraces = false) (G : zG) (b : Nat) (t0 : Nat) (ht0 : z_kd t0 = 6) (a1 : Int32) (a2 : Int32) (M : zM) {r9 : String ⊕ Int32} {M9 : zM} (h : fX6_rollback t0 a1 a2 M = some (r9, M9)) : z_MX l yX6_rollback cX6_rollback 6 (some .int) 7 131 G b [.ref (b + t0), .int a1, .int a2] M (z_oi r9) M9 := by
  refine z_metx (own := RX6) hl (by decide) rfl rfl (fun Γ hΓ X R => ?_)
  subst hΓ
  show GW Γ G b 0 0 M 0 [(0, .ref (b + t0)), (1, .int a1), (2, .int a2)] []
  unfold fX6_rollback at h
  refine r_aload_n X 0 rfl dX6_rollback_0 1 rfl ?_
  refine r_iload_n X 1 rfl dX6_rollback_1 2 rfl ?_
  obtain ⟨o1, e1, h⟩ := z_bd h
  cases o1 with
  | inl E9 =>
    have h := z_oxl h
    cases h
    exact r_xthrV (rest := []) X R (tX6_datasetOrThrow hl G b t0 ht0 a1 M (r9 := .inl E9) e1) zy_X6_datasetOrThrow zw_X6_datasetOrThrow km_X6_26 ht0 rfl zv_X6 rfl ⟨rfl, rfl⟩ rfl rfl (Nat.le_of_ble_eq_true rfl) dX6_rollback_2
  | inr x2 =>
    have h := z_oxr h
    obtain ⟨hk2, h⟩ := z_gd_of h
    refine r_callV (rest := []) X (z_MX_ret (tX6_datasetOrThrow hl G b t0 ht0 a1 M (r9 := .inr x2) e1)) zy_X6_datasetOrThrow zw_X6_datasetOrThrow km_X6_26 ht0 rfl zv_X6 rfl ⟨rfl, rfl⟩ ⟨rfl, rfl⟩ rfl rfl (Nat.le_of_ble_eq_true rfl) ⟨Nat.zero_le _, Nat.zero_le _⟩ dX6_rollback_2 5 rfl [.ref (b + x2)] rfl ?_
    refine r_astore_n X dX6_rollback_5 6 rfl [(0, .ref (b + t0)), (1, .int a1), (2, .int a2), (3, .ref (b + x2))] (by decide) [1, 2, 3, 0] rfl ?_
    refine r_aload_n X 0 rfl dX6_rollback_6 7 rfl ?_
    refine r_iload_n X 2 rfl dX6_rollback_7 8 rfl ?_
    obtain ⟨o3, e3, h⟩ := z_bd h
    cases o3 with
    | inl E9 =>
      have h := z_oxl h
      cases h
      exact r_xthrV (rest := []) X R (tX6_snapshotOrThrow hl G b t0 ht0 a2 M (r9 := .inl E9) e3) zy_X6_snapshotOrThrow zw_X6_snapshotOrThrow km_X6_124 ht0 rfl zv_X6 rfl ⟨rfl, rfl⟩ rfl rfl (Nat.le_of_ble_eq_true rfl) dX6_rollback_8
    | inr x4 =>
      have h := z_oxr h
      obtain ⟨hk4, h⟩ := z_gd_of h
      refine r_callV (rest := []) X (z_MX_ret (tX6_snapshotOrThrow hl G b t0 ht0 a2 M (r9 := .inr x4) e3)) zy_X6_snapshotOrThrow zw_X6_snapshotOrThrow km_X6_124 ht0 rfl zv_X6 rfl ⟨rfl, rfl⟩ ⟨rfl, rfl⟩ rfl rfl (Nat.le_of_ble_eq_true rfl) ⟨Nat.zero_le _, Nat.zero_le _⟩ dX6_rollback_8 11 rfl [.ref (b + x4)] rfl ?_
      refine r_astore X dX6_rollback_11 13 rfl [(0, .ref (b + t0)), (1, .int a1), (3, .ref (b + x2)), (4, .ref (b + x4))] (by decide) [1, 2, 4, 0] rfl ?_
      refine r_aload X 3 rfl dX6_rollback_13 15 rfl ?_
      refine r_getN (v := .int (M x4 3)) X hk4 rfl zv_X2 zi_X2 rfl kf_X6_132 rfl rfl dX6_rollback_15 18 rfl ?_
      refine r_iload_n X 1 rfl dX6_rollback_18 19 rfl ?_
      refine r_icmp_eq X dX6_rollback_19 32 (by decide) 22 rfl (fun c5 => ?_) (fun c5 => ?_)
      · have h := z_it c5 h
        refine r_aload_n X 0 rfl dX6_rollback_32 33 rfl ?_
        refine r_get (v := .ref (b + (t0 + 1))) X ht0 rfl zv_X6 zi_X6 rfl kf_X6_12 rfl rfl dX6_rollback_33 36 rfl ?_
        refine r_aload X 3 rfl dX6_rollback_36 38 rfl ?_
        obtain ⟨x6, e6, h⟩ := z_bd h
        refine r_callVN (rest := []) X (tX5_hasOriginBehind hl G b (t0 + 1) (zk_6_0 ht0) x4 hk4 M e6) zy_X5_hasOriginBehind zw_X5_hasOriginBehind km_X6_159 (zk_6_0 ht0) rfl zv_X5 rfl ⟨rfl, rfl⟩ ⟨rfl, rfl⟩ rfl rfl (Nat.le_of_ble_eq_true rfl) ⟨Nat.zero_le _, Nat.zero_le _⟩ dX6_rollback_38 41 rfl [.int x6] rfl ?_
        refine r_if_eq X dX6_rollback_41 54 (by decide) 44 rfl (fun c7 => ?_) (fun c7 => ?_)
        · have h := z_it c7 h
          refine r_aload_n X 0 rfl dX6_rollback_54 55 rfl ?_
          refine r_get (v := .ref (b + (t0 + 1))) X ht0 rfl zv_X6 zi_X6 rfl kf_X6_12 rfl rfl dX6_rollback_55 58 rfl ?_
          refine r_aload_n X 2 rfl dX6_rollback_58 59 rfl ?_
          refine r_getN (v := .ref (b + (x2 + 1))) X hk2 rfl zv_X0 zi_X0 rfl kf_X6_30 rfl rfl dX6_rollback_59 62 rfl ?_
          refine r_aload X 3 rfl dX6_rollback_62 64 rfl ?_
          refine r_getN (v := .ref (b + (x4 + 1))) X hk4 rfl zv_X2 zi_X2 rfl kf_X6_128 rfl rfl dX6_rollback_64 67 rfl ?_
          obtain ⟨M8, e8, h⟩ := z_bd h
          refine r_callVN (rest := []) X (tX5_fill hl G b (t0 + 1) (zk_6_0 ht0) (x2 + 1) (zk_0_0 hk2) (x4 + 1) (zk_2_0 hk4) M e8) zy_X5_fill zw_X5_fill km_X6_165 (zk_6_0 ht0) rfl zv_X5 rfl ⟨rfl, rfl⟩ ⟨rfl, rfl⟩ rfl rfl (Nat.le_of_ble_eq_true rfl) ⟨Nat.zero_le _, Nat.zero_le _⟩ dX6_rollback_67 70 rfl [] rfl ?_
          refine r_aload_n X 0 rfl dX6_rollback_70 71 rfl ?_
          refine r_get (v := .ref (b + (t0 + 1))) X ht0 rfl zv_X6 zi_X6 rfl kf_X6_12 rfl rfl dX6_rollback_71 74 rfl ?_
          refine r_aload X 3 rfl dX6_rollback_74 76 rfl ?_
          obtain ⟨x9, M10, e10, h⟩ := z_bd2 h
          refine r_callVN (rest := []) X (tX5_dropBehind hl G b (t0 + 1) (zk_6_0 ht0) x4 hk4 M8 e10) zy_X5_dropBehind zw_X5_dropBehind km_X6_169 (zk_6_0 ht0) rfl zv_X5 rfl ⟨rfl, rfl⟩ ⟨rfl, rfl⟩ rfl rfl (Nat.le_of_ble_eq_true rfl) ⟨Nat.zero_le _, Nat.zero_le _⟩ dX6_rollback_76 79 rfl [.int x9] rfl ?_
          refine r_istore X dX6_rollback_79 81 rfl [(0, .ref (b + t0)), (5, .int x9)] (by decide) [1, 0] rfl ?_
          refine r_aload_n X 0 rfl dX6_rollback_81 82 rfl ?_
          refine r_get (v := .ref (b + (t0 + 1))) X ht0 rfl zv_X6 zi_X6 rfl kf_X6_12 rfl rfl dX6_rollback_82 85 rfl ?_
          obtain ⟨x11, M12, e12, h⟩ := z_bd2 h
          refine r_callVN (rest := []) X (tX5_settle hl G b (t0 + 1) (zk_6_0 ht0) M10 e12) zy_X5_settle zw_X5_settle km_X6_86 (zk_6_0 ht0) rfl zv_X5 rfl ⟨rfl, rfl⟩ ⟨rfl, rfl⟩ rfl rfl (Nat.le_of_ble_eq_true rfl) ⟨Nat.zero_le _, Nat.zero_le _⟩ dX6_rollback_85 88 rfl [.int x11] rfl ?_
          refine r_pop X rfl dX6_rollback_88 89 rfl ?_
          refine r_iload X 1 rfl dX6_rollback_89 91 rfl ?_
          cases h
          exact r_xiret X R rfl dX6_rollback_91
        · have h := z_ie c7 h
          cases h
          exact r_throw X R ze_is (List.mem_of_getElem? (i := 7) rfl) rfl rfl dX6_rollback_44 dX6_rollback_47 dX6_rollback_48 dX6_rollback_50 dX6_rollback_53
      · have h := z_ie c5 h
        cases h
        exact r_throw X R ze_ia (List.mem_of_getElem? (i := 6) rfl) rfl rfl dX6_rollback_22 dX6_rollback_25 dX6_rollback_26 dX6_rollback_28 dX6_rollback_31
set_option maxRecDepth 100000 in
set_option maxHeartbeats 1000000 in
theorem tX6_changed {l : Launch} (hl : l.stackTraces = false) (G : zG) (b : Nat) (t0 : Nat) (ht0 : z_kd t0 = 6) (a1 : Int32) (a2 : Int32) (M : zM) {r9 : String ⊕ Int32} (h : fX6_changed t0 a1 a2 M = some r9) : z_MX l yX6_changed cX6_changed 7 (some .int) 7 112 G b [.ref (b + t0), .int a1, .int a2] M (z_oi r9) M := by
  refine z_metx (own := RX6) hl (by decide) rfl rfl (fun Γ hΓ X R => ?_)
  subst hΓ
  show GW Γ G b 0 0 M 0 [(0, .ref (b + t0)), (1, .int a1), (2, .int a2)] []
  unfold fX6_changed at h
  refine r_aload_n X 0 rfl dX6_changed_0 1 rfl ?_
  refine r_iload_n X 1 rfl dX6_changed_1 2 rfl ?_
  obtain ⟨o1, e1, h⟩ := z_bd h
  cases o1 with
  | inl E9 =>
    have h := z_oxl h
    cases h
    exact r_xthrV (rest := []) X R (tX6_snapshotOrThrow hl G b t0 ht0 a1 M (r9 := .inl E9) e1) zy_X6_snapshotOrThrow zw_X6_snapshotOrThrow km_X6_124 ht0 rfl zv_X6 rfl ⟨rfl, rfl⟩ rfl rfl (Nat.le_of_ble_eq_true rfl) dX6_changed_2
  | inr x2 =>
    have h := z_oxr h
    obtain ⟨hk2, h⟩ := z_gd_of h
    refine r_callV (rest := []) X (z_MX_ret (tX6_snapshotOrThrow hl G b t0 ht0 a1 M (r9 := .inr x2) e1)) zy_X6_snapshotOrThrow zw_X6_snapshotOrThrow km_X6_124 ht0 rfl zv_X6 rfl ⟨rfl, rfl⟩ ⟨rfl, rfl⟩ rfl rfl (Nat.le_of_ble_eq_true rfl) ⟨Nat.zero_le _, Nat.zero_le _⟩ dX6_changed_2 5 rfl [.ref (b + x2)] rfl ?_
    refine r_getN (v := .ref (b + (x2 + 1))) X hk2 rfl zv_X2 zi_X2 rfl kf_X6_128 rfl rfl dX6_changed_5 8 rfl ?_
    refine r_astore_n X dX6_changed_8 9 rfl [(0, .ref (b + t0)), (2, .int a2), (3, .ref (b + (x2 + 1)))] (by decide) [1, 3, 0] rfl ?_
    refine r_aload_n X 0 rfl dX6_changed_9 10 rfl ?_
    refine r_iload_n X 1 rfl dX6_changed_10 11 rfl ?_
    obtain ⟨o3, e3, h⟩ := z_bd h
    cases o3 with
    | inl E9 =>
      have h := z_oxl h
      cases h
      exact r_xthrV (rest := []) X R (tX6_datasetOrThrow hl G b t0 ht0 a2 M (r9 := .inl E9) e3) zy_X6_datasetOrThrow zw_X6_datasetOrThrow km_X6_26 ht0 rfl zv_X6 rfl ⟨rfl, rfl⟩ rfl rfl (Nat.le_of_ble_eq_true rfl) dX6_changed_11
    | inr x4 =>
      have h := z_oxr h
      obtain ⟨hk4, h⟩ := z_gd_of h
      refine r_callV (rest := []) X (z_MX_ret (tX6_datasetOrThrow hl G b t0 ht0 a2 M (r9 := .inr x4) e3)) zy_X6_datasetOrThrow zw_X6_datasetOrThrow km_X6_26 ht0 rfl zv_X6 rfl ⟨rfl, rfl⟩ ⟨rfl, rfl⟩ rfl rfl (Nat.le_of_ble_eq_true rfl) ⟨Nat.zero_le _, Nat.zero_le _⟩ dX6_changed_11 14 rfl [.ref (b + x4)] rfl ?_
      refine r_getN (v := .ref (b + (x4 + 1))) X hk4 rfl zv_X0 zi_X0 rfl kf_X6_30 rfl rfl dX6_changed_14 17 rfl ?_
      refine r_astore X dX6_changed_17 19 rfl [(3, .ref (b + (x2 + 1))), (4, .ref (b + (x4 + 1)))] (by decide) [3, 0] rfl ?_
      refine r_iconst (v := 0) X rfl dX6_changed_19 20 rfl ?_
      refine r_istore X dX6_changed_20 22 rfl [(3, .ref (b + (x2 + 1))), (4, .ref (b + (x4 + 1))), (5, .int 0)] (by decide) [1, 2, 0] rfl ?_
      refine r_iconst (v := 0) X rfl dX6_changed_22 23 rfl ?_
      refine r_istore X dX6_changed_23 25 rfl [(3, .ref (b + (x2 + 1))), (4, .ref (b + (x4 + 1))), (5, .int 0), (6, .int 0)] (by decide) [1, 2, 3, 0] rfl ?_
      obtain ⟨x7, hL8, h⟩ := z_bd h
      have hK8 : GW Γ G b 0 0 M 58 [(5, .int x7)] [] := by
        refine r_iload X 0 rfl dX6_changed_58 60 rfl ?_
        cases h
        exact r_xiret X R rfl dX6_changed_60
      clear h
      refine z_loopP (fun (s : (Int32 × Int32)) => GW Γ G b 0 0 M 25 [(3, .ref (b + (x2 + 1))), (4, .ref (b + (x4 + 1))), (5, .int s.1), (6, .int s.2)] []) (fun s q8 hb hP8 hx8 => ?_) _ _ hL8
      obtain ⟨x5, x6⟩ := s
      have h : fX6_changed_L1 M x2 x4 x5 x6 = some q8 := hb
      unfold fX6_changed_L1 at h
      refine r_iload X 3 rfl dX6_changed_25 27 rfl ?_
      refine r_sipush (v := 128) X rfl dX6_changed_27 30 rfl ?_
      refine r_icmp_ge X dX6_changed_30 58 (by decide) 33 rfl (fun c9 => ?_) (fun c9 => ?_)
      · have h := z_it c9 h
        refine r_sub [(5, .int x5)] [2] rfl ?_
        have e := hx8 _ (Option.some.inj h).symm
        cases e
        exact hK8
      · have h := z_ie c9 h
        refine r_aload_n X 0 rfl dX6_changed_33 34 rfl ?_
        refine r_iload X 3 rfl dX6_changed_34 36 rfl ?_
        obtain ⟨x10, e10, h⟩ := z_bd h
        refine r_callVN (rest := []) X (tX4_blockOf hl G b (x2 + 1) (zk_2_0 hk2) x6 M e10) zy_X4_blockOf zw_X4_blockOf km_X6_40 (zk_2_0 hk2) rfl zv_X4 rfl ⟨rfl, rfl⟩ ⟨rfl, rfl⟩ rfl rfl (Nat.le_of_ble_eq_true rfl) ⟨Nat.zero_le _, Nat.zero_le _⟩ dX6_changed_36 39 rfl [.int x10] rfl ?_
        refine r_aload X 1 rfl dX6_changed_39 41 rfl ?_
        refine r_iload X 3 rfl dX6_changed_41 43 rfl ?_
        obtain ⟨x11, e11, h⟩ := z_bd h
        refine r_callVN (rest := [.int x10]) X (tX4_blockOf hl G b (x4 + 1) (zk_0_0 hk4) x6 M e11) zy_X4_blockOf zw_X4_blockOf km_X6_40 (zk_0_0 hk4) rfl zv_X4 rfl ⟨rfl, rfl⟩ ⟨rfl, rfl⟩ rfl rfl (Nat.le_of_ble_eq_true rfl) ⟨Nat.zero_le _, Nat.zero_le _⟩ dX6_changed_43 46 rfl [.int x11, .int x10] rfl ?_
        refine r_icmp_eq X dX6_changed_46 52 (by decide) 49 rfl (fun c12 => ?_) (fun c12 => ?_)
        · have h := z_it c12 h
          refine r_iinc X dX6_changed_52 55 rfl [(3, .ref (b + (x2 + 1))), (4, .ref (b + (x4 + 1))), (5, .int x5), (6, .int (x6 + 1))] (by decide) 3 rfl (x6 + 1) rfl [1, 2, 3, 0] rfl ?_
          refine r_goto X dX6_changed_55 25 (by decide) ?_
          exact hP8 (x5, (x6 + 1)) (Option.some.inj h).symm
        · have h := z_ie c12 h
          refine r_iinc X dX6_changed_49 52 rfl [(3, .ref (b + (x2 + 1))), (4, .ref (b + (x4 + 1))), (5, .int (x5 + 1)), (6, .int x6)] (by decide) 2 rfl (x5 + 1) rfl [1, 2, 0, 3] rfl ?_
          refine r_iinc X dX6_changed_52 55 rfl [(3, .ref (b + (x2 + 1))), (4, .ref (b + (x4 + 1))), (5, .int (x5 + 1)), (6, .int (x6 + 1))] (by decide) 3 rfl (x6 + 1) rfl [1, 2, 3, 0] rfl ?_
          refine r_goto X dX6_changed_55 25 (by decide) ?_
          exact hP8 ((x5 + 1), (x6 + 1)) (Option.some.inj h).symm
set_option maxRecDepth 100000 in
set_option maxHeartbeats 1000000 in
theorem tX6_datasets {l : Launch} (hl : l.stackTraces = false) (G : zG) (b : Nat) (t0 : Nat) (ht0 : z_kd t0 = 6) (M : zM) {r9 : Int32} (h : fX6_datasets t0 M = some r9) : z_MN l yX6_datasets cX6_datasets 1 (some .int) { frames := 1, cells := 0, slots := 0, locals := 22 } G b [.ref (b + t0)] M (some (.int r9)) M := by
  refine z_met (own := RX6) hl (by decide) rfl rfl (fun Γ hΓ X R => ?_)
  subst hΓ
  show GW Γ G b 0 0 M 0 [(0, .ref (b + t0))] []
  unfold fX6_datasets at h
  refine r_aload_n X 0 rfl dX6_datasets_0 1 rfl ?_
  refine r_get (v := .ref (b + (t0 + 1))) X ht0 rfl zv_X6 zi_X6 rfl kf_X6_12 rfl rfl dX6_datasets_1 4 rfl ?_
  obtain ⟨x1, e1, h⟩ := z_bd h
  refine r_callVN (rest := []) X (tX5_countDatasets hl G b (t0 + 1) (zk_6_0 ht0) M e1) zy_X5_countDatasets zw_X5_countDatasets km_X6_173 (zk_6_0 ht0) rfl zv_X5 rfl ⟨rfl, rfl⟩ ⟨rfl, rfl⟩ rfl rfl (Nat.le_of_ble_eq_true rfl) ⟨Nat.zero_le _, Nat.zero_le _⟩ dX6_datasets_4 7 rfl [.int x1] rfl ?_
  cases h
  exact r_iret X R rfl dX6_datasets_7
set_option maxRecDepth 100000 in
set_option maxHeartbeats 1000000 in
theorem tX6_makeClone {l : Launch} (hl : l.stackTraces = false) (G : zG) (b : Nat) (t0 : Nat) (ht0 : z_kd t0 = 6) (a1 : Int32) (M : zM) {r9 : String ⊕ Int32} {M9 : zM} (h : fX6_makeClone t0 a1 M = some (r9, M9)) : z_MX l yX6_makeClone cX6_makeClone 4 (some .int) 7 112 G b [.ref (b + t0), .int a1] M (z_oi r9) M9 := by
  refine z_metx (own := RX6) hl (by decide) rfl rfl (fun Γ hΓ X R => ?_)
  subst hΓ
  show GW Γ G b 0 0 M 0 [(0, .ref (b + t0)), (1, .int a1)] []
  unfold fX6_makeClone at h
  refine r_aload_n X 0 rfl dX6_makeClone_0 1 rfl ?_
  refine r_iload_n X 1 rfl dX6_makeClone_1 2 rfl ?_
  obtain ⟨o1, e1, h⟩ := z_bd h
  cases o1 with
  | inl E9 =>
    have h := z_oxl h
    cases h
    exact r_xthrV (rest := []) X R (tX6_snapshotOrThrow hl G b t0 ht0 a1 M (r9 := .inl E9) e1) zy_X6_snapshotOrThrow zw_X6_snapshotOrThrow km_X6_124 ht0 rfl zv_X6 rfl ⟨rfl, rfl⟩ rfl rfl (Nat.le_of_ble_eq_true rfl) dX6_makeClone_2
  | inr x2 =>
    have h := z_oxr h
    obtain ⟨hk2, h⟩ := z_gd_of h
    refine r_callV (rest := []) X (z_MX_ret (tX6_snapshotOrThrow hl G b t0 ht0 a1 M (r9 := .inr x2) e1)) zy_X6_snapshotOrThrow zw_X6_snapshotOrThrow km_X6_124 ht0 rfl zv_X6 rfl ⟨rfl, rfl⟩ ⟨rfl, rfl⟩ rfl rfl (Nat.le_of_ble_eq_true rfl) ⟨Nat.zero_le _, Nat.zero_le _⟩ dX6_makeClone_2 5 rfl [.ref (b + x2)] rfl ?_
    refine r_astore_n X dX6_makeClone_5 6 rfl [(0, .ref (b + t0)), (2, .ref (b + x2))] (by decide) [1, 0] rfl ?_
    refine r_aload_n X 0 rfl dX6_makeClone_6 7 rfl ?_
    refine r_get (v := .ref (b + (t0 + 1))) X ht0 rfl zv_X6 zi_X6 rfl kf_X6_12 rfl rfl dX6_makeClone_7 10 rfl ?_
    obtain ⟨x3, e3, h⟩ := z_bd h
    refine r_callVN (rest := []) X (tX5_unusedDataset hl G b (t0 + 1) (zk_6_0 ht0) M e3) zy_X5_unusedDataset zw_X5_unusedDataset km_X6_176 (zk_6_0 ht0) rfl zv_X5 rfl ⟨rfl, rfl⟩ ⟨rfl, rfl⟩ rfl rfl (Nat.le_of_ble_eq_true rfl) ⟨Nat.zero_le _, Nat.zero_le _⟩ dX6_makeClone_10 13 rfl [.int x3] rfl ?_
    refine r_istore_n X dX6_makeClone_13 14 rfl [(0, .ref (b + t0)), (2, .ref (b + x2)), (3, .int x3)] (by decide) [1, 2, 0] rfl ?_
    refine r_iload_n X 2 rfl dX6_makeClone_14 15 rfl ?_
    refine r_iconst (v := (-1)) X rfl dX6_makeClone_15 16 rfl ?_
    refine r_icmp_ne X dX6_makeClone_16 29 (by decide) 19 rfl (fun c4 => ?_) (fun c4 => ?_)
    · have h := z_ie c4 h
      refine r_aload_n X 0 rfl dX6_makeClone_29 30 rfl ?_
      refine r_get (v := .ref (b + (t0 + 1))) X ht0 rfl zv_X6 zi_X6 rfl kf_X6_12 rfl rfl dX6_makeClone_30 33 rfl ?_
      refine r_iload_n X 2 rfl dX6_makeClone_33 34 rfl ?_
      refine r_aload_n X 1 rfl dX6_makeClone_34 35 rfl ?_
      obtain ⟨M5, e5, h⟩ := z_bd h
      refine r_callVN (rest := []) X (tX5_branch hl G b (t0 + 1) (zk_6_0 ht0) x3 x2 hk2 M e5) zy_X5_branch zw_X5_branch km_X6_181 (zk_6_0 ht0) rfl zv_X5 rfl ⟨rfl, rfl⟩ ⟨rfl, rfl⟩ rfl rfl (Nat.le_of_ble_eq_true rfl) ⟨Nat.zero_le _, Nat.zero_le _⟩ dX6_makeClone_35 38 rfl [] rfl ?_
      refine r_iload_n X 2 rfl dX6_makeClone_38 39 rfl ?_
      cases h
      exact r_xiret X R rfl dX6_makeClone_39
    · have h := z_it c4 h
      cases h
      exact r_throw X R ze_is (List.mem_of_getElem? (i := 8) rfl) rfl rfl dX6_makeClone_19 dX6_makeClone_22 dX6_makeClone_23 dX6_makeClone_25 dX6_makeClone_28
set_option maxRecDepth 100000 in
set_option maxHeartbeats 1000000 in
theorem tX6_origin {l : Launch} (hl : l.stackTraces = false) (G : zG) (b : Nat) (t0 : Nat) (ht0 : z_kd t0 = 6) (a1 : Int32) (M : zM) {r9 : String ⊕ Int32} (h : fX6_origin t0 a1 M = some r9) : z_MX l yX6_origin cX6_origin 2 (some .int) 7 112 G b [.ref (b + t0), .int a1] M (z_oi r9) M := by
  refine z_metx (own := RX6) hl (by decide) rfl rfl (fun Γ hΓ X R => ?_)
  subst hΓ
  show GW Γ G b 0 0 M 0 [(0, .ref (b + t0)), (1, .int a1)] []
  unfold fX6_origin at h
  refine r_aload_n X 0 rfl dX6_origin_0 1 rfl ?_
  refine r_iload_n X 1 rfl dX6_origin_1 2 rfl ?_
  obtain ⟨o1, e1, h⟩ := z_bd h
  cases o1 with
  | inl E9 =>
    have h := z_oxl h
    cases h
    exact r_xthrV (rest := []) X R (tX6_datasetOrThrow hl G b t0 ht0 a1 M (r9 := .inl E9) e1) zy_X6_datasetOrThrow zw_X6_datasetOrThrow km_X6_26 ht0 rfl zv_X6 rfl ⟨rfl, rfl⟩ rfl rfl (Nat.le_of_ble_eq_true rfl) dX6_origin_2
  | inr x2 =>
    have h := z_oxr h
    obtain ⟨hk2, h⟩ := z_gd_of h
    refine r_callV (rest := []) X (z_MX_ret (tX6_datasetOrThrow hl G b t0 ht0 a1 M (r9 := .inr x2) e1)) zy_X6_datasetOrThrow zw_X6_datasetOrThrow km_X6_26 ht0 rfl zv_X6 rfl ⟨rfl, rfl⟩ ⟨rfl, rfl⟩ rfl rfl (Nat.le_of_ble_eq_true rfl) ⟨Nat.zero_le _, Nat.zero_le _⟩ dX6_origin_2 5 rfl [.ref (b + x2)] rfl ?_
    refine r_getN (v := .int (M x2 2)) X hk2 rfl zv_X0 zi_X0 rfl kf_X6_185 rfl rfl dX6_origin_5 8 rfl ?_
    cases h
    exact r_xiret X R rfl dX6_origin_8
set_option maxRecDepth 100000 in
set_option maxHeartbeats 1000000 in
theorem tX6_promote {l : Launch} (hl : l.stackTraces = false) (G : zG) (b : Nat) (t0 : Nat) (ht0 : z_kd t0 = 6) (a1 : Int32) (M : zM) {r9 : String ⊕ Int32} {M9 : zM} (h : fX6_promote t0 a1 M = some (r9, M9)) : z_MX l yX6_promote cX6_promote 5 (some .int) 7 112 G b [.ref (b + t0), .int a1] M (z_oi r9) M9 := by
  refine z_metx (own := RX6) hl (by decide) rfl rfl (fun Γ hΓ X R => ?_)
  subst hΓ
  show GW Γ G b 0 0 M 0 [(0, .ref (b + t0)), (1, .int a1)] []
  unfold fX6_promote at h
  refine r_aload_n X 0 rfl dX6_promote_0 1 rfl ?_
  refine r_iload_n X 1 rfl dX6_promote_1 2 rfl ?_
  obtain ⟨o1, e1, h⟩ := z_bd h
  cases o1 with
  | inl E9 =>
    have h := z_oxl h
    cases h
    exact r_xthrV (rest := []) X R (tX6_datasetOrThrow hl G b t0 ht0 a1 M (r9 := .inl E9) e1) zy_X6_datasetOrThrow zw_X6_datasetOrThrow km_X6_26 ht0 rfl zv_X6 rfl ⟨rfl, rfl⟩ rfl rfl (Nat.le_of_ble_eq_true rfl) dX6_promote_2
  | inr x2 =>
    have h := z_oxr h
    obtain ⟨hk2, h⟩ := z_gd_of h
    refine r_callV (rest := []) X (z_MX_ret (tX6_datasetOrThrow hl G b t0 ht0 a1 M (r9 := .inr x2) e1)) zy_X6_datasetOrThrow zw_X6_datasetOrThrow km_X6_26 ht0 rfl zv_X6 rfl ⟨rfl, rfl⟩ ⟨rfl, rfl⟩ rfl rfl (Nat.le_of_ble_eq_true rfl) ⟨Nat.zero_le _, Nat.zero_le _⟩ dX6_promote_2 5 rfl [.ref (b + x2)] rfl ?_
    refine r_astore_n X dX6_promote_5 6 rfl [(0, .ref (b + t0)), (1, .int a1), (2, .ref (b + x2))] (by decide) [1, 2, 0] rfl ?_
    refine r_aload_n X 0 rfl dX6_promote_6 7 rfl ?_
    refine r_get (v := .ref (b + (t0 + 1))) X ht0 rfl zv_X6 zi_X6 rfl kf_X6_12 rfl rfl dX6_promote_7 10 rfl ?_
    refine r_aload_n X 2 rfl dX6_promote_10 11 rfl ?_
    refine r_getN (v := .int (M x2 2)) X hk2 rfl zv_X0 zi_X0 rfl kf_X6_185 rfl rfl dX6_promote_11 14 rfl ?_
    obtain ⟨o3, e3, h⟩ := z_bd h
    cases o3 with
    | none =>
      have h := z_ocn h
      refine r_callVN (rest := []) X (tX5_findSnapshot hl G b (t0 + 1) (zk_6_0 ht0) (M x2 2) M (r9 := none) e3) zy_X5_findSnapshot zw_X5_findSnapshot km_X6_188 (zk_6_0 ht0) rfl zv_X5 rfl ⟨rfl, rfl⟩ ⟨rfl, rfl⟩ rfl rfl (Nat.le_of_ble_eq_true rfl) ⟨Nat.zero_le _, Nat.zero_le _⟩ dX6_promote_14 17 rfl [.null] rfl ?_
      refine r_astore_nN X dX6_promote_17 18 rfl [(0, .ref (b + t0)), (1, .int a1), (2, .ref (b + x2)), (3, .null)] (by decide) [1, 2, 3, 0] rfl ?_
      refine r_aload_nN X 3 rfl dX6_promote_18 19 rfl ?_
      refine r_ifnonnull_n X dX6_promote_19 22 rfl ?_
      cases h
      exact r_throw X R ze_is (List.mem_of_getElem? (i := 9) rfl) rfl rfl dX6_promote_22 dX6_promote_25 dX6_promote_26 dX6_promote_28 dX6_promote_31
    | some x4 =>
      have h := z_ocs h
      obtain ⟨hk4, h⟩ := z_gd_of h
      refine r_callVN (rest := []) X (tX5_findSnapshot hl G b (t0 + 1) (zk_6_0 ht0) (M x2 2) M (r9 := some x4) e3) zy_X5_findSnapshot zw_X5_findSnapshot km_X6_188 (zk_6_0 ht0) rfl zv_X5 rfl ⟨rfl, rfl⟩ ⟨rfl, rfl⟩ rfl rfl (Nat.le_of_ble_eq_true rfl) ⟨Nat.zero_le _, Nat.zero_le _⟩ dX6_promote_14 17 rfl [.ref (b + x4)] rfl ?_
      refine r_astore_n X dX6_promote_17 18 rfl [(0, .ref (b + t0)), (1, .int a1), (2, .ref (b + x2)), (3, .ref (b + x4))] (by decide) [1, 2, 3, 0] rfl ?_
      refine r_aload_n X 3 rfl dX6_promote_18 19 rfl ?_
      refine r_ifnonnull_r X dX6_promote_19 32 (by decide) ?_
      refine r_aload_n X 0 rfl dX6_promote_32 33 rfl ?_
      refine r_get (v := .ref (b + (t0 + 1))) X ht0 rfl zv_X6 zi_X6 rfl kf_X6_12 rfl rfl dX6_promote_33 36 rfl ?_
      refine r_aload_n X 3 rfl dX6_promote_36 37 rfl ?_
      refine r_getN (v := .int (M x4 3)) X hk4 rfl zv_X2 zi_X2 rfl kf_X6_132 rfl rfl dX6_promote_37 40 rfl ?_
      obtain ⟨o5, e5, h⟩ := z_bd h
      cases o5 with
      | none =>
        have h := z_ocn h
        refine r_callVN (rest := []) X (tX5_findDataset hl G b (t0 + 1) (zk_6_0 ht0) (M x4 3) M (r9 := none) e5) zy_X5_findDataset zw_X5_findDataset km_X6_193 (zk_6_0 ht0) rfl zv_X5 rfl ⟨rfl, rfl⟩ ⟨rfl, rfl⟩ rfl rfl (Nat.le_of_ble_eq_true rfl) ⟨Nat.zero_le _, Nat.zero_le _⟩ dX6_promote_40 43 rfl [.null] rfl ?_
        refine r_astoreN X dX6_promote_43 45 rfl [(0, .ref (b + t0)), (1, .int a1), (2, .ref (b + x2)), (3, .ref (b + x4)), (4, .null)] (by decide) [1, 2, 3, 4, 0] rfl ?_
        refine r_aloadN X 4 rfl dX6_promote_45 47 rfl ?_
        refine r_ifnull_n X dX6_promote_47 77 (by decide) ?_
        refine r_aload_n X 0 rfl dX6_promote_77 78 rfl ?_
        refine r_get (v := .ref (b + (t0 + 1))) X ht0 rfl zv_X6 zi_X6 rfl kf_X6_12 rfl rfl dX6_promote_78 81 rfl ?_
        refine r_iload_n X 1 rfl dX6_promote_81 82 rfl ?_
        obtain ⟨x7, e7, h⟩ := z_bd h
        refine r_callVN (rest := []) X (tX5_snapshotsOf hl G b (t0 + 1) (zk_6_0 ht0) a1 M e7) zy_X5_snapshotsOf zw_X5_snapshotsOf km_X6_135 (zk_6_0 ht0) rfl zv_X5 rfl ⟨rfl, rfl⟩ ⟨rfl, rfl⟩ rfl rfl (Nat.le_of_ble_eq_true rfl) ⟨Nat.zero_le _, Nat.zero_le _⟩ dX6_promote_82 85 rfl [.int x7] rfl ?_
        cases h
        exact r_xiret X R rfl dX6_promote_85
      | some x6 =>
        have h := z_ocs h
        obtain ⟨hk6, h⟩ := z_gd_of h
        refine r_callVN (rest := []) X (tX5_findDataset hl G b (t0 + 1) (zk_6_0 ht0) (M x4 3) M (r9 := some x6) e5) zy_X5_findDataset zw_X5_findDataset km_X6_193 (zk_6_0 ht0) rfl zv_X5 rfl ⟨rfl, rfl⟩ ⟨rfl, rfl⟩ rfl rfl (Nat.le_of_ble_eq_true rfl) ⟨Nat.zero_le _, Nat.zero_le _⟩ dX6_promote_40 43 rfl [.ref (b + x6)] rfl ?_
        refine r_astore X dX6_promote_43 45 rfl [(0, .ref (b + t0)), (1, .int a1), (2, .ref (b + x2)), (3, .ref (b + x4)), (4, .ref (b + x6))] (by decide) [1, 2, 3, 4, 0] rfl ?_
        refine r_aload X 4 rfl dX6_promote_45 47 rfl ?_
        refine r_ifnull_r X dX6_promote_47 50 rfl ?_
        refine r_aload_n X 0 rfl dX6_promote_50 51 rfl ?_
        refine r_get (v := .ref (b + (t0 + 1))) X ht0 rfl zv_X6 zi_X6 rfl kf_X6_12 rfl rfl dX6_promote_51 54 rfl ?_
        refine r_aload_n X 3 rfl dX6_promote_54 55 rfl ?_
        refine r_iload_n X 1 rfl dX6_promote_55 56 rfl ?_
        obtain ⟨M8, e8, h⟩ := z_bd h
        refine r_callVN (rest := []) X (tX5_handOver hl G b (t0 + 1) (zk_6_0 ht0) x4 hk4 a1 M e8) zy_X5_handOver zw_X5_handOver km_X6_196 (zk_6_0 ht0) rfl zv_X5 rfl ⟨rfl, rfl⟩ ⟨rfl, rfl⟩ rfl rfl (Nat.le_of_ble_eq_true rfl) ⟨Nat.zero_le _, Nat.zero_le _⟩ dX6_promote_56 59 rfl [] rfl ?_
        refine r_aload_n X 2 rfl dX6_promote_59 60 rfl ?_
        refine r_aload X 4 rfl dX6_promote_60 62 rfl ?_
        refine r_getN (v := .int (M8 x6 2)) X hk6 rfl zv_X0 zi_X0 rfl kf_X6_185 rfl rfl dX6_promote_62 65 rfl ?_
        obtain ⟨M9, e9, h⟩ := z_bd h
        refine r_putN X hk2 rfl zv_X0 zi_X0 rfl kf_X6_185 rfl tyX0_ok nmX0 rfl rfl rfl rfl rfl rfl (Option.some.inj e9) dX6_promote_65 68 rfl ?_
        refine r_aload X 4 rfl dX6_promote_68 70 rfl ?_
        refine r_aload_n X 3 rfl dX6_promote_70 71 rfl ?_
        refine r_getN (v := .int (M9 x4 2)) X hk4 rfl zv_X2 zi_X2 rfl kf_X6_121 rfl rfl dX6_promote_71 74 rfl ?_
        obtain ⟨M10, e10, h⟩ := z_bd h
        refine r_putN X hk6 rfl zv_X0 zi_X0 rfl kf_X6_185 rfl tyX0_ok nmX0 rfl rfl rfl rfl rfl rfl (Option.some.inj e10) dX6_promote_74 77 rfl ?_
        refine r_aload_n X 0 rfl dX6_promote_77 78 rfl ?_
        refine r_get (v := .ref (b + (t0 + 1))) X ht0 rfl zv_X6 zi_X6 rfl kf_X6_12 rfl rfl dX6_promote_78 81 rfl ?_
        refine r_iload_n X 1 rfl dX6_promote_81 82 rfl ?_
        obtain ⟨x11, e11, h⟩ := z_bd h
        refine r_callVN (rest := []) X (tX5_snapshotsOf hl G b (t0 + 1) (zk_6_0 ht0) a1 M10 e11) zy_X5_snapshotsOf zw_X5_snapshotsOf km_X6_135 (zk_6_0 ht0) rfl zv_X5 rfl ⟨rfl, rfl⟩ ⟨rfl, rfl⟩ rfl rfl (Nat.le_of_ble_eq_true rfl) ⟨Nat.zero_le _, Nat.zero_le _⟩ dX6_promote_82 85 rfl [.int x11] rfl ?_
        cases h
        exact r_xiret X R rfl dX6_promote_85
set_option maxRecDepth 100000 in
set_option maxHeartbeats 1000000 in
theorem tX6_destroy {l : Launch} (hl : l.stackTraces = false) (G : zG) (b : Nat) (t0 : Nat) (ht0 : z_kd t0 = 6) (a1 : Int32) (M : zM) {r9 : String ⊕ Int32} {M9 : zM} (h : fX6_destroy t0 a1 M = some (r9, M9)) : z_MX l yX6_destroy cX6_destroy 3 (some .int) 7 112 G b [.ref (b + t0), .int a1] M (z_oi r9) M9 := by
  refine z_metx (own := RX6) hl (by decide) rfl rfl (fun Γ hΓ X R => ?_)
  subst hΓ
  show GW Γ G b 0 0 M 0 [(0, .ref (b + t0)), (1, .int a1)] []
  unfold fX6_destroy at h
  refine r_aload_n X 0 rfl dX6_destroy_0 1 rfl ?_
  refine r_iload_n X 1 rfl dX6_destroy_1 2 rfl ?_
  obtain ⟨o1, e1, h⟩ := z_bd h
  cases o1 with
  | inl E9 =>
    have h := z_oxl h
    cases h
    exact r_xthrV (rest := []) X R (tX6_datasetOrThrow hl G b t0 ht0 a1 M (r9 := .inl E9) e1) zy_X6_datasetOrThrow zw_X6_datasetOrThrow km_X6_26 ht0 rfl zv_X6 rfl ⟨rfl, rfl⟩ rfl rfl (Nat.le_of_ble_eq_true rfl) dX6_destroy_2
  | inr x2 =>
    have h := z_oxr h
    obtain ⟨hk2, h⟩ := z_gd_of h
    refine r_callV (rest := []) X (z_MX_ret (tX6_datasetOrThrow hl G b t0 ht0 a1 M (r9 := .inr x2) e1)) zy_X6_datasetOrThrow zw_X6_datasetOrThrow km_X6_26 ht0 rfl zv_X6 rfl ⟨rfl, rfl⟩ ⟨rfl, rfl⟩ rfl rfl (Nat.le_of_ble_eq_true rfl) ⟨Nat.zero_le _, Nat.zero_le _⟩ dX6_destroy_2 5 rfl [.ref (b + x2)] rfl ?_
    refine r_astore_n X dX6_destroy_5 6 rfl [(0, .ref (b + t0)), (1, .int a1), (2, .ref (b + x2))] (by decide) [1, 2, 0] rfl ?_
    refine r_aload_n X 0 rfl dX6_destroy_6 7 rfl ?_
    refine r_get (v := .ref (b + (t0 + 1))) X ht0 rfl zv_X6 zi_X6 rfl kf_X6_12 rfl rfl dX6_destroy_7 10 rfl ?_
    refine r_iload_n X 1 rfl dX6_destroy_10 11 rfl ?_
    obtain ⟨x3, e3, h⟩ := z_bd h
    refine r_callVN (rest := []) X (tX5_snapshotsOf hl G b (t0 + 1) (zk_6_0 ht0) a1 M e3) zy_X5_snapshotsOf zw_X5_snapshotsOf km_X6_135 (zk_6_0 ht0) rfl zv_X5 rfl ⟨rfl, rfl⟩ ⟨rfl, rfl⟩ rfl rfl (Nat.le_of_ble_eq_true rfl) ⟨Nat.zero_le _, Nat.zero_le _⟩ dX6_destroy_11 14 rfl [.int x3] rfl ?_
    refine r_if_le X dX6_destroy_14 27 (by decide) 17 rfl (fun c4 => ?_) (fun c4 => ?_)
    · have h := z_it c4 h
      refine r_aload_n X 0 rfl dX6_destroy_27 28 rfl ?_
      refine r_get (v := .ref (b + (t0 + 1))) X ht0 rfl zv_X6 zi_X6 rfl kf_X6_12 rfl rfl dX6_destroy_28 31 rfl ?_
      obtain ⟨x5, e5, h⟩ := z_bd h
      refine r_callVN (rest := []) X (tX5_countDatasets hl G b (t0 + 1) (zk_6_0 ht0) M e5) zy_X5_countDatasets zw_X5_countDatasets km_X6_173 (zk_6_0 ht0) rfl zv_X5 rfl ⟨rfl, rfl⟩ ⟨rfl, rfl⟩ rfl rfl (Nat.le_of_ble_eq_true rfl) ⟨Nat.zero_le _, Nat.zero_le _⟩ dX6_destroy_31 34 rfl [.int x5] rfl ?_
      refine r_iconst (v := 1) X rfl dX6_destroy_34 35 rfl ?_
      refine r_icmp_ne X dX6_destroy_35 48 (by decide) 38 rfl (fun c6 => ?_) (fun c6 => ?_)
      · have h := z_ie c6 h
        refine r_aload_n X 0 rfl dX6_destroy_48 49 rfl ?_
        refine r_get (v := .ref (b + (t0 + 1))) X ht0 rfl zv_X6 zi_X6 rfl kf_X6_12 rfl rfl dX6_destroy_49 52 rfl ?_
        refine r_aload_n X 2 rfl dX6_destroy_52 53 rfl ?_
        refine r_getN (v := .ref (b + (x2 + 1))) X hk2 rfl zv_X0 zi_X0 rfl kf_X6_30 rfl rfl dX6_destroy_53 56 rfl ?_
        obtain ⟨M7, e7, h⟩ := z_bd h
        refine r_callVN (rest := []) X (tX5_clear hl G b (t0 + 1) (zk_6_0 ht0) (x2 + 1) (zk_0_0 hk2) M e7) zy_X5_clear zw_X5_clear km_X6_204 (zk_6_0 ht0) rfl zv_X5 rfl ⟨rfl, rfl⟩ ⟨rfl, rfl⟩ rfl rfl (Nat.le_of_ble_eq_true rfl) ⟨Nat.zero_le _, Nat.zero_le _⟩ dX6_destroy_56 59 rfl [] rfl ?_
        refine r_aload_n X 2 rfl dX6_destroy_59 60 rfl ?_
        refine r_iconst (v := 0) X rfl dX6_destroy_60 61 rfl ?_
        obtain ⟨M8, e8, h⟩ := z_bd h
        obtain ⟨hn8, hf8, e8⟩ := z_pz_of e8
        refine r_putN X hk2 rfl zv_X0 zi_X0 rfl kf_X6_208 rfl tyX0_ok nmX0 rfl rfl hn8 hf8 rfl rfl e8.symm dX6_destroy_61 64 rfl ?_
        refine r_aload_n X 2 rfl dX6_destroy_64 65 rfl ?_
        refine r_iconst (v := (-1)) X rfl dX6_destroy_65 66 rfl ?_
        obtain ⟨M9, e9, h⟩ := z_bd h
        refine r_putN X hk2 rfl zv_X0 zi_X0 rfl kf_X6_185 rfl tyX0_ok nmX0 rfl rfl rfl rfl rfl rfl (Option.some.inj e9) dX6_destroy_66 69 rfl ?_
        refine r_aload_n X 0 rfl dX6_destroy_69 70 rfl ?_
        refine r_get (v := .ref (b + (t0 + 1))) X ht0 rfl zv_X6 zi_X6 rfl kf_X6_12 rfl rfl dX6_destroy_70 73 rfl ?_
        obtain ⟨x10, M11, e11, h⟩ := z_bd2 h
        refine r_callVN (rest := []) X (tX5_settle hl G b (t0 + 1) (zk_6_0 ht0) M9 e11) zy_X5_settle zw_X5_settle km_X6_86 (zk_6_0 ht0) rfl zv_X5 rfl ⟨rfl, rfl⟩ ⟨rfl, rfl⟩ rfl rfl (Nat.le_of_ble_eq_true rfl) ⟨Nat.zero_le _, Nat.zero_le _⟩ dX6_destroy_73 76 rfl [.int x10] rfl ?_
        cases h
        exact r_xiret X R rfl dX6_destroy_76
      · have h := z_it c6 h
        cases h
        exact r_throw X R ze_is (List.mem_of_getElem? (i := 11) rfl) rfl rfl dX6_destroy_38 dX6_destroy_41 dX6_destroy_42 dX6_destroy_44 dX6_destroy_47
    · have h := z_ie c4 h
      cases h
      exact r_throw X R ze_is (List.mem_of_getElem? (i := 10) rfl) rfl rfl dX6_destroy_17 dX6_destroy_20 dX6_destroy_21 dX6_destroy_23 dX6_destroy_26
set_option maxRecDepth 100000 in
set_option maxHeartbeats 1000000 in
theorem tX6_countUses {l : Launch} (hl : l.stackTraces = false) (G : zG) (b : Nat) (t0 : Nat) (ht0 : z_kd t0 = 6) (a1 : Nat) (ha1 : z_kd a1 = 4) (M : zM) {M9 : zM} (h : fX6_countUses t0 a1 M = some M9) : z_MN l yX6_countUses cX6_countUses 4 none { frames := 1, cells := 0, slots := 0, locals := 23 } G b [.ref (b + t0), .ref (b + a1)] M none M9 := by
  refine z_met (own := RX6) hl (by decide) rfl rfl (fun Γ hΓ X R => ?_)
  subst hΓ
  show GW Γ G b 0 0 M 0 [(0, .ref (b + t0)), (1, .ref (b + a1))] []
  unfold fX6_countUses at h
  refine r_aload_n X 0 rfl dX6_countUses_0 1 rfl ?_
  refine r_get (v := .ref (b + (t0 + 168))) X ht0 rfl zv_X6 zi_X6 rfl kf_X6_23 rfl rfl dX6_countUses_1 4 rfl ?_
  refine r_iconst (v := 0) X rfl dX6_countUses_4 5 rfl ?_
  obtain ⟨M1, e1, h⟩ := z_bd h
  refine r_fill (v := 0) X (zk_6_3 ht0) (zn_6_3 ht0) km_X6_294 (by decide) ⟨rfl, rfl⟩ (Option.some.inj e1) ⟨Nat.zero_le _, Nat.zero_le _⟩ (Nat.le_of_ble_eq_true rfl) dX6_countUses_5 8 rfl ?_
  refine r_iconst (v := 0) X rfl dX6_countUses_8 9 rfl ?_
  refine r_istore_n X dX6_countUses_9 10 rfl [(0, .ref (b + t0)), (1, .ref (b + a1)), (2, .int 0)] (by decide) [1, 2, 0] rfl ?_
  obtain ⟨M4, hL5, h⟩ := z_bd h
  have hK5 : GW Γ G b 0 0 M4 52 [] [] := by
    cases h
    exact r_vret X R dX6_countUses_52
  clear h
  refine z_loopP (fun (s : (Int32 × zM)) => GW Γ G b 0 0 s.2 10 [(0, .ref (b + t0)), (1, .ref (b + a1)), (2, .int s.1)] []) (fun s q5 hb hP5 hx5 => ?_) _ _ hL5
  obtain ⟨x2, M3⟩ := s
  have h : fX6_countUses_L1 t0 a1 x2 M3 = some q5 := hb
  unfold fX6_countUses_L1 at h
  refine r_iload_n X 2 rfl dX6_countUses_10 11 rfl ?_
  refine r_sipush (v := 128) X rfl dX6_countUses_11 14 rfl ?_
  refine r_icmp_ge X dX6_countUses_14 52 (by decide) 17 rfl (fun c6 => ?_) (fun c6 => ?_)
  · have h := z_it c6 h
    refine r_sub [] [] rfl ?_
    have e := hx5 _ (Option.some.inj h).symm
    cases e
    exact hK5
  · have h := z_ie c6 h
    refine r_aload_n X 1 rfl dX6_countUses_17 18 rfl ?_
    refine r_iload_n X 2 rfl dX6_countUses_18 19 rfl ?_
    obtain ⟨x7, e7, h⟩ := z_bd h
    refine r_callVN (rest := []) X (tX4_blockOf hl G b a1 ha1 x2 M3 e7) zy_X4_blockOf zw_X4_blockOf km_X6_40 ha1 rfl zv_X4 rfl ⟨rfl, rfl⟩ ⟨rfl, rfl⟩ rfl rfl (Nat.le_of_ble_eq_true rfl) ⟨Nat.zero_le _, Nat.zero_le _⟩ dX6_countUses_19 22 rfl [.int x7] rfl ?_
    refine r_istore_n X dX6_countUses_22 23 rfl [(0, .ref (b + t0)), (1, .ref (b + a1)), (2, .int x2), (3, .int x7)] (by decide) [1, 2, 3, 0] rfl ?_
    refine r_iload_n X 3 rfl dX6_countUses_23 24 rfl ?_
    refine r_if_lt X dX6_countUses_24 46 (by decide) 27 rfl (fun c8 => ?_) (fun c8 => ?_)
    · have h := z_it c8 h
      refine r_iinc X dX6_countUses_46 49 rfl [(0, .ref (b + t0)), (1, .ref (b + a1)), (2, .int (x2 + 1))] (by decide) 2 rfl (x2 + 1) rfl [1, 2, 0] rfl ?_
      refine r_goto X dX6_countUses_49 10 (by decide) ?_
      exact hP5 ((x2 + 1), M3) (Option.some.inj h).symm
    · have h := z_ie c8 h
      refine r_iload_n X 3 rfl dX6_countUses_27 28 rfl ?_
      refine r_aload_n X 0 rfl dX6_countUses_28 29 rfl ?_
      refine r_get (v := .ref (b + (t0 + 168))) X ht0 rfl zv_X6 zi_X6 rfl kf_X6_23 rfl rfl dX6_countUses_29 32 rfl ?_
      refine r_alen (v := 128) X (zk_6_3 ht0) rfl (z_lt rfl (zk_6_3 ht0)) (zn_6_3 ht0) rfl rfl rfl dX6_countUses_32 33 rfl ?_
      refine r_icmp_ge X dX6_countUses_33 46 (by decide) 36 rfl (fun c9 => ?_) (fun c9 => ?_)
      · have h := z_it c9 h
        refine r_iinc X dX6_countUses_46 49 rfl [(0, .ref (b + t0)), (1, .ref (b + a1)), (2, .int (x2 + 1))] (by decide) 2 rfl (x2 + 1) rfl [1, 2, 0] rfl ?_
        refine r_goto X dX6_countUses_49 10 (by decide) ?_
        exact hP5 ((x2 + 1), M3) (Option.some.inj h).symm
      · have h := z_ie c9 h
        refine r_aload_n X 0 rfl dX6_countUses_36 37 rfl ?_
        refine r_get (v := .ref (b + (t0 + 168))) X ht0 rfl zv_X6 zi_X6 rfl kf_X6_23 rfl rfl dX6_countUses_37 40 rfl ?_
        refine r_iload_n X 3 rfl dX6_countUses_40 41 rfl ?_
        refine r_dup2 X rfl rfl dX6_countUses_41 42 rfl ?_
        obtain ⟨x10, e10, h⟩ := z_bd h
        refine r_iaload X (zk_6_3 ht0) (zn_6_3 ht0) e10 dX6_countUses_42 43 rfl ?_
        refine r_iconst (v := 1) X rfl dX6_countUses_43 44 rfl ?_
        refine r_iadd X dX6_countUses_44 45 rfl ?_
        obtain ⟨M11, e11, h⟩ := z_bd h
        refine r_iastore X (zk_6_3 ht0) (zn_6_3 ht0) e11 dX6_countUses_45 46 rfl ?_
        refine r_iinc X dX6_countUses_46 49 rfl [(0, .ref (b + t0)), (1, .ref (b + a1)), (2, .int (x2 + 1))] (by decide) 2 rfl (x2 + 1) rfl [1, 2, 0] rfl ?_
        refine r_goto X dX6_countUses_49 10 (by decide) ?_
        exact hP5 ((x2 + 1), M11) (Option.some.inj h).symm
set_option maxRecDepth 100000 in
set_option maxHeartbeats 1000000 in
theorem tX6_referenced {l : Launch} (hl : l.stackTraces = false) (G : zG) (b : Nat) (t0 : Nat) (ht0 : z_kd t0 = 6) (a1 : Int32) (M : zM) {r9 : String ⊕ Int32} {M9 : zM} (h : fX6_referenced t0 a1 M = some (r9, M9)) : z_MX l yX6_referenced cX6_referenced 4 (some .int) 7 112 G b [.ref (b + t0), .int a1] M (z_oi r9) M9 := by
  refine z_metx (own := RX6) hl (by decide) rfl rfl (fun Γ hΓ X R => ?_)
  subst hΓ
  show GW Γ G b 0 0 M 0 [(0, .ref (b + t0)), (1, .int a1)] []
  unfold fX6_referenced at h
  refine r_aload_n X 0 rfl dX6_referenced_0 1 rfl ?_
  refine r_aload_n X 0 rfl dX6_referenced_1 2 rfl ?_
  refine r_iload_n X 1 rfl dX6_referenced_2 3 rfl ?_
  obtain ⟨o1, e1, h⟩ := z_bd h
  cases o1 with
  | inl E9 =>
    have h := z_oxl h
    cases h
    exact r_xthrV (rest := [.ref (b + t0)]) X R (tX6_datasetOrThrow hl G b t0 ht0 a1 M (r9 := .inl E9) e1) zy_X6_datasetOrThrow zw_X6_datasetOrThrow km_X6_26 ht0 rfl zv_X6 rfl ⟨rfl, rfl⟩ rfl rfl (Nat.le_of_ble_eq_true rfl) dX6_referenced_3
  | inr x2 =>
    have h := z_oxr h
    obtain ⟨hk2, h⟩ := z_gd_of h
    refine r_callV (rest := [.ref (b + t0)]) X (z_MX_ret (tX6_datasetOrThrow hl G b t0 ht0 a1 M (r9 := .inr x2) e1)) zy_X6_datasetOrThrow zw_X6_datasetOrThrow km_X6_26 ht0 rfl zv_X6 rfl ⟨rfl, rfl⟩ ⟨rfl, rfl⟩ rfl rfl (Nat.le_of_ble_eq_true rfl) ⟨Nat.zero_le _, Nat.zero_le _⟩ dX6_referenced_3 6 rfl [.ref (b + x2), .ref (b + t0)] rfl ?_
    refine r_getN (v := .ref (b + (x2 + 1))) X hk2 rfl zv_X0 zi_X0 rfl kf_X6_30 rfl rfl dX6_referenced_6 9 rfl ?_
    obtain ⟨M3, e3, h⟩ := z_bd h
    refine r_callV (rest := []) X (tX6_countUses hl G b t0 ht0 (x2 + 1) (zk_0_0 hk2) M e3) zy_X6_countUses zw_X6_countUses km_X6_212 ht0 rfl zv_X6 rfl ⟨rfl, rfl⟩ ⟨rfl, rfl⟩ rfl rfl (Nat.le_of_ble_eq_true rfl) ⟨Nat.zero_le _, Nat.zero_le _⟩ dX6_referenced_9 12 rfl [] rfl ?_
    refine r_iconst (v := 0) X rfl dX6_referenced_12 13 rfl ?_
    refine r_istore_n X dX6_referenced_13 14 rfl [(0, .ref (b + t0)), (2, .int 0)] (by decide) [1, 0] rfl ?_
    refine r_iconst (v := 0) X rfl dX6_referenced_14 15 rfl ?_
    refine r_istore_n X dX6_referenced_15 16 rfl [(0, .ref (b + t0)), (2, .int 0), (3, .int 0)] (by decide) [1, 2, 0] rfl ?_
    obtain ⟨x6, hL7, h⟩ := z_bd h
    have hK7 : GW Γ G b 0 0 M3 43 [(2, .int x6)] [] := by
      refine r_iload_n X 0 rfl dX6_referenced_43 44 rfl ?_
      cases h
      exact r_xiret X R rfl dX6_referenced_44
    clear h
    refine z_loopP (fun (s : (Int32 × Int32)) => GW Γ G b 0 0 M3 16 [(0, .ref (b + t0)), (2, .int s.1), (3, .int s.2)] []) (fun s q7 hb hP7 hx7 => ?_) _ _ hL7
    obtain ⟨x4, x5⟩ := s
    have h : fX6_referenced_L1 t0 M3 x4 x5 = some q7 := hb
    unfold fX6_referenced_L1 at h
    refine r_iload_n X 2 rfl dX6_referenced_16 17 rfl ?_
    refine r_aload_n X 0 rfl dX6_referenced_17 18 rfl ?_
    refine r_get (v := .ref (b + (t0 + 168))) X ht0 rfl zv_X6 zi_X6 rfl kf_X6_23 rfl rfl dX6_referenced_18 21 rfl ?_
    refine r_alen (v := 128) X (zk_6_3 ht0) rfl (z_lt rfl (zk_6_3 ht0)) (zn_6_3 ht0) rfl rfl rfl dX6_referenced_21 22 rfl ?_
    refine r_icmp_ge X dX6_referenced_22 43 (by decide) 25 rfl (fun c8 => ?_) (fun c8 => ?_)
    · have h := z_it c8 h
      refine r_sub [(2, .int x4)] [1] rfl ?_
      have e := hx7 _ (Option.some.inj h).symm
      cases e
      exact hK7
    · have h := z_ie c8 h
      refine r_aload_n X 0 rfl dX6_referenced_25 26 rfl ?_
      refine r_get (v := .ref (b + (t0 + 168))) X ht0 rfl zv_X6 zi_X6 rfl kf_X6_23 rfl rfl dX6_referenced_26 29 rfl ?_
      refine r_iload_n X 2 rfl dX6_referenced_29 30 rfl ?_
      obtain ⟨x9, e9, h⟩ := z_bd h
      refine r_iaload X (zk_6_3 ht0) (zn_6_3 ht0) e9 dX6_referenced_30 31 rfl ?_
      refine r_if_le X dX6_referenced_31 37 (by decide) 34 rfl (fun c10 => ?_) (fun c10 => ?_)
      · have h := z_it c10 h
        refine r_iinc X dX6_referenced_37 40 rfl [(0, .ref (b + t0)), (2, .int x4), (3, .int (x5 + 1))] (by decide) 2 rfl (x5 + 1) rfl [1, 2, 0] rfl ?_
        refine r_goto X dX6_referenced_40 16 (by decide) ?_
        exact hP7 (x4, (x5 + 1)) (Option.some.inj h).symm
      · have h := z_ie c10 h
        refine r_iinc X dX6_referenced_34 37 rfl [(0, .ref (b + t0)), (2, .int (x4 + 1)), (3, .int x5)] (by decide) 1 rfl (x4 + 1) rfl [1, 0, 2] rfl ?_
        refine r_iinc X dX6_referenced_37 40 rfl [(0, .ref (b + t0)), (2, .int (x4 + 1)), (3, .int (x5 + 1))] (by decide) 2 rfl (x5 + 1) rfl [1, 2, 0] rfl ?_
        refine r_goto X dX6_referenced_40 16 (by decide) ?_
        exact hP7 ((x4 + 1), (x5 + 1)) (Option.some.inj h).symm
set_option maxRecDepth 100000 in
set_option maxHeartbeats 1000000 in
theorem tX6_countOwn {l : Launch} (hl : l.stackTraces = false) (G : zG) (b : Nat) (t0 : Nat) (ht0 : z_kd t0 = 6) (a1 : Nat) (ha1 : z_kd a1 = 4) (M : zM) {r9 : Int32} {M9 : zM} (h : fX6_countOwn t0 a1 M = some (r9, M9)) : z_MN l yX6_countOwn cX6_countOwn 4 (some .int) { frames := 2, cells := 0, slots := 0, locals := 46 } G b [.ref (b + t0), .ref (b + a1)] M (some (.int r9)) M9 := by
  refine z_met (own := RX6) hl (by decide) rfl rfl (fun Γ hΓ X R => ?_)
  subst hΓ
  show GW Γ G b 0 0 M 0 [(0, .ref (b + t0)), (1, .ref (b + a1))] []
  unfold fX6_countOwn at h
  refine r_aload_n X 0 rfl dX6_countOwn_0 1 rfl ?_
  refine r_aload_n X 1 rfl dX6_countOwn_1 2 rfl ?_
  obtain ⟨M1, e1, h⟩ := z_bd h
  refine r_callV (rest := []) X (tX6_countUses hl G b t0 ht0 a1 ha1 M e1) zy_X6_countUses zw_X6_countUses km_X6_212 ht0 rfl zv_X6 rfl ⟨rfl, rfl⟩ ⟨rfl, rfl⟩ rfl rfl (Nat.le_of_ble_eq_true rfl) ⟨Nat.zero_le _, Nat.zero_le _⟩ dX6_countOwn_2 5 rfl [] rfl ?_
  refine r_iconst (v := 0) X rfl dX6_countOwn_5 6 rfl ?_
  refine r_istore_n X dX6_countOwn_6 7 rfl [(0, .ref (b + t0)), (2, .int 0)] (by decide) [1, 0] rfl ?_
  refine r_iconst (v := 0) X rfl dX6_countOwn_7 8 rfl ?_
  refine r_istore_n X dX6_countOwn_8 9 rfl [(0, .ref (b + t0)), (2, .int 0), (3, .int 0)] (by decide) [1, 2, 0] rfl ?_
  obtain ⟨x4, hL5, h⟩ := z_bd h
  have hK5 : GW Γ G b 0 0 M1 56 [(2, .int x4)] [] := by
    refine r_iload_n X 0 rfl dX6_countOwn_56 57 rfl ?_
    cases h
    exact r_iret X R rfl dX6_countOwn_57
  clear h
  refine z_loopP (fun (s : (Int32 × Int32)) => GW Γ G b 0 0 M1 9 [(0, .ref (b + t0)), (2, .int s.1), (3, .int s.2)] []) (fun s q5 hb hP5 hx5 => ?_) _ _ hL5
  obtain ⟨x2, x3⟩ := s
  have h : fX6_countOwn_L1 t0 M1 x2 x3 = some q5 := hb
  unfold fX6_countOwn_L1 at h
  refine r_iload_n X 2 rfl dX6_countOwn_9 10 rfl ?_
  refine r_aload_n X 0 rfl dX6_countOwn_10 11 rfl ?_
  refine r_get (v := .ref (b + (t0 + 168))) X ht0 rfl zv_X6 zi_X6 rfl kf_X6_23 rfl rfl dX6_countOwn_11 14 rfl ?_
  refine r_alen (v := 128) X (zk_6_3 ht0) rfl (z_lt rfl (zk_6_3 ht0)) (zn_6_3 ht0) rfl rfl rfl dX6_countOwn_14 15 rfl ?_
  refine r_icmp_ge X dX6_countOwn_15 56 (by decide) 18 rfl (fun c6 => ?_) (fun c6 => ?_)
  · have h := z_it c6 h
    refine r_sub [(2, .int x2)] [1] rfl ?_
    have e := hx5 _ (Option.some.inj h).symm
    cases e
    exact hK5
  · have h := z_ie c6 h
    refine r_aload_n X 0 rfl dX6_countOwn_18 19 rfl ?_
    refine r_get (v := .ref (b + (t0 + 168))) X ht0 rfl zv_X6 zi_X6 rfl kf_X6_23 rfl rfl dX6_countOwn_19 22 rfl ?_
    refine r_iload_n X 2 rfl dX6_countOwn_22 23 rfl ?_
    obtain ⟨x7, e7, h⟩ := z_bd h
    refine r_iaload X (zk_6_3 ht0) (zn_6_3 ht0) e7 dX6_countOwn_23 24 rfl ?_
    refine r_if_le X dX6_countOwn_24 50 (by decide) 27 rfl (fun c8 => ?_) (fun c8 => ?_)
    · have h := z_it c8 h
      refine r_iinc X dX6_countOwn_50 53 rfl [(0, .ref (b + t0)), (2, .int x2), (3, .int (x3 + 1))] (by decide) 2 rfl (x3 + 1) rfl [1, 2, 0] rfl ?_
      refine r_goto X dX6_countOwn_53 9 (by decide) ?_
      exact hP5 (x2, (x3 + 1)) (Option.some.inj h).symm
    · have h := z_ie c8 h
      refine r_aload_n X 0 rfl dX6_countOwn_27 28 rfl ?_
      refine r_get (v := .ref (b + (t0 + 168))) X ht0 rfl zv_X6 zi_X6 rfl kf_X6_23 rfl rfl dX6_countOwn_28 31 rfl ?_
      refine r_iload_n X 2 rfl dX6_countOwn_31 32 rfl ?_
      obtain ⟨x9, e9, h⟩ := z_bd h
      refine r_iaload X (zk_6_3 ht0) (zn_6_3 ht0) e9 dX6_countOwn_32 33 rfl ?_
      refine r_aload_n X 0 rfl dX6_countOwn_33 34 rfl ?_
      refine r_get (v := .ref (b + (t0 + 1))) X ht0 rfl zv_X6 zi_X6 rfl kf_X6_12 rfl rfl dX6_countOwn_34 37 rfl ?_
      refine r_getN (v := .ref (b + ((t0 + 1) + 3))) X (zk_6_0 ht0) rfl zv_X5 zi_X5 rfl kf_X6_46 rfl rfl dX6_countOwn_37 40 rfl ?_
      refine r_iload_n X 2 rfl dX6_countOwn_40 41 rfl ?_
      obtain ⟨x10, e10, h⟩ := z_bd h
      refine r_callVN (rest := [.int x9]) X (tX3_usesOf hl G b ((t0 + 1) + 3) (zk_5_2 (zk_6_0 ht0)) x3 M1 e10) zy_X3_usesOf zw_X3_usesOf km_X6_60 (zk_5_2 (zk_6_0 ht0)) rfl zv_X3 rfl ⟨rfl, rfl⟩ ⟨rfl, rfl⟩ rfl rfl (Nat.le_of_ble_eq_true rfl) ⟨Nat.zero_le _, Nat.zero_le _⟩ dX6_countOwn_41 44 rfl [.int x10, .int x9] rfl ?_
      refine r_icmp_ne X dX6_countOwn_44 50 (by decide) 47 rfl (fun c11 => ?_) (fun c11 => ?_)
      · have h := z_ie c11 h
        refine r_iinc X dX6_countOwn_50 53 rfl [(0, .ref (b + t0)), (2, .int x2), (3, .int (x3 + 1))] (by decide) 2 rfl (x3 + 1) rfl [1, 2, 0] rfl ?_
        refine r_goto X dX6_countOwn_53 9 (by decide) ?_
        exact hP5 (x2, (x3 + 1)) (Option.some.inj h).symm
      · have h := z_it c11 h
        refine r_iinc X dX6_countOwn_47 50 rfl [(0, .ref (b + t0)), (2, .int (x2 + 1)), (3, .int x3)] (by decide) 1 rfl (x2 + 1) rfl [1, 0, 2] rfl ?_
        refine r_iinc X dX6_countOwn_50 53 rfl [(0, .ref (b + t0)), (2, .int (x2 + 1)), (3, .int (x3 + 1))] (by decide) 2 rfl (x3 + 1) rfl [1, 2, 0] rfl ?_
        refine r_goto X dX6_countOwn_53 9 (by decide) ?_
        exact hP5 ((x2 + 1), (x3 + 1)) (Option.some.inj h).symm
set_option maxRecDepth 100000 in
set_option maxHeartbeats 1000000 in
theorem tX6_unique {l : Launch} (hl : l.stackTraces = false) (G : zG) (b : Nat) (t0 : Nat) (ht0 : z_kd t0 = 6) (a1 : Int32) (M : zM) {r9 : String ⊕ Int32} {M9 : zM} (h : fX6_unique t0 a1 M = some (r9, M9)) : z_MX l yX6_unique cX6_unique 2 (some .int) 7 112 G b [.ref (b + t0), .int a1] M (z_oi r9) M9 := by
  refine z_metx (own := RX6) hl (by decide) rfl rfl (fun Γ hΓ X R => ?_)
  subst hΓ
  show GW Γ G b 0 0 M 0 [(0, .ref (b + t0)), (1, .int a1)] []
  unfold fX6_unique at h
  refine r_aload_n X 0 rfl dX6_unique_0 1 rfl ?_
  refine r_aload_n X 0 rfl dX6_unique_1 2 rfl ?_
  refine r_iload_n X 1 rfl dX6_unique_2 3 rfl ?_
  obtain ⟨o1, e1, h⟩ := z_bd h
  cases o1 with
  | inl E9 =>
    have h := z_oxl h
    cases h
    exact r_xthrV (rest := [.ref (b + t0)]) X R (tX6_datasetOrThrow hl G b t0 ht0 a1 M (r9 := .inl E9) e1) zy_X6_datasetOrThrow zw_X6_datasetOrThrow km_X6_26 ht0 rfl zv_X6 rfl ⟨rfl, rfl⟩ rfl rfl (Nat.le_of_ble_eq_true rfl) dX6_unique_3
  | inr x2 =>
    have h := z_oxr h
    obtain ⟨hk2, h⟩ := z_gd_of h
    refine r_callV (rest := [.ref (b + t0)]) X (z_MX_ret (tX6_datasetOrThrow hl G b t0 ht0 a1 M (r9 := .inr x2) e1)) zy_X6_datasetOrThrow zw_X6_datasetOrThrow km_X6_26 ht0 rfl zv_X6 rfl ⟨rfl, rfl⟩ ⟨rfl, rfl⟩ rfl rfl (Nat.le_of_ble_eq_true rfl) ⟨Nat.zero_le _, Nat.zero_le _⟩ dX6_unique_3 6 rfl [.ref (b + x2), .ref (b + t0)] rfl ?_
    refine r_getN (v := .ref (b + (x2 + 1))) X hk2 rfl zv_X0 zi_X0 rfl kf_X6_30 rfl rfl dX6_unique_6 9 rfl ?_
    obtain ⟨x3, M4, e4, h⟩ := z_bd2 h
    refine r_callV (rest := []) X (tX6_countOwn hl G b t0 ht0 (x2 + 1) (zk_0_0 hk2) M e4) zy_X6_countOwn zw_X6_countOwn km_X6_215 ht0 rfl zv_X6 rfl ⟨rfl, rfl⟩ ⟨rfl, rfl⟩ rfl rfl (Nat.le_of_ble_eq_true rfl) ⟨Nat.zero_le _, Nat.zero_le _⟩ dX6_unique_9 12 rfl [.int x3] rfl ?_
    cases h
    exact r_xiret X R rfl dX6_unique_12
set_option maxRecDepth 100000 in
set_option maxHeartbeats 1000000 in
theorem tX6_uniqueOfSnapshot {l : Launch} (hl : l.stackTraces = false) (G : zG) (b : Nat) (t0 : Nat) (ht0 : z_kd t0 = 6) (a1 : Int32) (M : zM) {r9 : String ⊕ Int32} {M9 : zM} (h : fX6_uniqueOfSnapshot t0 a1 M = some (r9, M9)) : z_MX l yX6_uniqueOfSnapshot cX6_uniqueOfSnapshot 2 (some .int) 7 112 G b [.ref (b + t0), .int a1] M (z_oi r9) M9 := by
  refine z_metx (own := RX6) hl (by decide) rfl rfl (fun Γ hΓ X R => ?_)
  subst hΓ
  show GW Γ G b 0 0 M 0 [(0, .ref (b + t0)), (1, .int a1)] []
  unfold fX6_uniqueOfSnapshot at h
  refine r_aload_n X 0 rfl dX6_uniqueOfSnapshot_0 1 rfl ?_
  refine r_aload_n X 0 rfl dX6_uniqueOfSnapshot_1 2 rfl ?_
  refine r_iload_n X 1 rfl dX6_uniqueOfSnapshot_2 3 rfl ?_
  obtain ⟨o1, e1, h⟩ := z_bd h
  cases o1 with
  | inl E9 =>
    have h := z_oxl h
    cases h
    exact r_xthrV (rest := [.ref (b + t0)]) X R (tX6_snapshotOrThrow hl G b t0 ht0 a1 M (r9 := .inl E9) e1) zy_X6_snapshotOrThrow zw_X6_snapshotOrThrow km_X6_124 ht0 rfl zv_X6 rfl ⟨rfl, rfl⟩ rfl rfl (Nat.le_of_ble_eq_true rfl) dX6_uniqueOfSnapshot_3
  | inr x2 =>
    have h := z_oxr h
    obtain ⟨hk2, h⟩ := z_gd_of h
    refine r_callV (rest := [.ref (b + t0)]) X (z_MX_ret (tX6_snapshotOrThrow hl G b t0 ht0 a1 M (r9 := .inr x2) e1)) zy_X6_snapshotOrThrow zw_X6_snapshotOrThrow km_X6_124 ht0 rfl zv_X6 rfl ⟨rfl, rfl⟩ ⟨rfl, rfl⟩ rfl rfl (Nat.le_of_ble_eq_true rfl) ⟨Nat.zero_le _, Nat.zero_le _⟩ dX6_uniqueOfSnapshot_3 6 rfl [.ref (b + x2), .ref (b + t0)] rfl ?_
    refine r_getN (v := .ref (b + (x2 + 1))) X hk2 rfl zv_X2 zi_X2 rfl kf_X6_128 rfl rfl dX6_uniqueOfSnapshot_6 9 rfl ?_
    obtain ⟨x3, M4, e4, h⟩ := z_bd2 h
    refine r_callV (rest := []) X (tX6_countOwn hl G b t0 ht0 (x2 + 1) (zk_2_0 hk2) M e4) zy_X6_countOwn zw_X6_countOwn km_X6_215 ht0 rfl zv_X6 rfl ⟨rfl, rfl⟩ ⟨rfl, rfl⟩ rfl rfl (Nat.le_of_ble_eq_true rfl) ⟨Nat.zero_le _, Nat.zero_le _⟩ dX6_uniqueOfSnapshot_9 12 rfl [.int x3] rfl ?_
    cases h
    exact r_xiret X R rfl dX6_uniqueOfSnapshot_12
set_option maxRecDepth 100000 in
set_option maxHeartbeats 1000000 in
theorem tX6_newer {l : Launch} (hl : l.stackTraces = false) (G : zG) (b : Nat) (t0 : Nat) (ht0 : z_kd t0 = 6) (a1 : Int32) (a2 : Int32) (M : zM) {r9 : String ⊕ Int32} (h : fX6_newer t0 a1 a2 M = some r9) : z_MX l yX6_newer cX6_newer 7 (some .int) 7 112 G b [.ref (b + t0), .int a1, .int a2] M (z_oi r9) M := by
  refine z_metx (own := RX6) hl (by decide) rfl rfl (fun Γ hΓ X R => ?_)
  subst hΓ
  show GW Γ G b 0 0 M 0 [(0, .ref (b + t0)), (1, .int a1), (2, .int a2)] []
  unfold fX6_newer at h
  refine r_aload_n X 0 rfl dX6_newer_0 1 rfl ?_
  refine r_iload_n X 1 rfl dX6_newer_1 2 rfl ?_
  obtain ⟨o1, e1, h⟩ := z_bd h
  cases o1 with
  | inl E9 =>
    have h := z_oxl h
    cases h
    exact r_xthrV (rest := []) X R (tX6_datasetOrThrow hl G b t0 ht0 a1 M (r9 := .inl E9) e1) zy_X6_datasetOrThrow zw_X6_datasetOrThrow km_X6_26 ht0 rfl zv_X6 rfl ⟨rfl, rfl⟩ rfl rfl (Nat.le_of_ble_eq_true rfl) dX6_newer_2
  | inr x2 =>
    have h := z_oxr h
    obtain ⟨hk2, h⟩ := z_gd_of h
    refine r_callV (rest := []) X (z_MX_ret (tX6_datasetOrThrow hl G b t0 ht0 a1 M (r9 := .inr x2) e1)) zy_X6_datasetOrThrow zw_X6_datasetOrThrow km_X6_26 ht0 rfl zv_X6 rfl ⟨rfl, rfl⟩ ⟨rfl, rfl⟩ rfl rfl (Nat.le_of_ble_eq_true rfl) ⟨Nat.zero_le _, Nat.zero_le _⟩ dX6_newer_2 5 rfl [.ref (b + x2)] rfl ?_
    refine r_getN (v := .ref (b + (x2 + 1))) X hk2 rfl zv_X0 zi_X0 rfl kf_X6_30 rfl rfl dX6_newer_5 8 rfl ?_
    refine r_astore_n X dX6_newer_8 9 rfl [(0, .ref (b + t0)), (2, .int a2), (3, .ref (b + (x2 + 1)))] (by decide) [1, 3, 0] rfl ?_
    refine r_iconst (v := 0) X rfl dX6_newer_9 10 rfl ?_
    refine r_istore X dX6_newer_10 12 rfl [(0, .ref (b + t0)), (2, .int a2), (3, .ref (b + (x2 + 1))), (4, .int 0)] (by decide) [1, 2, 3, 0] rfl ?_
    refine r_iconst (v := 0) X rfl dX6_newer_12 13 rfl ?_
    refine r_istore X dX6_newer_13 15 rfl [(0, .ref (b + t0)), (2, .int a2), (3, .ref (b + (x2 + 1))), (4, .int 0), (5, .int 0)] (by decide) [1, 2, 3, 4, 0] rfl ?_
    obtain ⟨x5, hL6, h⟩ := z_bd h
    have hK6 : GW Γ G b 0 0 M 62 [(4, .int x5)] [] := by
      refine r_iload X 0 rfl dX6_newer_62 64 rfl ?_
      cases h
      exact r_xiret X R rfl dX6_newer_64
    clear h
    refine z_loopP (fun (s : (Int32 × Int32)) => GW Γ G b 0 0 M 15 [(0, .ref (b + t0)), (2, .int a2), (3, .ref (b + (x2 + 1))), (4, .int s.1), (5, .int s.2)] []) (fun s q6 hb hP6 hx6 => ?_) _ _ hL6
    obtain ⟨x3, x4⟩ := s
    have h : fX6_newer_L1 t0 a2 M x2 x3 x4 = some q6 := hb
    unfold fX6_newer_L1 at h
    refine r_iload X 4 rfl dX6_newer_15 17 rfl ?_
    refine r_sipush (v := 128) X rfl dX6_newer_17 20 rfl ?_
    refine r_icmp_ge X dX6_newer_20 62 (by decide) 23 rfl (fun c7 => ?_) (fun c7 => ?_)
    · have h := z_it c7 h
      refine r_sub [(4, .int x3)] [3] rfl ?_
      have e := hx6 _ (Option.some.inj h).symm
      cases e
      exact hK6
    · have h := z_ie c7 h
      refine r_aload_n X 2 rfl dX6_newer_23 24 rfl ?_
      refine r_iload X 4 rfl dX6_newer_24 26 rfl ?_
      obtain ⟨x8, e8, h⟩ := z_bd h
      refine r_callVN (rest := []) X (tX4_blockOf hl G b (x2 + 1) (zk_0_0 hk2) x4 M e8) zy_X4_blockOf zw_X4_blockOf km_X6_40 (zk_0_0 hk2) rfl zv_X4 rfl ⟨rfl, rfl⟩ ⟨rfl, rfl⟩ rfl rfl (Nat.le_of_ble_eq_true rfl) ⟨Nat.zero_le _, Nat.zero_le _⟩ dX6_newer_26 29 rfl [.int x8] rfl ?_
      refine r_istore X dX6_newer_29 31 rfl [(0, .ref (b + t0)), (2, .int a2), (3, .ref (b + (x2 + 1))), (4, .int x3), (5, .int x4), (6, .int x8)] (by decide) [1, 2, 3, 4, 5, 0] rfl ?_
      refine r_iload X 5 rfl dX6_newer_31 33 rfl ?_
      refine r_iconst (v := (-1)) X rfl dX6_newer_33 34 rfl ?_
      refine r_icmp_eq X dX6_newer_34 56 (by decide) 37 rfl (fun c9 => ?_) (fun c9 => ?_)
      · have h := z_it c9 h
        refine r_iinc X dX6_newer_56 59 rfl [(0, .ref (b + t0)), (2, .int a2), (3, .ref (b + (x2 + 1))), (4, .int x3), (5, .int (x4 + 1))] (by decide) 4 rfl (x4 + 1) rfl [1, 2, 3, 4, 0] rfl ?_
        refine r_goto X dX6_newer_59 15 (by decide) ?_
        exact hP6 (x3, (x4 + 1)) (Option.some.inj h).symm
      · have h := z_ie c9 h
        refine r_aload_n X 0 rfl dX6_newer_37 38 rfl ?_
        refine r_get (v := .ref (b + (t0 + 1))) X ht0 rfl zv_X6 zi_X6 rfl kf_X6_12 rfl rfl dX6_newer_38 41 rfl ?_
        refine r_getN (v := .ref (b + ((t0 + 1) + 3))) X (zk_6_0 ht0) rfl zv_X5 zi_X5 rfl kf_X6_46 rfl rfl dX6_newer_41 44 rfl ?_
        refine r_iload X 5 rfl dX6_newer_44 46 rfl ?_
        obtain ⟨x10, e10, h⟩ := z_bd h
        refine r_callVN (rest := []) X (tX3_birthOf hl G b ((t0 + 1) + 3) (zk_5_2 (zk_6_0 ht0)) x8 M e10) zy_X3_birthOf zw_X3_birthOf km_X6_219 (zk_5_2 (zk_6_0 ht0)) rfl zv_X3 rfl ⟨rfl, rfl⟩ ⟨rfl, rfl⟩ rfl rfl (Nat.le_of_ble_eq_true rfl) ⟨Nat.zero_le _, Nat.zero_le _⟩ dX6_newer_46 49 rfl [.int x10] rfl ?_
        refine r_iload_n X 1 rfl dX6_newer_49 50 rfl ?_
        refine r_icmp_le X dX6_newer_50 56 (by decide) 53 rfl (fun c11 => ?_) (fun c11 => ?_)
        · have h := z_it c11 h
          refine r_iinc X dX6_newer_56 59 rfl [(0, .ref (b + t0)), (2, .int a2), (3, .ref (b + (x2 + 1))), (4, .int x3), (5, .int (x4 + 1))] (by decide) 4 rfl (x4 + 1) rfl [1, 2, 3, 4, 0] rfl ?_
          refine r_goto X dX6_newer_59 15 (by decide) ?_
          exact hP6 (x3, (x4 + 1)) (Option.some.inj h).symm
        · have h := z_ie c11 h
          refine r_iinc X dX6_newer_53 56 rfl [(0, .ref (b + t0)), (2, .int a2), (3, .ref (b + (x2 + 1))), (4, .int (x3 + 1)), (5, .int x4)] (by decide) 3 rfl (x3 + 1) rfl [1, 2, 3, 0, 4] rfl ?_
          refine r_iinc X dX6_newer_56 59 rfl [(0, .ref (b + t0)), (2, .int a2), (3, .ref (b + (x2 + 1))), (4, .int (x3 + 1)), (5, .int (x4 + 1))] (by decide) 4 rfl (x4 + 1) rfl [1, 2, 3, 4, 0] rfl ?_
          refine r_goto X dX6_newer_59 15 (by decide) ?_
          exact hP6 ((x3 + 1), (x4 + 1)) (Option.some.inj h).symm
set_option maxRecDepth 100000 in
set_option maxHeartbeats 1000000 in
theorem tX6_blockOrThrow {l : Launch} (hl : l.stackTraces = false) (G : zG) (b : Nat) (a0 : Int32) (M : zM) {r9 : String ⊕ Unit} (h : fX6_blockOrThrow a0 M = some r9) : z_MX l yX6_blockOrThrow cX6_blockOrThrow 1 none 6 90 G b [.int a0] M (z_ou r9) M := by
  refine z_metx (own := RX6) hl (by decide) rfl rfl (fun Γ hΓ X R => ?_)
  subst hΓ
  show GW Γ G b 0 0 M 0 [(0, .int a0)] []
  unfold fX6_blockOrThrow at h
  refine r_iload_n X 0 rfl dX6_blockOrThrow_0 1 rfl ?_
  refine r_if_lt X dX6_blockOrThrow_1 11 (by decide) 4 rfl (fun c1 => ?_) (fun c1 => ?_)
  · have h := z_it c1 h
    cases h
    exact r_throww X R ze_io (List.mem_of_getElem? (i := 17) rfl) rfl rfl dX6_blockOrThrow_11 dX6_blockOrThrow_14 dX6_blockOrThrow_15 dX6_blockOrThrow_18 dX6_blockOrThrow_21
  · have h := z_ie c1 h
    refine r_iload_n X 0 rfl dX6_blockOrThrow_4 5 rfl ?_
    refine r_sipush (v := 128) X rfl dX6_blockOrThrow_5 8 rfl ?_
    refine r_icmp_lt X dX6_blockOrThrow_8 22 (by decide) 11 rfl (fun c2 => ?_) (fun c2 => ?_)
    · have h := z_it c2 h
      cases h
      exact r_xvret X R dX6_blockOrThrow_22
    · have h := z_ie c2 h
      cases h
      exact r_throww X R ze_io (List.mem_of_getElem? (i := 17) rfl) rfl rfl dX6_blockOrThrow_11 dX6_blockOrThrow_14 dX6_blockOrThrow_15 dX6_blockOrThrow_18 dX6_blockOrThrow_21
set_option maxRecDepth 100000 in
set_option maxHeartbeats 1000000 in
theorem tX6_birth {l : Launch} (hl : l.stackTraces = false) (G : zG) (b : Nat) (t0 : Nat) (ht0 : z_kd t0 = 6) (a1 : Int32) (M : zM) {r9 : String ⊕ Int32} (h : fX6_birth t0 a1 M = some r9) : z_MX l yX6_birth cX6_birth 2 (some .int) 7 110 G b [.ref (b + t0), .int a1] M (z_oi r9) M := by
  refine z_metx (own := RX6) hl (by decide) rfl rfl (fun Γ hΓ X R => ?_)
  subst hΓ
  show GW Γ G b 0 0 M 0 [(0, .ref (b + t0)), (1, .int a1)] []
  unfold fX6_birth at h
  refine r_iload_n X 1 rfl dX6_birth_0 1 rfl ?_
  obtain ⟨o1, e1, h⟩ := z_bd h
  cases o1 with
  | inl E9 =>
    have h := z_oxl h
    cases h
    exact r_xthrS (rest := []) X R (tX6_blockOrThrow hl G b a1 M (r9 := .inl E9) e1) zy_X6_blockOrThrow zs_X6_blockOrThrow km_X6_222 rfl ⟨rfl, rfl⟩ rfl rfl (Nat.le_of_ble_eq_true rfl) dX6_birth_1
  | inr x2 =>
    have h := z_oxr h
    refine r_callS (rest := []) X (z_MX_ret (tX6_blockOrThrow hl G b a1 M (r9 := .inr x2) e1)) zy_X6_blockOrThrow zs_X6_blockOrThrow km_X6_222 rfl ⟨rfl, rfl⟩ ⟨rfl, rfl⟩ rfl rfl (Nat.le_of_ble_eq_true rfl) ⟨Nat.zero_le _, Nat.zero_le _⟩ dX6_birth_1 4 rfl [] rfl ?_
    refine r_aload_n X 0 rfl dX6_birth_4 5 rfl ?_
    refine r_get (v := .ref (b + (t0 + 1))) X ht0 rfl zv_X6 zi_X6 rfl kf_X6_12 rfl rfl dX6_birth_5 8 rfl ?_
    refine r_getN (v := .ref (b + ((t0 + 1) + 3))) X (zk_6_0 ht0) rfl zv_X5 zi_X5 rfl kf_X6_46 rfl rfl dX6_birth_8 11 rfl ?_
    refine r_iload_n X 1 rfl dX6_birth_11 12 rfl ?_
    obtain ⟨x3, e3, h⟩ := z_bd h
    refine r_callVN (rest := []) X (tX3_isAllocated hl G b ((t0 + 1) + 3) (zk_5_2 (zk_6_0 ht0)) a1 M e3) zy_X3_isAllocated zw_X3_isAllocated km_X6_226 (zk_5_2 (zk_6_0 ht0)) rfl zv_X3 rfl ⟨rfl, rfl⟩ ⟨rfl, rfl⟩ rfl rfl (Nat.le_of_ble_eq_true rfl) ⟨Nat.zero_le _, Nat.zero_le _⟩ dX6_birth_12 15 rfl [.int x3] rfl ?_
    refine r_if_ne X dX6_birth_15 28 (by decide) 18 rfl (fun c4 => ?_) (fun c4 => ?_)
    · have h := z_ie c4 h
      refine r_aload_n X 0 rfl dX6_birth_28 29 rfl ?_
      refine r_get (v := .ref (b + (t0 + 1))) X ht0 rfl zv_X6 zi_X6 rfl kf_X6_12 rfl rfl dX6_birth_29 32 rfl ?_
      refine r_getN (v := .ref (b + ((t0 + 1) + 3))) X (zk_6_0 ht0) rfl zv_X5 zi_X5 rfl kf_X6_46 rfl rfl dX6_birth_32 35 rfl ?_
      refine r_iload_n X 1 rfl dX6_birth_35 36 rfl ?_
      obtain ⟨x5, e5, h⟩ := z_bd h
      refine r_callVN (rest := []) X (tX3_birthOf hl G b ((t0 + 1) + 3) (zk_5_2 (zk_6_0 ht0)) a1 M e5) zy_X3_birthOf zw_X3_birthOf km_X6_219 (zk_5_2 (zk_6_0 ht0)) rfl zv_X3 rfl ⟨rfl, rfl⟩ ⟨rfl, rfl⟩ rfl rfl (Nat.le_of_ble_eq_true rfl) ⟨Nat.zero_le _, Nat.zero_le _⟩ dX6_birth_36 39 rfl [.int x5] rfl ?_
      cases h
      exact r_xiret X R rfl dX6_birth_39
    · have h := z_it c4 h
      cases h
      exact r_throw X R ze_is (List.mem_of_getElem? (i := 12) rfl) rfl rfl dX6_birth_18 dX6_birth_21 dX6_birth_22 dX6_birth_24 dX6_birth_27
set_option maxRecDepth 100000 in
set_option maxHeartbeats 1000000 in
theorem tX6_references {l : Launch} (hl : l.stackTraces = false) (G : zG) (b : Nat) (t0 : Nat) (ht0 : z_kd t0 = 6) (a1 : Int32) (M : zM) {r9 : String ⊕ Int32} (h : fX6_references t0 a1 M = some r9) : z_MX l yX6_references cX6_references 2 (some .int) 7 110 G b [.ref (b + t0), .int a1] M (z_oi r9) M := by
  refine z_metx (own := RX6) hl (by decide) rfl rfl (fun Γ hΓ X R => ?_)
  subst hΓ
  show GW Γ G b 0 0 M 0 [(0, .ref (b + t0)), (1, .int a1)] []
  unfold fX6_references at h
  refine r_iload_n X 1 rfl dX6_references_0 1 rfl ?_
  obtain ⟨o1, e1, h⟩ := z_bd h
  cases o1 with
  | inl E9 =>
    have h := z_oxl h
    cases h
    exact r_xthrS (rest := []) X R (tX6_blockOrThrow hl G b a1 M (r9 := .inl E9) e1) zy_X6_blockOrThrow zs_X6_blockOrThrow km_X6_222 rfl ⟨rfl, rfl⟩ rfl rfl (Nat.le_of_ble_eq_true rfl) dX6_references_1
  | inr x2 =>
    have h := z_oxr h
    refine r_callS (rest := []) X (z_MX_ret (tX6_blockOrThrow hl G b a1 M (r9 := .inr x2) e1)) zy_X6_blockOrThrow zs_X6_blockOrThrow km_X6_222 rfl ⟨rfl, rfl⟩ ⟨rfl, rfl⟩ rfl rfl (Nat.le_of_ble_eq_true rfl) ⟨Nat.zero_le _, Nat.zero_le _⟩ dX6_references_1 4 rfl [] rfl ?_
    refine r_aload_n X 0 rfl dX6_references_4 5 rfl ?_
    refine r_get (v := .ref (b + (t0 + 1))) X ht0 rfl zv_X6 zi_X6 rfl kf_X6_12 rfl rfl dX6_references_5 8 rfl ?_
    refine r_getN (v := .ref (b + ((t0 + 1) + 3))) X (zk_6_0 ht0) rfl zv_X5 zi_X5 rfl kf_X6_46 rfl rfl dX6_references_8 11 rfl ?_
    refine r_iload_n X 1 rfl dX6_references_11 12 rfl ?_
    obtain ⟨x3, e3, h⟩ := z_bd h
    refine r_callVN (rest := []) X (tX3_usesOf hl G b ((t0 + 1) + 3) (zk_5_2 (zk_6_0 ht0)) a1 M e3) zy_X3_usesOf zw_X3_usesOf km_X6_60 (zk_5_2 (zk_6_0 ht0)) rfl zv_X3 rfl ⟨rfl, rfl⟩ ⟨rfl, rfl⟩ rfl rfl (Nat.le_of_ble_eq_true rfl) ⟨Nat.zero_le _, Nat.zero_le _⟩ dX6_references_12 15 rfl [.int x3] rfl ?_
    cases h
    exact r_xiret X R rfl dX6_references_15
set_option maxRecDepth 100000 in
set_option maxHeartbeats 1000000 in
theorem tX6_free {l : Launch} (hl : l.stackTraces = false) (G : zG) (b : Nat) (t0 : Nat) (ht0 : z_kd t0 = 6) (M : zM) {r9 : Int32} (h : fX6_free t0 M = some r9) : z_MN l yX6_free cX6_free 1 (some .int) { frames := 2, cells := 0, slots := 0, locals := 45 } G b [.ref (b + t0)] M (some (.int r9)) M := by
  refine z_met (own := RX6) hl (by decide) rfl rfl (fun Γ hΓ X R => ?_)
  subst hΓ
  show GW Γ G b 0 0 M 0 [(0, .ref (b + t0))] []
  unfold fX6_free at h
  refine r_aload_n X 0 rfl dX6_free_0 1 rfl ?_
  refine r_get (v := .ref (b + (t0 + 1))) X ht0 rfl zv_X6 zi_X6 rfl kf_X6_12 rfl rfl dX6_free_1 4 rfl ?_
  refine r_getN (v := .ref (b + ((t0 + 1) + 3))) X (zk_6_0 ht0) rfl zv_X5 zi_X5 rfl kf_X6_46 rfl rfl dX6_free_4 7 rfl ?_
  refine r_iconst (v := 0) X rfl dX6_free_7 8 rfl ?_
  refine r_iconst (v := 0) X rfl dX6_free_8 9 rfl ?_
  refine r_sipush (v := 128) X rfl dX6_free_9 12 rfl ?_
  obtain ⟨x1, e1, h⟩ := z_bd h
  refine r_callVN (rest := []) X (tX3_count hl G b ((t0 + 1) + 3) (zk_5_2 (zk_6_0 ht0)) 0 0 128 M e1) zy_X3_count zw_X3_count km_X6_231 (zk_5_2 (zk_6_0 ht0)) rfl zv_X3 rfl ⟨rfl, rfl⟩ ⟨rfl, rfl⟩ rfl rfl (Nat.le_of_ble_eq_true rfl) ⟨Nat.zero_le _, Nat.zero_le _⟩ dX6_free_12 15 rfl [.int x1] rfl ?_
  cases h
  exact r_iret X R rfl dX6_free_15
set_option maxRecDepth 100000 in
set_option maxHeartbeats 1000000 in
theorem tX6_pending {l : Launch} (hl : l.stackTraces = false) (G : zG) (b : Nat) (t0 : Nat) (ht0 : z_kd t0 = 6) (M : zM) {r9 : Int32} (h : fX6_pending t0 M = some r9) : z_MN l yX6_pending cX6_pending 1 (some .int) { frames := 2, cells := 0, slots := 0, locals := 45 } G b [.ref (b + t0)] M (some (.int r9)) M := by
  refine z_met (own := RX6) hl (by decide) rfl rfl (fun Γ hΓ X R => ?_)
  subst hΓ
  show GW Γ G b 0 0 M 0 [(0, .ref (b + t0))] []
  unfold fX6_pending at h
  refine r_aload_n X 0 rfl dX6_pending_0 1 rfl ?_
  refine r_get (v := .ref (b + (t0 + 1))) X ht0 rfl zv_X6 zi_X6 rfl kf_X6_12 rfl rfl dX6_pending_1 4 rfl ?_
  refine r_getN (v := .ref (b + ((t0 + 1) + 3))) X (zk_6_0 ht0) rfl zv_X5 zi_X5 rfl kf_X6_46 rfl rfl dX6_pending_4 7 rfl ?_
  refine r_iconst (v := 2) X rfl dX6_pending_7 8 rfl ?_
  refine r_iconst (v := 0) X rfl dX6_pending_8 9 rfl ?_
  refine r_sipush (v := 128) X rfl dX6_pending_9 12 rfl ?_
  obtain ⟨x1, e1, h⟩ := z_bd h
  refine r_callVN (rest := []) X (tX3_count hl G b ((t0 + 1) + 3) (zk_5_2 (zk_6_0 ht0)) 2 0 128 M e1) zy_X3_count zw_X3_count km_X6_231 (zk_5_2 (zk_6_0 ht0)) rfl zv_X3 rfl ⟨rfl, rfl⟩ ⟨rfl, rfl⟩ rfl rfl (Nat.le_of_ble_eq_true rfl) ⟨Nat.zero_le _, Nat.zero_le _⟩ dX6_pending_12 15 rfl [.int x1] rfl ?_
  cases h
  exact r_iret X R rfl dX6_pending_15
set_option maxRecDepth 100000 in
set_option maxHeartbeats 1000000 in
theorem tX6_regionOrThrow {l : Launch} (hl : l.stackTraces = false) (G : zG) (b : Nat) (a0 : Int32) (M : zM) {r9 : String ⊕ Unit} (h : fX6_regionOrThrow a0 M = some r9) : z_MX l yX6_regionOrThrow cX6_regionOrThrow 1 none 6 90 G b [.int a0] M (z_ou r9) M := by
  refine z_metx (own := RX6) hl (by decide) rfl rfl (fun Γ hΓ X R => ?_)
  subst hΓ
  show GW Γ G b 0 0 M 0 [(0, .int a0)] []
  unfold fX6_regionOrThrow at h
  refine r_iload_n X 0 rfl dX6_regionOrThrow_0 1 rfl ?_
  refine r_if_lt X dX6_regionOrThrow_1 9 (by decide) 4 rfl (fun c1 => ?_) (fun c1 => ?_)
  · have h := z_it c1 h
    cases h
    exact r_throww X R ze_io (List.mem_of_getElem? (i := 18) rfl) rfl rfl dX6_regionOrThrow_9 dX6_regionOrThrow_12 dX6_regionOrThrow_13 dX6_regionOrThrow_16 dX6_regionOrThrow_19
  · have h := z_ie c1 h
    refine r_iload_n X 0 rfl dX6_regionOrThrow_4 5 rfl ?_
    refine r_iconst (v := 4) X rfl dX6_regionOrThrow_5 6 rfl ?_
    refine r_icmp_lt X dX6_regionOrThrow_6 20 (by decide) 9 rfl (fun c2 => ?_) (fun c2 => ?_)
    · have h := z_it c2 h
      cases h
      exact r_xvret X R dX6_regionOrThrow_20
    · have h := z_ie c2 h
      cases h
      exact r_throww X R ze_io (List.mem_of_getElem? (i := 18) rfl) rfl rfl dX6_regionOrThrow_9 dX6_regionOrThrow_12 dX6_regionOrThrow_13 dX6_regionOrThrow_16 dX6_regionOrThrow_19
set_option maxRecDepth 100000 in
set_option maxHeartbeats 1000000 in
theorem tX6_freeIn {l : Launch} (hl : l.stackTraces = false) (G : zG) (b : Nat) (t0 : Nat) (ht0 : z_kd t0 = 6) (a1 : Int32) (M : zM) {r9 : String ⊕ Int32} (h : fX6_freeIn t0 a1 M = some r9) : z_MX l yX6_freeIn cX6_freeIn 2 (some .int) 7 110 G b [.ref (b + t0), .int a1] M (z_oi r9) M := by
  refine z_metx (own := RX6) hl (by decide) rfl rfl (fun Γ hΓ X R => ?_)
  subst hΓ
  show GW Γ G b 0 0 M 0 [(0, .ref (b + t0)), (1, .int a1)] []
  unfold fX6_freeIn at h
  refine r_iload_n X 1 rfl dX6_freeIn_0 1 rfl ?_
  obtain ⟨o1, e1, h⟩ := z_bd h
  cases o1 with
  | inl E9 =>
    have h := z_oxl h
    cases h
    exact r_xthrS (rest := []) X R (tX6_regionOrThrow hl G b a1 M (r9 := .inl E9) e1) zy_X6_regionOrThrow zs_X6_regionOrThrow km_X6_235 rfl ⟨rfl, rfl⟩ rfl rfl (Nat.le_of_ble_eq_true rfl) dX6_freeIn_1
  | inr x2 =>
    have h := z_oxr h
    refine r_callS (rest := []) X (z_MX_ret (tX6_regionOrThrow hl G b a1 M (r9 := .inr x2) e1)) zy_X6_regionOrThrow zs_X6_regionOrThrow km_X6_235 rfl ⟨rfl, rfl⟩ ⟨rfl, rfl⟩ rfl rfl (Nat.le_of_ble_eq_true rfl) ⟨Nat.zero_le _, Nat.zero_le _⟩ dX6_freeIn_1 4 rfl [] rfl ?_
    refine r_aload_n X 0 rfl dX6_freeIn_4 5 rfl ?_
    refine r_get (v := .ref (b + (t0 + 1))) X ht0 rfl zv_X6 zi_X6 rfl kf_X6_12 rfl rfl dX6_freeIn_5 8 rfl ?_
    refine r_getN (v := .ref (b + ((t0 + 1) + 3))) X (zk_6_0 ht0) rfl zv_X5 zi_X5 rfl kf_X6_46 rfl rfl dX6_freeIn_8 11 rfl ?_
    refine r_iload_n X 1 rfl dX6_freeIn_11 12 rfl ?_
    obtain ⟨x3, e3, h⟩ := z_bd h
    refine r_callVN (rest := []) X (tX3_freeInRegion hl G b ((t0 + 1) + 3) (zk_5_2 (zk_6_0 ht0)) a1 M e3) zy_X3_freeInRegion zw_X3_freeInRegion km_X6_238 (zk_5_2 (zk_6_0 ht0)) rfl zv_X3 rfl ⟨rfl, rfl⟩ ⟨rfl, rfl⟩ rfl rfl (Nat.le_of_ble_eq_true rfl) ⟨Nat.zero_le _, Nat.zero_le _⟩ dX6_freeIn_12 15 rfl [.int x3] rfl ?_
    cases h
    exact r_xiret X R rfl dX6_freeIn_15
set_option maxRecDepth 100000 in
set_option maxHeartbeats 1000000 in
theorem tX6_logOrThrow {l : Launch} (hl : l.stackTraces = false) (G : zG) (b : Nat) (t0 : Nat) (ht0 : z_kd t0 = 6) (a1 : Int32) (M : zM) {r9 : String ⊕ Nat} (h : fX6_logOrThrow t0 a1 M = some r9) : z_MX l yX6_logOrThrow cX6_logOrThrow 2 (some (.object "Cowmeadow$Log")) 6 90 G b [.ref (b + t0), .int a1] M (z_or b r9) M := by
  refine z_metx (own := RX6) hl (by decide) rfl rfl (fun Γ hΓ X R => ?_)
  subst hΓ
  show GW Γ G b 0 0 M 0 [(0, .ref (b + t0)), (1, .int a1)] []
  unfold fX6_logOrThrow at h
  refine r_iload_n X 1 rfl dX6_logOrThrow_0 1 rfl ?_
  refine r_if_lt X dX6_logOrThrow_1 16 (by decide) 4 rfl (fun c1 => ?_) (fun c1 => ?_)
  · have h := z_it c1 h
    cases h
    exact r_throww X R ze_io (List.mem_of_getElem? (i := 18) rfl) rfl rfl dX6_logOrThrow_16 dX6_logOrThrow_19 dX6_logOrThrow_20 dX6_logOrThrow_23 dX6_logOrThrow_26
  · have h := z_ie c1 h
    refine r_iload_n X 1 rfl dX6_logOrThrow_4 5 rfl ?_
    refine r_aload_n X 0 rfl dX6_logOrThrow_5 6 rfl ?_
    refine r_get (v := .ref (b + (t0 + 1))) X ht0 rfl zv_X6 zi_X6 rfl kf_X6_12 rfl rfl dX6_logOrThrow_6 9 rfl ?_
    refine r_getN (v := .ref (b + ((t0 + 1) + 8))) X (zk_6_0 ht0) rfl zv_X5 zi_X5 rfl kf_X6_281 rfl rfl dX6_logOrThrow_9 12 rfl ?_
    refine r_alen (v := 4) X (zk_5_3 (zk_6_0 ht0)) rfl (z_lt rfl (zk_5_3 (zk_6_0 ht0))) (zn_5_3 (zk_6_0 ht0)) rfl rfl rfl dX6_logOrThrow_12 13 rfl ?_
    refine r_icmp_lt X dX6_logOrThrow_13 27 (by decide) 16 rfl (fun c2 => ?_) (fun c2 => ?_)
    · have h := z_it c2 h
      refine r_aload_n X 0 rfl dX6_logOrThrow_27 28 rfl ?_
      refine r_get (v := .ref (b + (t0 + 1))) X ht0 rfl zv_X6 zi_X6 rfl kf_X6_12 rfl rfl dX6_logOrThrow_28 31 rfl ?_
      refine r_getN (v := .ref (b + ((t0 + 1) + 8))) X (zk_6_0 ht0) rfl zv_X5 zi_X5 rfl kf_X6_281 rfl rfl dX6_logOrThrow_31 34 rfl ?_
      refine r_iload_n X 1 rfl dX6_logOrThrow_34 35 rfl ?_
      obtain ⟨x3, e3, h⟩ := z_bd h
      have hk3 := zq_13 (zk_5_3 (zk_6_0 ht0)) e3
      refine r_aaload (C := RX1) X (zk_5_3 (zk_6_0 ht0)) rfl rfl (zn_5_3 (zk_6_0 ht0)) e3 rfl dX6_logOrThrow_35 (z_lt rfl (zk_5_3 (zk_6_0 ht0))) 36 rfl ?_
      cases h
      exact r_xaret X R (Or.inr ⟨_, rfl⟩) dX6_logOrThrow_36
    · have h := z_ie c2 h
      cases h
      exact r_throww X R ze_io (List.mem_of_getElem? (i := 18) rfl) rfl rfl dX6_logOrThrow_16 dX6_logOrThrow_19 dX6_logOrThrow_20 dX6_logOrThrow_23 dX6_logOrThrow_26
set_option maxRecDepth 100000 in
set_option maxHeartbeats 1000000 in
theorem tX6_logEntries {l : Launch} (hl : l.stackTraces = false) (G : zG) (b : Nat) (t0 : Nat) (ht0 : z_kd t0 = 6) (a1 : Int32) (M : zM) {r9 : String ⊕ Int32} (h : fX6_logEntries t0 a1 M = some r9) : z_MX l yX6_logEntries cX6_logEntries 2 (some .int) 7 111 G b [.ref (b + t0), .int a1] M (z_oi r9) M := by
  refine z_metx (own := RX6) hl (by decide) rfl rfl (fun Γ hΓ X R => ?_)
  subst hΓ
  show GW Γ G b 0 0 M 0 [(0, .ref (b + t0)), (1, .int a1)] []
  unfold fX6_logEntries at h
  refine r_aload_n X 0 rfl dX6_logEntries_0 1 rfl ?_
  refine r_iload_n X 1 rfl dX6_logEntries_1 2 rfl ?_
  obtain ⟨o1, e1, h⟩ := z_bd h
  cases o1 with
  | inl E9 =>
    have h := z_oxl h
    cases h
    exact r_xthrV (rest := []) X R (tX6_logOrThrow hl G b t0 ht0 a1 M (r9 := .inl E9) e1) zy_X6_logOrThrow zw_X6_logOrThrow km_X6_241 ht0 rfl zv_X6 rfl ⟨rfl, rfl⟩ rfl rfl (Nat.le_of_ble_eq_true rfl) dX6_logEntries_2
  | inr x2 =>
    have h := z_oxr h
    obtain ⟨hk2, h⟩ := z_gd_of h
    refine r_callV (rest := []) X (z_MX_ret (tX6_logOrThrow hl G b t0 ht0 a1 M (r9 := .inr x2) e1)) zy_X6_logOrThrow zw_X6_logOrThrow km_X6_241 ht0 rfl zv_X6 rfl ⟨rfl, rfl⟩ ⟨rfl, rfl⟩ rfl rfl (Nat.le_of_ble_eq_true rfl) ⟨Nat.zero_le _, Nat.zero_le _⟩ dX6_logEntries_2 5 rfl [.ref (b + x2)] rfl ?_
    refine r_getN (v := .int (M x2 4)) X hk2 rfl zv_X1 zi_X1 rfl kf_X6_245 rfl rfl dX6_logEntries_5 8 rfl ?_
    cases h
    exact r_xiret X R rfl dX6_logEntries_8
set_option maxRecDepth 100000 in
set_option maxHeartbeats 1000000 in
theorem tX6_logWithEntryOrThrow {l : Launch} (hl : l.stackTraces = false) (G : zG) (b : Nat) (t0 : Nat) (ht0 : z_kd t0 = 6) (a1 : Int32) (a2 : Int32) (M : zM) {r9 : String ⊕ Nat} (h : fX6_logWithEntryOrThrow t0 a1 a2 M = some r9) : z_MX l yX6_logWithEntryOrThrow cX6_logWithEntryOrThrow 4 (some (.object "Cowmeadow$Log")) 7 111 G b [.ref (b + t0), .int a1, .int a2] M (z_or b r9) M := by
  refine z_metx (own := RX6) hl (by decide) rfl rfl (fun Γ hΓ X R => ?_)
  subst hΓ
  show GW Γ G b 0 0 M 0 [(0, .ref (b + t0)), (1, .int a1), (2, .int a2)] []
  unfold fX6_logWithEntryOrThrow at h
  refine r_aload_n X 0 rfl dX6_logWithEntryOrThrow_0 1 rfl ?_
  refine r_iload_n X 1 rfl dX6_logWithEntryOrThrow_1 2 rfl ?_
  obtain ⟨o1, e1, h⟩ := z_bd h
  cases o1 with
  | inl E9 =>
    have h := z_oxl h
    cases h
    exact r_xthrV (rest := []) X R (tX6_logOrThrow hl G b t0 ht0 a1 M (r9 := .inl E9) e1) zy_X6_logOrThrow zw_X6_logOrThrow km_X6_241 ht0 rfl zv_X6 rfl ⟨rfl, rfl⟩ rfl rfl (Nat.le_of_ble_eq_true rfl) dX6_logWithEntryOrThrow_2
  | inr x2 =>
    have h := z_oxr h
    obtain ⟨hk2, h⟩ := z_gd_of h
    refine r_callV (rest := []) X (z_MX_ret (tX6_logOrThrow hl G b t0 ht0 a1 M (r9 := .inr x2) e1)) zy_X6_logOrThrow zw_X6_logOrThrow km_X6_241 ht0 rfl zv_X6 rfl ⟨rfl, rfl⟩ ⟨rfl, rfl⟩ rfl rfl (Nat.le_of_ble_eq_true rfl) ⟨Nat.zero_le _, Nat.zero_le _⟩ dX6_logWithEntryOrThrow_2 5 rfl [.ref (b + x2)] rfl ?_
    refine r_astore_n X dX6_logWithEntryOrThrow_5 6 rfl [(2, .int a2), (3, .ref (b + x2))] (by decide) [3, 0] rfl ?_
    refine r_iload_n X 0 rfl dX6_logWithEntryOrThrow_6 7 rfl ?_
    refine r_if_lt X dX6_logWithEntryOrThrow_7 18 (by decide) 10 rfl (fun c3 => ?_) (fun c3 => ?_)
    · have h := z_it c3 h
      cases h
      exact r_throww X R ze_io (List.mem_of_getElem? (i := 19) rfl) rfl rfl dX6_logWithEntryOrThrow_18 dX6_logWithEntryOrThrow_21 dX6_logWithEntryOrThrow_22 dX6_logWithEntryOrThrow_25 dX6_logWithEntryOrThrow_28
    · have h := z_ie c3 h
      refine r_iload_n X 0 rfl dX6_logWithEntryOrThrow_10 11 rfl ?_
      refine r_aload_n X 1 rfl dX6_logWithEntryOrThrow_11 12 rfl ?_
      refine r_getN (v := .int (M x2 4)) X hk2 rfl zv_X1 zi_X1 rfl kf_X6_245 rfl rfl dX6_logWithEntryOrThrow_12 15 rfl ?_
      refine r_icmp_lt X dX6_logWithEntryOrThrow_15 29 (by decide) 18 rfl (fun c4 => ?_) (fun c4 => ?_)
      · have h := z_it c4 h
        refine r_aload_n X 1 rfl dX6_logWithEntryOrThrow_29 30 rfl ?_
        cases h
        exact r_xaret X R (Or.inr ⟨_, rfl⟩) dX6_logWithEntryOrThrow_30
      · have h := z_ie c4 h
        cases h
        exact r_throww X R ze_io (List.mem_of_getElem? (i := 19) rfl) rfl rfl dX6_logWithEntryOrThrow_18 dX6_logWithEntryOrThrow_21 dX6_logWithEntryOrThrow_22 dX6_logWithEntryOrThrow_25 dX6_logWithEntryOrThrow_28
set_option maxRecDepth 100000 in
set_option maxHeartbeats 1000000 in
theorem tX6_runAt {l : Launch} (hl : l.stackTraces = false) (G : zG) (b : Nat) (t0 : Nat) (ht0 : z_kd t0 = 6) (a1 : Int32) (a2 : Int32) (M : zM) {r9 : String ⊕ Int32} (h : fX6_runAt t0 a1 a2 M = some r9) : z_MX l yX6_runAt cX6_runAt 4 (some .int) 8 134 G b [.ref (b + t0), .int a1, .int a2] M (z_oi r9) M := by
  refine z_metx (own := RX6) hl (by decide) rfl rfl (fun Γ hΓ X R => ?_)
  subst hΓ
  show GW Γ G b 0 0 M 0 [(0, .ref (b + t0)), (1, .int a1), (2, .int a2)] []
  unfold fX6_runAt at h
  refine r_aload_n X 0 rfl dX6_runAt_0 1 rfl ?_
  refine r_iload_n X 1 rfl dX6_runAt_1 2 rfl ?_
  refine r_iload_n X 2 rfl dX6_runAt_2 3 rfl ?_
  obtain ⟨o1, e1, h⟩ := z_bd h
  cases o1 with
  | inl E9 =>
    have h := z_oxl h
    cases h
    exact r_xthrV (rest := []) X R (tX6_logWithEntryOrThrow hl G b t0 ht0 a1 a2 M (r9 := .inl E9) e1) zy_X6_logWithEntryOrThrow zw_X6_logWithEntryOrThrow km_X6_250 ht0 rfl zv_X6 rfl ⟨rfl, rfl⟩ rfl rfl (Nat.le_of_ble_eq_true rfl) dX6_runAt_3
  | inr x2 =>
    have h := z_oxr h
    obtain ⟨hk2, h⟩ := z_gd_of h
    refine r_callV (rest := []) X (z_MX_ret (tX6_logWithEntryOrThrow hl G b t0 ht0 a1 a2 M (r9 := .inr x2) e1)) zy_X6_logWithEntryOrThrow zw_X6_logWithEntryOrThrow km_X6_250 ht0 rfl zv_X6 rfl ⟨rfl, rfl⟩ ⟨rfl, rfl⟩ rfl rfl (Nat.le_of_ble_eq_true rfl) ⟨Nat.zero_le _, Nat.zero_le _⟩ dX6_runAt_3 6 rfl [.ref (b + x2)] rfl ?_
    refine r_astore_n X dX6_runAt_6 7 rfl [(2, .int a2), (3, .ref (b + x2))] (by decide) [3, 0] rfl ?_
    refine r_bipush (v := 100) X rfl dX6_runAt_7 9 rfl ?_
    refine r_aload_n X 1 rfl dX6_runAt_9 10 rfl ?_
    refine r_iload_n X 0 rfl dX6_runAt_10 11 rfl ?_
    obtain ⟨x3, e3, h⟩ := z_bd h
    refine r_callVN (rest := [.int 100]) X (tX1_firstOf hl G b x2 hk2 a2 M e3) zy_X1_firstOf zw_X1_firstOf km_X6_254 hk2 rfl zv_X1 rfl ⟨rfl, rfl⟩ ⟨rfl, rfl⟩ rfl rfl (Nat.le_of_ble_eq_true rfl) ⟨Nat.zero_le _, Nat.zero_le _⟩ dX6_runAt_11 14 rfl [.int x3, .int 100] rfl ?_
    refine r_imul X dX6_runAt_14 15 rfl ?_
    refine r_aload_n X 1 rfl dX6_runAt_15 16 rfl ?_
    refine r_iload_n X 0 rfl dX6_runAt_16 17 rfl ?_
    obtain ⟨x4, e4, h⟩ := z_bd h
    refine r_callVN (rest := [.int (100 * x3)]) X (tX1_blocksOf hl G b x2 hk2 a2 M e4) zy_X1_blocksOf zw_X1_blocksOf km_X6_257 hk2 rfl zv_X1 rfl ⟨rfl, rfl⟩ ⟨rfl, rfl⟩ rfl rfl (Nat.le_of_ble_eq_true rfl) ⟨Nat.zero_le _, Nat.zero_le _⟩ dX6_runAt_17 20 rfl [.int x4, .int (100 * x3)] rfl ?_
    refine r_iadd X dX6_runAt_20 21 rfl ?_
    cases h
    exact r_xiret X R rfl dX6_runAt_21
set_option maxRecDepth 100000 in
set_option maxHeartbeats 1000000 in
theorem tX6_allocates {l : Launch} (hl : l.stackTraces = false) (G : zG) (b : Nat) (t0 : Nat) (ht0 : z_kd t0 = 6) (a1 : Int32) (a2 : Int32) (M : zM) {r9 : String ⊕ Int32} (h : fX6_allocates t0 a1 a2 M = some r9) : z_MX l yX6_allocates cX6_allocates 3 (some .boolean) 8 134 G b [.ref (b + t0), .int a1, .int a2] M (z_oi r9) M := by
  refine z_metx (own := RX6) hl (by decide) rfl rfl (fun Γ hΓ X R => ?_)
  subst hΓ
  show GW Γ G b 0 0 M 0 [(0, .ref (b + t0)), (1, .int a1), (2, .int a2)] []
  unfold fX6_allocates at h
  refine r_aload_n X 0 rfl dX6_allocates_0 1 rfl ?_
  refine r_iload_n X 1 rfl dX6_allocates_1 2 rfl ?_
  refine r_iload_n X 2 rfl dX6_allocates_2 3 rfl ?_
  obtain ⟨o1, e1, h⟩ := z_bd h
  cases o1 with
  | inl E9 =>
    have h := z_oxl h
    cases h
    exact r_xthrV (rest := []) X R (tX6_logWithEntryOrThrow hl G b t0 ht0 a1 a2 M (r9 := .inl E9) e1) zy_X6_logWithEntryOrThrow zw_X6_logWithEntryOrThrow km_X6_250 ht0 rfl zv_X6 rfl ⟨rfl, rfl⟩ rfl rfl (Nat.le_of_ble_eq_true rfl) dX6_allocates_3
  | inr x2 =>
    have h := z_oxr h
    obtain ⟨hk2, h⟩ := z_gd_of h
    refine r_callV (rest := []) X (z_MX_ret (tX6_logWithEntryOrThrow hl G b t0 ht0 a1 a2 M (r9 := .inr x2) e1)) zy_X6_logWithEntryOrThrow zw_X6_logWithEntryOrThrow km_X6_250 ht0 rfl zv_X6 rfl ⟨rfl, rfl⟩ ⟨rfl, rfl⟩ rfl rfl (Nat.le_of_ble_eq_true rfl) ⟨Nat.zero_le _, Nat.zero_le _⟩ dX6_allocates_3 6 rfl [.ref (b + x2)] rfl ?_
    refine r_iload_n X 2 rfl dX6_allocates_6 7 rfl ?_
    obtain ⟨x3, e3, h⟩ := z_bd h
    refine r_callVN (rest := []) X (tX1_isAllocation hl G b x2 hk2 a2 M e3) zy_X1_isAllocation zw_X1_isAllocation km_X6_260 hk2 rfl zv_X1 rfl ⟨rfl, rfl⟩ ⟨rfl, rfl⟩ rfl rfl (Nat.le_of_ble_eq_true rfl) ⟨Nat.zero_le _, Nat.zero_le _⟩ dX6_allocates_7 10 rfl [.int x3] rfl ?_
    obtain ⟨hz, h⟩ := z_bz_of h
    cases h
    exact r_xiret X R hz dX6_allocates_10
set_option maxRecDepth 100000 in
set_option maxHeartbeats 1000000 in
theorem tX6_replay {l : Launch} (hl : l.stackTraces = false) (G : zG) (b : Nat) (t0 : Nat) (ht0 : z_kd t0 = 6) (a1 : Int32) (M : zM) {r9 : String ⊕ Int32} {M9 : zM} (h : fX6_replay t0 a1 M = some (r9, M9)) : z_MX l yX6_replay cX6_replay 2 (some .int) 7 111 G b [.ref (b + t0), .int a1] M (z_oi r9) M9 := by
  refine z_metx (own := RX6) hl (by decide) rfl rfl (fun Γ hΓ X R => ?_)
  subst hΓ
  show GW Γ G b 0 0 M 0 [(0, .ref (b + t0)), (1, .int a1)] []
  unfold fX6_replay at h
  refine r_aload_n X 0 rfl dX6_replay_0 1 rfl ?_
  refine r_iload_n X 1 rfl dX6_replay_1 2 rfl ?_
  obtain ⟨o1, e1, h⟩ := z_bd h
  cases o1 with
  | inl E9 =>
    have h := z_oxl h
    cases h
    exact r_xthrV (rest := []) X R (tX6_logOrThrow hl G b t0 ht0 a1 M (r9 := .inl E9) e1) zy_X6_logOrThrow zw_X6_logOrThrow km_X6_241 ht0 rfl zv_X6 rfl ⟨rfl, rfl⟩ rfl rfl (Nat.le_of_ble_eq_true rfl) dX6_replay_2
  | inr x2 =>
    have h := z_oxr h
    obtain ⟨hk2, h⟩ := z_gd_of h
    refine r_callV (rest := []) X (z_MX_ret (tX6_logOrThrow hl G b t0 ht0 a1 M (r9 := .inr x2) e1)) zy_X6_logOrThrow zw_X6_logOrThrow km_X6_241 ht0 rfl zv_X6 rfl ⟨rfl, rfl⟩ ⟨rfl, rfl⟩ rfl rfl (Nat.le_of_ble_eq_true rfl) ⟨Nat.zero_le _, Nat.zero_le _⟩ dX6_replay_2 5 rfl [.ref (b + x2)] rfl ?_
    obtain ⟨x3, M4, e4, h⟩ := z_bd2 h
    refine r_callVN (rest := []) X (tX1_countReplayed hl G b x2 hk2 M e4) zy_X1_countReplayed zw_X1_countReplayed km_X6_263 hk2 rfl zv_X1 rfl ⟨rfl, rfl⟩ ⟨rfl, rfl⟩ rfl rfl (Nat.le_of_ble_eq_true rfl) ⟨Nat.zero_le _, Nat.zero_le _⟩ dX6_replay_5 8 rfl [.int x3] rfl ?_
    cases h
    exact r_xiret X R rfl dX6_replay_8
set_option maxRecDepth 100000 in
set_option maxHeartbeats 1000000 in
theorem tX6_condensed {l : Launch} (hl : l.stackTraces = false) (G : zG) (b : Nat) (t0 : Nat) (ht0 : z_kd t0 = 6) (M : zM) {r9 : Int32} (h : fX6_condensed t0 M = some r9) : z_MN l yX6_condensed cX6_condensed 1 (some .int) { frames := 0, cells := 0, slots := 0, locals := 0 } G b [.ref (b + t0)] M (some (.int r9)) M := by
  refine z_met (own := RX6) hl (by decide) rfl rfl (fun Γ hΓ X R => ?_)
  subst hΓ
  show GW Γ G b 0 0 M 0 [(0, .ref (b + t0))] []
  unfold fX6_condensed at h
  refine r_aload_n X 0 rfl dX6_condensed_0 1 rfl ?_
  refine r_get (v := .ref (b + (t0 + 1))) X ht0 rfl zv_X6 zi_X6 rfl kf_X6_12 rfl rfl dX6_condensed_1 4 rfl ?_
  refine r_getN (v := .int (M (t0 + 1) 6)) X (zk_6_0 ht0) rfl zv_X5 zi_X5 rfl kf_X6_266 rfl rfl dX6_condensed_4 7 rfl ?_
  cases h
  exact r_iret X R rfl dX6_condensed_7
