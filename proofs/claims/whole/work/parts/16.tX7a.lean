set_option maxRecDepth 100000 in
set_option maxHeartbeats 1000000 in
theorem tX7_in {l : Launch} (hl : l.stackTraces = false) (G : zG) (b : Nat) (a0 : Int32) (a1 : Int32) (a2 : Int32) (M : zM) {r9 : Int32} (h : fX7_in a0 a1 a2 M = some r9) : z_MN l yX7_in cX7_in 3 (some .boolean) { frames := 0, cells := 0, slots := 0, locals := 0 } G b [.int a0, .int a1, .int a2] M (some (.int r9)) M := by
  refine z_met (own := RX7) hl (by decide) rfl rfl (fun Γ hΓ X R => ?_)
  subst hΓ
  show GW Γ G b 0 0 M 0 [(0, .int a0), (1, .int a1), (2, .int a2)] []
  unfold fX7_in at h
  refine r_iload_n X 0 rfl dX7_in_0 1 rfl ?_
  refine r_iload_n X 1 rfl dX7_in_1 2 rfl ?_
  refine r_icmp_lt X dX7_in_2 14 (by decide) 5 rfl (fun c1 => ?_) (fun c1 => ?_)
  · have h := z_it c1 h
    refine r_iconst (v := 0) X rfl dX7_in_14 15 rfl ?_
    cases h
    exact r_iret X R rfl dX7_in_15
  · have h := z_ie c1 h
    refine r_iload_n X 0 rfl dX7_in_5 6 rfl ?_
    refine r_iload_n X 2 rfl dX7_in_6 7 rfl ?_
    refine r_icmp_gt X dX7_in_7 14 (by decide) 10 rfl (fun c2 => ?_) (fun c2 => ?_)
    · have h := z_it c2 h
      refine r_iconst (v := 0) X rfl dX7_in_14 15 rfl ?_
      cases h
      exact r_iret X R rfl dX7_in_15
    · have h := z_ie c2 h
      refine r_iconst (v := 1) X rfl dX7_in_10 11 rfl ?_
      refine r_goto X dX7_in_11 15 (by decide) ?_
      cases h
      exact r_iret X R rfl dX7_in_15
set_option maxRecDepth 100000 in
set_option maxHeartbeats 1000000 in
theorem tX7_isSet {l : Launch} (hl : l.stackTraces = false) (G : zG) (b : Nat) (t0 : Nat) (ht0 : z_kd t0 = 7) (a1 : Int32) (M : zM) {r9 : Int32} (h : fX7_isSet t0 a1 M = some r9) : z_MN l yX7_isSet cX7_isSet 2 (some .boolean) { frames := 1, cells := 0, slots := 0, locals := 22 } G b [.ref (b + t0), .int a1] M (some (.int r9)) M := by
  refine z_met (own := RX7) hl (by decide) rfl rfl (fun Γ hΓ X R => ?_)
  subst hΓ
  show GW Γ G b 0 0 M 0 [(0, .ref (b + t0)), (1, .int a1)] []
  unfold fX7_isSet at h
  refine r_iload_n X 1 rfl dX7_isSet_0 1 rfl ?_
  refine r_iconst (v := 0) X rfl dX7_isSet_1 2 rfl ?_
  refine r_iconst (v := 5) X rfl dX7_isSet_2 3 rfl ?_
  obtain ⟨x1, e1, h⟩ := z_bd h
  refine r_callS (rest := []) X (tX7_in hl G b a1 0 5 M e1) zy_X7_in zs_X7_in km_X7_26 rfl ⟨rfl, rfl⟩ ⟨rfl, rfl⟩ rfl rfl (Nat.le_of_ble_eq_true rfl) ⟨Nat.zero_le _, Nat.zero_le _⟩ dX7_isSet_3 6 rfl [.int x1] rfl ?_
  refine r_if_eq X dX7_isSet_6 27 (by decide) 9 rfl (fun c2 => ?_) (fun c2 => ?_)
  · have h := z_it c2 h
    refine r_iconst (v := 0) X rfl dX7_isSet_27 28 rfl ?_
    cases h
    exact r_iret X R rfl dX7_isSet_28
  · have h := z_ie c2 h
    refine r_aload_n X 0 rfl dX7_isSet_9 10 rfl ?_
    refine r_get (v := .ref (b + (t0 + 1))) X ht0 rfl zv_X7 zi_X7 rfl kf_X7_7 rfl rfl dX7_isSet_10 13 rfl ?_
    refine r_sipush (v := 2304) X rfl dX7_isSet_13 16 rfl ?_
    refine r_iload_n X 1 rfl dX7_isSet_16 17 rfl ?_
    refine r_iadd X dX7_isSet_17 18 rfl ?_
    obtain ⟨x3, e3, h⟩ := z_bd h
    refine r_iaload X (zk_7_0 ht0) (zn_7_0 ht0) e3 dX7_isSet_18 19 rfl ?_
    refine r_iconst (v := 1) X rfl dX7_isSet_19 20 rfl ?_
    refine r_icmp_ne X dX7_isSet_20 27 (by decide) 23 rfl (fun c4 => ?_) (fun c4 => ?_)
    · have h := z_ie c4 h
      refine r_iconst (v := 0) X rfl dX7_isSet_27 28 rfl ?_
      cases h
      exact r_iret X R rfl dX7_isSet_28
    · have h := z_it c4 h
      refine r_iconst (v := 1) X rfl dX7_isSet_23 24 rfl ?_
      refine r_goto X dX7_isSet_24 28 (by decide) ?_
      cases h
      exact r_iret X R rfl dX7_isSet_28
set_option maxRecDepth 100000 in
set_option maxHeartbeats 1000000 in
theorem tX7_isFile {l : Launch} (hl : l.stackTraces = false) (G : zG) (b : Nat) (a0 : Int32) (M : zM) {r9 : Int32} (h : fX7_isFile a0 M = some r9) : z_MN l yX7_isFile cX7_isFile 1 (some .boolean) { frames := 1, cells := 0, slots := 0, locals := 22 } G b [.int a0] M (some (.int r9)) M := by
  refine z_met (own := RX7) hl (by decide) rfl rfl (fun Γ hΓ X R => ?_)
  subst hΓ
  show GW Γ G b 0 0 M 0 [(0, .int a0)] []
  unfold fX7_isFile at h
  refine r_iload_n X 0 rfl dX7_isFile_0 1 rfl ?_
  refine r_iconst (v := 0) X rfl dX7_isFile_1 2 rfl ?_
  refine r_bipush (v := 7) X rfl dX7_isFile_2 4 rfl ?_
  obtain ⟨x1, e1, h⟩ := z_bd h
  refine r_callS (rest := []) X (tX7_in hl G b a0 0 7 M e1) zy_X7_in zs_X7_in km_X7_26 rfl ⟨rfl, rfl⟩ ⟨rfl, rfl⟩ rfl rfl (Nat.le_of_ble_eq_true rfl) ⟨Nat.zero_le _, Nat.zero_le _⟩ dX7_isFile_4 7 rfl [.int x1] rfl ?_
  obtain ⟨hz, h⟩ := z_bz_of h
  cases h
  exact r_iret X R hz dX7_isFile_7
set_option maxRecDepth 100000 in
set_option maxHeartbeats 1000000 in
theorem tX7_isSpot {l : Launch} (hl : l.stackTraces = false) (G : zG) (b : Nat) (a0 : Int32) (a1 : Int32) (M : zM) {r9 : Int32} (h : fX7_isSpot a0 a1 M = some r9) : z_MN l yX7_isSpot cX7_isSpot 2 (some .boolean) { frames := 2, cells := 0, slots := 0, locals := 42 } G b [.int a0, .int a1] M (some (.int r9)) M := by
  refine z_met (own := RX7) hl (by decide) rfl rfl (fun Γ hΓ X R => ?_)
  subst hΓ
  show GW Γ G b 0 0 M 0 [(0, .int a0), (1, .int a1)] []
  unfold fX7_isSpot at h
  refine r_iload_n X 0 rfl dX7_isSpot_0 1 rfl ?_
  obtain ⟨x1, e1, h⟩ := z_bd h
  refine r_callS (rest := []) X (tX7_isFile hl G b a0 M e1) zy_X7_isFile zs_X7_isFile km_X7_30 rfl ⟨rfl, rfl⟩ ⟨rfl, rfl⟩ rfl rfl (Nat.le_of_ble_eq_true rfl) ⟨Nat.zero_le _, Nat.zero_le _⟩ dX7_isSpot_1 4 rfl [.int x1] rfl ?_
  refine r_if_eq X dX7_isSpot_4 21 (by decide) 7 rfl (fun c2 => ?_) (fun c2 => ?_)
  · have h := z_it c2 h
    refine r_iconst (v := 0) X rfl dX7_isSpot_21 22 rfl ?_
    cases h
    exact r_iret X R rfl dX7_isSpot_22
  · have h := z_ie c2 h
    refine r_iload_n X 1 rfl dX7_isSpot_7 8 rfl ?_
    refine r_iconst (v := 0) X rfl dX7_isSpot_8 9 rfl ?_
    refine r_bipush (v := 15) X rfl dX7_isSpot_9 11 rfl ?_
    obtain ⟨x3, e3, h⟩ := z_bd h
    refine r_callS (rest := []) X (tX7_in hl G b a1 0 15 M e3) zy_X7_in zs_X7_in km_X7_26 rfl ⟨rfl, rfl⟩ ⟨rfl, rfl⟩ rfl rfl (Nat.le_of_ble_eq_true rfl) ⟨Nat.zero_le _, Nat.zero_le _⟩ dX7_isSpot_11 14 rfl [.int x3] rfl ?_
    refine r_if_eq X dX7_isSpot_14 21 (by decide) 17 rfl (fun c4 => ?_) (fun c4 => ?_)
    · have h := z_it c4 h
      refine r_iconst (v := 0) X rfl dX7_isSpot_21 22 rfl ?_
      cases h
      exact r_iret X R rfl dX7_isSpot_22
    · have h := z_ie c4 h
      refine r_iconst (v := 1) X rfl dX7_isSpot_17 18 rfl ?_
      refine r_goto X dX7_isSpot_18 22 (by decide) ?_
      cases h
      exact r_iret X R rfl dX7_isSpot_22
set_option maxRecDepth 100000 in
set_option maxHeartbeats 1000000 in
theorem tX7_slotOf {l : Launch} (hl : l.stackTraces = false) (G : zG) (b : Nat) (t0 : Nat) (ht0 : z_kd t0 = 7) (a1 : Int32) (M : zM) {r9 : Int32} (h : fX7_slotOf t0 a1 M = some r9) : z_MN l yX7_slotOf cX7_slotOf 4 (some .int) { frames := 0, cells := 0, slots := 0, locals := 0 } G b [.ref (b + t0), .int a1] M (some (.int r9)) M := by
  refine z_met (own := RX7) hl (by decide) rfl rfl (fun Γ hΓ X R => ?_)
  subst hΓ
  show GW Γ G b 0 0 M 0 [(0, .ref (b + t0)), (1, .int a1)] []
  unfold fX7_slotOf at h
  refine r_iconst (v := (-1)) X rfl dX7_slotOf_0 1 rfl ?_
  refine r_istore_n X dX7_slotOf_1 2 rfl [(0, .ref (b + t0)), (1, .int a1), (2, .int (-1))] (by decide) [1, 2, 0] rfl ?_
  refine r_iconst (v := 0) X rfl dX7_slotOf_2 3 rfl ?_
  refine r_istore_n X dX7_slotOf_3 4 rfl [(0, .ref (b + t0)), (1, .int a1), (2, .int (-1)), (3, .int 0)] (by decide) [1, 2, 3, 0] rfl ?_
  obtain ⟨x3, hL4, h⟩ := z_bd h
  have hK4 : GW Γ G b 0 0 M 42 [(2, .int x3)] [] := by
    refine r_iload_n X 0 rfl dX7_slotOf_42 43 rfl ?_
    cases h
    exact r_iret X R rfl dX7_slotOf_43
  clear h
  refine z_loopP (fun (s : (Int32 × Int32)) => GW Γ G b 0 0 M 4 [(0, .ref (b + t0)), (1, .int a1), (2, .int s.1), (3, .int s.2)] []) (fun s q4 hb hP4 hx4 => ?_) _ _ hL4
  obtain ⟨x1, x2⟩ := s
  have h : fX7_slotOf_L1 t0 a1 M x1 x2 = some q4 := hb
  unfold fX7_slotOf_L1 at h
  refine r_iload_n X 3 rfl dX7_slotOf_4 5 rfl ?_
  refine r_bipush (v := 12) X rfl dX7_slotOf_5 7 rfl ?_
  refine r_icmp_ge X dX7_slotOf_7 42 (by decide) 10 rfl (fun c5 => ?_) (fun c5 => ?_)
  · have h := z_it c5 h
    refine r_sub [(2, .int x1)] [2] rfl ?_
    have e := hx4 _ (Option.some.inj h).symm
    cases e
    exact hK4
  · have h := z_ie c5 h
    refine r_iload_n X 1 rfl dX7_slotOf_10 11 rfl ?_
    refine r_if_lt X dX7_slotOf_11 34 (by decide) 14 rfl (fun c6 => ?_) (fun c6 => ?_)
    · have h := z_it c6 h
      refine r_iload_n X 2 rfl dX7_slotOf_34 35 rfl ?_
      refine r_istore_n X dX7_slotOf_35 36 rfl [(0, .ref (b + t0)), (1, .int a1), (2, .int x1), (3, .int x2)] (by decide) [1, 2, 0, 3] rfl ?_
      refine r_iinc X dX7_slotOf_36 39 rfl [(0, .ref (b + t0)), (1, .int a1), (2, .int x1), (3, .int (x2 + 1))] (by decide) 3 rfl (x2 + 1) rfl [1, 2, 3, 0] rfl ?_
      refine r_goto X dX7_slotOf_39 4 (by decide) ?_
      exact hP4 (x1, (x2 + 1)) (Option.some.inj h).symm
    · have h := z_ie c6 h
      refine r_aload_n X 0 rfl dX7_slotOf_14 15 rfl ?_
      refine r_get (v := .ref (b + (t0 + 1))) X ht0 rfl zv_X7 zi_X7 rfl kf_X7_7 rfl rfl dX7_slotOf_15 18 rfl ?_
      refine r_sipush (v := 2394) X rfl dX7_slotOf_18 21 rfl ?_
      refine r_iload_n X 3 rfl dX7_slotOf_21 22 rfl ?_
      refine r_iadd X dX7_slotOf_22 23 rfl ?_
      obtain ⟨x7, e7, h⟩ := z_bd h
      refine r_iaload X (zk_7_0 ht0) (zn_7_0 ht0) e7 dX7_slotOf_23 24 rfl ?_
      refine r_iload_n X 1 rfl dX7_slotOf_24 25 rfl ?_
      refine r_iconst (v := 1) X rfl dX7_slotOf_25 26 rfl ?_
      refine r_iadd X dX7_slotOf_26 27 rfl ?_
      refine r_icmp_ne X dX7_slotOf_27 34 (by decide) 30 rfl (fun c8 => ?_) (fun c8 => ?_)
      · have h := z_ie c8 h
        refine r_iload_n X 2 rfl dX7_slotOf_34 35 rfl ?_
        refine r_istore_n X dX7_slotOf_35 36 rfl [(0, .ref (b + t0)), (1, .int a1), (2, .int x1), (3, .int x2)] (by decide) [1, 2, 0, 3] rfl ?_
        refine r_iinc X dX7_slotOf_36 39 rfl [(0, .ref (b + t0)), (1, .int a1), (2, .int x1), (3, .int (x2 + 1))] (by decide) 3 rfl (x2 + 1) rfl [1, 2, 3, 0] rfl ?_
        refine r_goto X dX7_slotOf_39 4 (by decide) ?_
        exact hP4 (x1, (x2 + 1)) (Option.some.inj h).symm
      · have h := z_it c8 h
        refine r_iload_n X 3 rfl dX7_slotOf_30 31 rfl ?_
        refine r_goto X dX7_slotOf_31 35 (by decide) ?_
        refine r_istore_n X dX7_slotOf_35 36 rfl [(0, .ref (b + t0)), (1, .int a1), (2, .int x2), (3, .int x2)] (by decide) [1, 2, 0, 3] rfl ?_
        refine r_iinc X dX7_slotOf_36 39 rfl [(0, .ref (b + t0)), (1, .int a1), (2, .int x2), (3, .int (x2 + 1))] (by decide) 3 rfl (x2 + 1) rfl [1, 2, 3, 0] rfl ?_
        refine r_goto X dX7_slotOf_39 4 (by decide) ?_
        exact hP4 (x2, (x2 + 1)) (Option.some.inj h).symm
set_option maxRecDepth 100000 in
set_option maxHeartbeats 1000000 in
theorem tX7_spot {l : Launch} (hl : l.stackTraces = false) (G : zG) (b : Nat) (a0 : Int32) (a1 : Int32) (a2 : Int32) (M : zM) {r9 : Int32} (h : fX7_spot a0 a1 a2 M = some r9) : z_MN l yX7_spot cX7_spot 3 (some .int) { frames := 0, cells := 0, slots := 0, locals := 0 } G b [.int a0, .int a1, .int a2] M (some (.int r9)) M := by
  refine z_met (own := RX7) hl (by decide) rfl rfl (fun Γ hΓ X R => ?_)
  subst hΓ
  show GW Γ G b 0 0 M 0 [(0, .int a0), (1, .int a1), (2, .int a2)] []
  unfold fX7_spot at h
  refine r_iconst (v := 0) X rfl dX7_spot_0 1 rfl ?_
  refine r_sipush (v := 128) X rfl dX7_spot_1 4 rfl ?_
  refine r_iload_n X 0 rfl dX7_spot_4 5 rfl ?_
  refine r_imul X dX7_spot_5 6 rfl ?_
  refine r_iadd X dX7_spot_6 7 rfl ?_
  refine r_bipush (v := 16) X rfl dX7_spot_7 9 rfl ?_
  refine r_iload_n X 1 rfl dX7_spot_9 10 rfl ?_
  refine r_imul X dX7_spot_10 11 rfl ?_
  refine r_iadd X dX7_spot_11 12 rfl ?_
  refine r_iload_n X 2 rfl dX7_spot_12 13 rfl ?_
  refine r_iadd X dX7_spot_13 14 rfl ?_
  cases h
  exact r_iret X R rfl dX7_spot_14
set_option maxRecDepth 100000 in
set_option maxHeartbeats 1000000 in
theorem tX7_fits {l : Launch} (hl : l.stackTraces = false) (G : zG) (b : Nat) (t0 : Nat) (ht0 : z_kd t0 = 7) (a1 : Int32) (a2 : Int32) (M : zM) {r9 : Int32} {M9 : zM} (h : fX7_fits t0 a1 a2 M = some (r9, M9)) : z_MN l yX7_fits cX7_fits 3 (some .boolean) { frames := 0, cells := 0, slots := 0, locals := 0 } G b [.ref (b + t0), .int a1, .int a2] M (some (.int r9)) M9 := by
  refine z_met (own := RX7) hl (by decide) rfl rfl (fun Γ hΓ X R => ?_)
  subst hΓ
  show GW Γ G b 0 0 M 0 [(0, .ref (b + t0)), (1, .int a1), (2, .int a2)] []
  unfold fX7_fits at h
  refine r_aload_n X 0 rfl dX7_fits_0 1 rfl ?_
  refine r_iload_n X 1 rfl dX7_fits_1 2 rfl ?_
  obtain ⟨j2, hT2, h⟩ := z_bd h
  have hJ2 : GW Γ G b 0 0 M 18 [(0, .ref (b + t0))] [.int j2, .ref (b + t0)] := by
    obtain ⟨M3, e3, h⟩ := z_bd h
    refine r_put X ht0 rfl zv_X7 zi_X7 rfl kf_X7_22 rfl tyX7_ok nmX7 rfl rfl rfl rfl rfl rfl (Option.some.inj e3) dX7_fits_18 21 rfl ?_
    refine r_aload_n X 0 rfl dX7_fits_21 22 rfl ?_
    refine r_get (v := .int (M3 t0 4)) X ht0 rfl zv_X7 zi_X7 rfl kf_X7_22 rfl rfl dX7_fits_22 25 rfl ?_
    refine r_if_ne X dX7_fits_25 32 (by decide) 28 rfl (fun c4 => ?_) (fun c4 => ?_)
    · have h := z_ie c4 h
      refine r_iconst (v := 0) X rfl dX7_fits_32 33 rfl ?_
      cases h
      exact r_iret X R rfl dX7_fits_33
    · have h := z_it c4 h
      refine r_iconst (v := 1) X rfl dX7_fits_28 29 rfl ?_
      refine r_goto X dX7_fits_29 33 (by decide) ?_
      cases h
      exact r_iret X R rfl dX7_fits_33
  have h := hT2
  refine r_if_ne X dX7_fits_2 9 (by decide) 5 rfl (fun c1 => ?_) (fun c1 => ?_)
  · have h := z_ie c1 h
    refine r_iload_n X 2 rfl dX7_fits_9 10 rfl ?_
    refine r_if_eq X dX7_fits_10 17 (by decide) 13 rfl (fun c5 => ?_) (fun c5 => ?_)
    · have h := z_it c5 h
      refine r_iconst (v := 2) X rfl dX7_fits_17 18 rfl ?_
      refine r_sub [(0, .ref (b + t0))] [0] rfl ?_
      cases h
      exact hJ2
    · have h := z_ie c5 h
      refine r_iconst (v := 0) X rfl dX7_fits_13 14 rfl ?_
      refine r_goto X dX7_fits_14 18 (by decide) ?_
      refine r_sub [(0, .ref (b + t0))] [0] rfl ?_
      cases h
      exact hJ2
  · have h := z_it c1 h
    refine r_iconst (v := 1) X rfl dX7_fits_5 6 rfl ?_
    refine r_goto X dX7_fits_6 18 (by decide) ?_
    refine r_sub [(0, .ref (b + t0))] [0] rfl ?_
    cases h
    exact hJ2
set_option maxRecDepth 100000 in
set_option maxHeartbeats 1000000 in
theorem tX7_counts {l : Launch} (hl : l.stackTraces = false) (G : zG) (b : Nat) (t0 : Nat) (ht0 : z_kd t0 = 7) (M : zM) {r9 : Int32} {M9 : zM} (h : fX7_counts t0 M = some (r9, M9)) : z_MN l yX7_counts cX7_counts 3 (some .int) { frames := 0, cells := 0, slots := 0, locals := 0 } G b [.ref (b + t0)] M (some (.int r9)) M9 := by
  refine z_met (own := RX7) hl (by decide) rfl rfl (fun Γ hΓ X R => ?_)
  subst hΓ
  show GW Γ G b 0 0 M 0 [(0, .ref (b + t0))] []
  unfold fX7_counts at h
  refine r_iconst (v := 0) X rfl dX7_counts_0 1 rfl ?_
  refine r_istore_n X dX7_counts_1 2 rfl [(0, .ref (b + t0)), (1, .int 0)] (by decide) [1, 0] rfl ?_
  obtain ⟨M3, hL4, h⟩ := z_bd h
  have hK4 : GW Γ G b 0 0 M3 22 [(0, .ref (b + t0))] [] := by
    refine r_iconst (v := 0) X rfl dX7_counts_22 23 rfl ?_
    refine r_istore_n X dX7_counts_23 24 rfl [(0, .ref (b + t0)), (1, .int 0)] (by decide) [1, 0] rfl ?_
    obtain ⟨M7, hL8, h⟩ := z_bd h
    have hK8 : GW Γ G b 0 0 M7 63 [(0, .ref (b + t0))] [] := by
      refine r_iconst (v := 0) X rfl dX7_counts_63 64 rfl ?_
      refine r_istore_n X dX7_counts_64 65 rfl [(0, .ref (b + t0)), (1, .int 0)] (by decide) [1, 0] rfl ?_
      refine r_iconst (v := 0) X rfl dX7_counts_65 66 rfl ?_
      refine r_istore_n X dX7_counts_66 67 rfl [(0, .ref (b + t0)), (1, .int 0), (2, .int 0)] (by decide) [1, 2, 0] rfl ?_
      obtain ⟨x12, M13, hL14, h⟩ := z_bd2 h
      have hK14 : GW Γ G b 0 0 M13 157 [(1, .int x12)] [] := by
        refine r_iload_n X 0 rfl dX7_counts_157 158 rfl ?_
        cases h
        exact r_iret X R rfl dX7_counts_158
      clear h
      refine z_loopP (fun (s : (Int32 × Int32 × zM)) => GW Γ G b 0 0 s.2.2 67 [(0, .ref (b + t0)), (1, .int s.1), (2, .int s.2.1)] []) (fun s q14 hb hP14 hx14 => ?_) _ _ hL14
      obtain ⟨x9, x10, M11⟩ := s
      have h : fX7_counts_L3 t0 x9 x10 M11 = some q14 := hb
      unfold fX7_counts_L3 at h
      refine r_iload_n X 2 rfl dX7_counts_67 68 rfl ?_
      refine r_sipush (v := 128) X rfl dX7_counts_68 71 rfl ?_
      refine r_icmp_ge X dX7_counts_71 157 (by decide) 74 rfl (fun c15 => ?_) (fun c15 => ?_)
      · have h := z_it c15 h
        refine r_sub [(1, .int x9)] [1] rfl ?_
        have e := hx14 _ (Option.some.inj h).symm
        cases e
        exact hK14
      · have h := z_ie c15 h
        refine r_aload_n X 0 rfl dX7_counts_74 75 rfl ?_
        refine r_get (v := .ref (b + (t0 + 3))) X ht0 rfl zv_X7 zi_X7 rfl kf_X7_16 rfl rfl dX7_counts_75 78 rfl ?_
        refine r_iload_n X 2 rfl dX7_counts_78 79 rfl ?_
        obtain ⟨x16, e16, h⟩ := z_bd h
        refine r_iaload X (zk_7_2 ht0) (zn_7_2 ht0) e16 dX7_counts_79 80 rfl ?_
        obtain ⟨j18, M19, hT19, h⟩ := z_bd2 h
        have hJ19 : GW Γ G b 0 0 M19 135 [(0, .ref (b + t0)), (1, .int j18), (2, .int x10)] [] := by
          refine r_aload_n X 0 rfl dX7_counts_135 136 rfl ?_
          refine r_get (v := .ref (b + (t0 + 1))) X ht0 rfl zv_X7 zi_X7 rfl kf_X7_7 rfl rfl dX7_counts_136 139 rfl ?_
          refine r_sipush (v := 2814) X rfl dX7_counts_139 142 rfl ?_
          refine r_iload_n X 2 rfl dX7_counts_142 143 rfl ?_
          refine r_iadd X dX7_counts_143 144 rfl ?_
          refine r_aload_n X 0 rfl dX7_counts_144 145 rfl ?_
          refine r_get (v := .ref (b + (t0 + 3))) X ht0 rfl zv_X7 zi_X7 rfl kf_X7_16 rfl rfl dX7_counts_145 148 rfl ?_
          refine r_iload_n X 2 rfl dX7_counts_148 149 rfl ?_
          obtain ⟨x20, e20, h⟩ := z_bd h
          refine r_iaload X (zk_7_2 ht0) (zn_7_2 ht0) e20 dX7_counts_149 150 rfl ?_
          obtain ⟨M21, e21, h⟩ := z_bd h
          refine r_iastore X (zk_7_0 ht0) (zn_7_0 ht0) e21 dX7_counts_150 151 rfl ?_
          refine r_iinc X dX7_counts_151 154 rfl [(0, .ref (b + t0)), (1, .int j18), (2, .int (x10 + 1))] (by decide) 2 rfl (x10 + 1) rfl [1, 2, 0] rfl ?_
          refine r_goto X dX7_counts_154 67 (by decide) ?_
          exact hP14 (j18, (x10 + 1), M21) (Option.some.inj h).symm
        have h := hT19
        refine r_if_ne X dX7_counts_80 135 (by decide) 83 rfl (fun c17 => ?_) (fun c17 => ?_)
        · have h := z_ie c17 h
          cases h
          exact hJ19
        · have h := z_it c17 h
          refine r_aload_n X 0 rfl dX7_counts_83 84 rfl ?_
          refine r_get (v := .ref (b + (t0 + 1))) X ht0 rfl zv_X7 zi_X7 rfl kf_X7_7 rfl rfl dX7_counts_84 87 rfl ?_
          refine r_sipush (v := 2814) X rfl dX7_counts_87 90 rfl ?_
          refine r_iload_n X 2 rfl dX7_counts_90 91 rfl ?_
          refine r_iadd X dX7_counts_91 92 rfl ?_
          obtain ⟨x22, e22, h⟩ := z_bd h
          refine r_iaload X (zk_7_0 ht0) (zn_7_0 ht0) e22 dX7_counts_92 93 rfl ?_
          refine r_if_le X dX7_counts_93 135 (by decide) 96 rfl (fun c23 => ?_) (fun c23 => ?_)
          · have h := z_it c23 h
            cases h
            exact hJ19
          · have h := z_ie c23 h
            refine r_iinc X dX7_counts_96 99 rfl [(0, .ref (b + t0)), (1, .int (x9 + 1)), (2, .int x10)] (by decide) 1 rfl (x9 + 1) rfl [1, 0, 2] rfl ?_
            refine r_aload_n X 0 rfl dX7_counts_99 100 rfl ?_
            refine r_get (v := .ref (b + (t0 + 1))) X ht0 rfl zv_X7 zi_X7 rfl kf_X7_7 rfl rfl dX7_counts_100 103 rfl ?_
            refine r_sipush (v := 2686) X rfl dX7_counts_103 106 rfl ?_
            refine r_iload_n X 2 rfl dX7_counts_106 107 rfl ?_
            refine r_iadd X dX7_counts_107 108 rfl ?_
            refine r_aload_n X 0 rfl dX7_counts_108 109 rfl ?_
            refine r_get (v := .ref (b + (t0 + 1))) X ht0 rfl zv_X7 zi_X7 rfl kf_X7_7 rfl rfl dX7_counts_109 112 rfl ?_
            refine r_sipush (v := 2558) X rfl dX7_counts_112 115 rfl ?_
            refine r_iload_n X 2 rfl dX7_counts_115 116 rfl ?_
            refine r_iadd X dX7_counts_116 117 rfl ?_
            obtain ⟨x24, e24, h⟩ := z_bd h
            refine r_iaload X (zk_7_0 ht0) (zn_7_0 ht0) e24 dX7_counts_117 118 rfl ?_
            refine r_aload_n X 0 rfl dX7_counts_118 119 rfl ?_
            refine r_get (v := .ref (b + (t0 + 1))) X ht0 rfl zv_X7 zi_X7 rfl kf_X7_7 rfl rfl dX7_counts_119 122 rfl ?_
            refine r_sipush (v := 3395) X rfl dX7_counts_122 125 rfl ?_
            obtain ⟨x25, e25, h⟩ := z_bd h
            refine r_iaload X (zk_7_0 ht0) (zn_7_0 ht0) e25 dX7_counts_125 126 rfl ?_
            refine r_icmp_ne X dX7_counts_126 133 (by decide) 129 rfl (fun c26 => ?_) (fun c26 => ?_)
            · have h := z_ie c26 h
              refine r_iconst (v := 1) X rfl dX7_counts_133 134 rfl ?_
              obtain ⟨M28, e28, h⟩ := z_bd h
              refine r_iastore X (zk_7_0 ht0) (zn_7_0 ht0) e28 dX7_counts_134 135 rfl ?_
              cases h
              exact hJ19
            · have h := z_it c26 h
              refine r_iconst (v := 0) X rfl dX7_counts_129 130 rfl ?_
              refine r_goto X dX7_counts_130 134 (by decide) ?_
              obtain ⟨M27, e27, h⟩ := z_bd h
              refine r_iastore X (zk_7_0 ht0) (zn_7_0 ht0) e27 dX7_counts_134 135 rfl ?_
              cases h
              exact hJ19
    clear h
    refine z_loopP (fun (s : (Int32 × zM)) => GW Γ G b 0 0 s.2 24 [(0, .ref (b + t0)), (1, .int s.1)] []) (fun s q8 hb hP8 hx8 => ?_) _ _ hL8
    obtain ⟨x5, M6⟩ := s
    have h : fX7_counts_L2 t0 x5 M6 = some q8 := hb
    unfold fX7_counts_L2 at h
    refine r_iload_n X 1 rfl dX7_counts_24 25 rfl ?_
    refine r_sipush (v := 2304) X rfl dX7_counts_25 28 rfl ?_
    refine r_icmp_ge X dX7_counts_28 63 (by decide) 31 rfl (fun c29 => ?_) (fun c29 => ?_)
    · have h := z_it c29 h
      refine r_sub [(0, .ref (b + t0))] [0] rfl ?_
      have e := hx8 _ (Option.some.inj h).symm
      cases e
      exact hK8
    · have h := z_ie c29 h
      refine r_aload_n X 0 rfl dX7_counts_31 32 rfl ?_
      refine r_get (v := .ref (b + (t0 + 1))) X ht0 rfl zv_X7 zi_X7 rfl kf_X7_7 rfl rfl dX7_counts_32 35 rfl ?_
      refine r_iload_n X 1 rfl dX7_counts_35 36 rfl ?_
      obtain ⟨x30, e30, h⟩ := z_bd h
      refine r_iaload X (zk_7_0 ht0) (zn_7_0 ht0) e30 dX7_counts_36 37 rfl ?_
      refine r_if_le X dX7_counts_37 57 (by decide) 40 rfl (fun c31 => ?_) (fun c31 => ?_)
      · have h := z_it c31 h
        refine r_iinc X dX7_counts_57 60 rfl [(0, .ref (b + t0)), (1, .int (x5 + 1))] (by decide) 1 rfl (x5 + 1) rfl [1, 0] rfl ?_
        refine r_goto X dX7_counts_60 24 (by decide) ?_
        exact hP8 ((x5 + 1), M6) (Option.some.inj h).symm
      · have h := z_ie c31 h
        refine r_aload_n X 0 rfl dX7_counts_40 41 rfl ?_
        refine r_get (v := .ref (b + (t0 + 3))) X ht0 rfl zv_X7 zi_X7 rfl kf_X7_16 rfl rfl dX7_counts_41 44 rfl ?_
        refine r_aload_n X 0 rfl dX7_counts_44 45 rfl ?_
        refine r_get (v := .ref (b + (t0 + 1))) X ht0 rfl zv_X7 zi_X7 rfl kf_X7_7 rfl rfl dX7_counts_45 48 rfl ?_
        refine r_iload_n X 1 rfl dX7_counts_48 49 rfl ?_
        obtain ⟨x32, e32, h⟩ := z_bd h
        refine r_iaload X (zk_7_0 ht0) (zn_7_0 ht0) e32 dX7_counts_49 50 rfl ?_
        refine r_iconst (v := 1) X rfl dX7_counts_50 51 rfl ?_
        refine r_isub X dX7_counts_51 52 rfl ?_
        refine r_dup2 X rfl rfl dX7_counts_52 53 rfl ?_
        obtain ⟨x33, e33, h⟩ := z_bd h
        refine r_iaload X (zk_7_2 ht0) (zn_7_2 ht0) e33 dX7_counts_53 54 rfl ?_
        refine r_iconst (v := 1) X rfl dX7_counts_54 55 rfl ?_
        refine r_iadd X dX7_counts_55 56 rfl ?_
        obtain ⟨M34, e34, h⟩ := z_bd h
        refine r_iastore X (zk_7_2 ht0) (zn_7_2 ht0) e34 dX7_counts_56 57 rfl ?_
        refine r_iinc X dX7_counts_57 60 rfl [(0, .ref (b + t0)), (1, .int (x5 + 1))] (by decide) 1 rfl (x5 + 1) rfl [1, 0] rfl ?_
        refine r_goto X dX7_counts_60 24 (by decide) ?_
        exact hP8 ((x5 + 1), M34) (Option.some.inj h).symm
  clear h
  refine z_loopP (fun (s : (Int32 × zM)) => GW Γ G b 0 0 s.2 2 [(0, .ref (b + t0)), (1, .int s.1)] []) (fun s q4 hb hP4 hx4 => ?_) _ _ hL4
  obtain ⟨x1, M2⟩ := s
  have h : fX7_counts_L1 t0 x1 M2 = some q4 := hb
  unfold fX7_counts_L1 at h
  refine r_iload_n X 1 rfl dX7_counts_2 3 rfl ?_
  refine r_sipush (v := 128) X rfl dX7_counts_3 6 rfl ?_
  refine r_icmp_ge X dX7_counts_6 22 (by decide) 9 rfl (fun c35 => ?_) (fun c35 => ?_)
  · have h := z_it c35 h
    refine r_sub [(0, .ref (b + t0))] [0] rfl ?_
    have e := hx4 _ (Option.some.inj h).symm
    cases e
    exact hK4
  · have h := z_ie c35 h
    refine r_aload_n X 0 rfl dX7_counts_9 10 rfl ?_
    refine r_get (v := .ref (b + (t0 + 3))) X ht0 rfl zv_X7 zi_X7 rfl kf_X7_16 rfl rfl dX7_counts_10 13 rfl ?_
    refine r_iload_n X 1 rfl dX7_counts_13 14 rfl ?_
    refine r_iconst (v := 0) X rfl dX7_counts_14 15 rfl ?_
    obtain ⟨M36, e36, h⟩ := z_bd h
    refine r_iastore X (zk_7_2 ht0) (zn_7_2 ht0) e36 dX7_counts_15 16 rfl ?_
    refine r_iinc X dX7_counts_16 19 rfl [(0, .ref (b + t0)), (1, .int (x1 + 1))] (by decide) 1 rfl (x1 + 1) rfl [1, 0] rfl ?_
    refine r_goto X dX7_counts_19 2 (by decide) ?_
    exact hP4 ((x1 + 1), M36) (Option.some.inj h).symm
set_option maxRecDepth 100000 in
set_option maxHeartbeats 1000000 in
theorem tX7_isFree {l : Launch} (hl : l.stackTraces = false) (G : zG) (b : Nat) (t0 : Nat) (ht0 : z_kd t0 = 7) (a1 : Int32) (M : zM) {r9 : Int32} (h : fX7_isFree t0 a1 M = some r9) : z_MN l yX7_isFree cX7_isFree 2 (some .boolean) { frames := 0, cells := 0, slots := 0, locals := 0 } G b [.ref (b + t0), .int a1] M (some (.int r9)) M := by
  refine z_met (own := RX7) hl (by decide) rfl rfl (fun Γ hΓ X R => ?_)
  subst hΓ
  show GW Γ G b 0 0 M 0 [(0, .ref (b + t0)), (1, .int a1)] []
  unfold fX7_isFree at h
  refine r_aload_n X 0 rfl dX7_isFree_0 1 rfl ?_
  refine r_get (v := .ref (b + (t0 + 1))) X ht0 rfl zv_X7 zi_X7 rfl kf_X7_7 rfl rfl dX7_isFree_1 4 rfl ?_
  refine r_sipush (v := 2814) X rfl dX7_isFree_4 7 rfl ?_
  refine r_iload_n X 1 rfl dX7_isFree_7 8 rfl ?_
  refine r_iadd X dX7_isFree_8 9 rfl ?_
  obtain ⟨x1, e1, h⟩ := z_bd h
  refine r_iaload X (zk_7_0 ht0) (zn_7_0 ht0) e1 dX7_isFree_9 10 rfl ?_
  refine r_if_ne X dX7_isFree_10 30 (by decide) 13 rfl (fun c2 => ?_) (fun c2 => ?_)
  · have h := z_ie c2 h
    refine r_iconst (v := 0) X rfl dX7_isFree_30 31 rfl ?_
    cases h
    exact r_iret X R rfl dX7_isFree_31
  · have h := z_it c2 h
    refine r_aload_n X 0 rfl dX7_isFree_13 14 rfl ?_
    refine r_get (v := .ref (b + (t0 + 1))) X ht0 rfl zv_X7 zi_X7 rfl kf_X7_7 rfl rfl dX7_isFree_14 17 rfl ?_
    refine r_sipush (v := 2686) X rfl dX7_isFree_17 20 rfl ?_
    refine r_iload_n X 1 rfl dX7_isFree_20 21 rfl ?_
    refine r_iadd X dX7_isFree_21 22 rfl ?_
    obtain ⟨x3, e3, h⟩ := z_bd h
    refine r_iaload X (zk_7_0 ht0) (zn_7_0 ht0) e3 dX7_isFree_22 23 rfl ?_
    refine r_if_ne X dX7_isFree_23 30 (by decide) 26 rfl (fun c4 => ?_) (fun c4 => ?_)
    · have h := z_ie c4 h
      refine r_iconst (v := 0) X rfl dX7_isFree_30 31 rfl ?_
      cases h
      exact r_iret X R rfl dX7_isFree_31
    · have h := z_it c4 h
      refine r_iconst (v := 1) X rfl dX7_isFree_26 27 rfl ?_
      refine r_goto X dX7_isFree_27 31 (by decide) ?_
      cases h
      exact r_iret X R rfl dX7_isFree_31
set_option maxRecDepth 100000 in
set_option maxHeartbeats 1000000 in
theorem tX7_countFree {l : Launch} (hl : l.stackTraces = false) (G : zG) (b : Nat) (t0 : Nat) (ht0 : z_kd t0 = 7) (a1 : Int32) (a2 : Int32) (M : zM) {r9 : Int32} (h : fX7_countFree t0 a1 a2 M = some r9) : z_MN l yX7_countFree cX7_countFree 5 (some .int) { frames := 1, cells := 0, slots := 0, locals := 21 } G b [.ref (b + t0), .int a1, .int a2] M (some (.int r9)) M := by
  refine z_met (own := RX7) hl (by decide) rfl rfl (fun Γ hΓ X R => ?_)
  subst hΓ
  show GW Γ G b 0 0 M 0 [(0, .ref (b + t0)), (1, .int a1), (2, .int a2)] []
  unfold fX7_countFree at h
  refine r_iconst (v := 0) X rfl dX7_countFree_0 1 rfl ?_
  refine r_istore_n X dX7_countFree_1 2 rfl [(0, .ref (b + t0)), (1, .int a1), (2, .int a2), (3, .int 0)] (by decide) [1, 2, 3, 0] rfl ?_
  refine r_iload_n X 1 rfl dX7_countFree_2 3 rfl ?_
  refine r_istore X dX7_countFree_3 5 rfl [(0, .ref (b + t0)), (2, .int a2), (3, .int 0), (4, .int a1)] (by decide) [1, 3, 4, 0] rfl ?_
  obtain ⟨x3, hL4, h⟩ := z_bd h
  have hK4 : GW Γ G b 0 0 M 34 [(3, .int x3)] [] := by
    refine r_iload_n X 0 rfl dX7_countFree_34 35 rfl ?_
    cases h
    exact r_iret X R rfl dX7_countFree_35
  clear h
  refine z_loopP (fun (s : (Int32 × Int32)) => GW Γ G b 0 0 M 5 [(0, .ref (b + t0)), (2, .int a2), (3, .int s.1), (4, .int s.2)] []) (fun s q4 hb hP4 hx4 => ?_) _ _ hL4
  obtain ⟨x1, x2⟩ := s
  have h : fX7_countFree_L1 t0 a2 M x1 x2 = some q4 := hb
  unfold fX7_countFree_L1 at h
  refine r_iload X 3 rfl dX7_countFree_5 7 rfl ?_
  refine r_iload_n X 1 rfl dX7_countFree_7 8 rfl ?_
  refine r_icmp_ge X dX7_countFree_8 34 (by decide) 11 rfl (fun c5 => ?_) (fun c5 => ?_)
  · have h := z_it c5 h
    refine r_sub [(3, .int x1)] [2] rfl ?_
    have e := hx4 _ (Option.some.inj h).symm
    cases e
    exact hK4
  · have h := z_ie c5 h
    refine r_iload_n X 2 rfl dX7_countFree_11 12 rfl ?_
    refine r_aload_n X 0 rfl dX7_countFree_12 13 rfl ?_
    refine r_iload X 3 rfl dX7_countFree_13 15 rfl ?_
    obtain ⟨x6, e6, h⟩ := z_bd h
    refine r_callV (rest := [.int x1]) X (tX7_isFree hl G b t0 ht0 x2 M e6) zy_X7_isFree zw_X7_isFree km_X7_34 ht0 rfl zv_X7 rfl ⟨rfl, rfl⟩ ⟨rfl, rfl⟩ rfl rfl (Nat.le_of_ble_eq_true rfl) ⟨Nat.zero_le _, Nat.zero_le _⟩ dX7_countFree_15 18 rfl [.int x6, .int x1] rfl ?_
    refine r_if_eq X dX7_countFree_18 25 (by decide) 21 rfl (fun c7 => ?_) (fun c7 => ?_)
    · have h := z_it c7 h
      refine r_iconst (v := 0) X rfl dX7_countFree_25 26 rfl ?_
      refine r_iadd X dX7_countFree_26 27 rfl ?_
      refine r_istore_n X dX7_countFree_27 28 rfl [(0, .ref (b + t0)), (2, .int a2), (3, .int (x1 + 0)), (4, .int x2)] (by decide) [1, 2, 0, 3] rfl ?_
      refine r_iinc X dX7_countFree_28 31 rfl [(0, .ref (b + t0)), (2, .int a2), (3, .int (x1 + 0)), (4, .int (x2 + 1))] (by decide) 3 rfl (x2 + 1) rfl [1, 2, 3, 0] rfl ?_
      refine r_goto X dX7_countFree_31 5 (by decide) ?_
      exact hP4 ((x1 + 0), (x2 + 1)) (Option.some.inj h).symm
    · have h := z_ie c7 h
      refine r_iconst (v := 1) X rfl dX7_countFree_21 22 rfl ?_
      refine r_goto X dX7_countFree_22 26 (by decide) ?_
      refine r_iadd X dX7_countFree_26 27 rfl ?_
      refine r_istore_n X dX7_countFree_27 28 rfl [(0, .ref (b + t0)), (2, .int a2), (3, .int (x1 + 1)), (4, .int x2)] (by decide) [1, 2, 0, 3] rfl ?_
      refine r_iinc X dX7_countFree_28 31 rfl [(0, .ref (b + t0)), (2, .int a2), (3, .int (x1 + 1)), (4, .int (x2 + 1))] (by decide) 3 rfl (x2 + 1) rfl [1, 2, 3, 0] rfl ?_
      refine r_goto X dX7_countFree_31 5 (by decide) ?_
      exact hP4 ((x1 + 1), (x2 + 1)) (Option.some.inj h).symm
set_option maxRecDepth 100000 in
set_option maxHeartbeats 1000000 in
theorem tX7_nextFree {l : Launch} (hl : l.stackTraces = false) (G : zG) (b : Nat) (t0 : Nat) (ht0 : z_kd t0 = 7) (M : zM) {r9 : Int32} (h : fX7_nextFree t0 M = some r9) : z_MN l yX7_nextFree cX7_nextFree 4 (some .int) { frames := 2, cells := 0, slots := 0, locals := 45 } G b [.ref (b + t0)] M (some (.int r9)) M := by
  refine z_met (own := RX7) hl (by decide) rfl rfl (fun Γ hΓ X R => ?_)
  subst hΓ
  show GW Γ G b 0 0 M 0 [(0, .ref (b + t0))] []
  unfold fX7_nextFree at h
  refine r_iconst (v := 0) X rfl dX7_nextFree_0 1 rfl ?_
  refine r_istore_n X dX7_nextFree_1 2 rfl [(0, .ref (b + t0)), (1, .int 0)] (by decide) [1, 0] rfl ?_
  refine r_iconst (v := 1) X rfl dX7_nextFree_2 3 rfl ?_
  refine r_istore_n X dX7_nextFree_3 4 rfl [(0, .ref (b + t0)), (1, .int 0), (2, .int 1)] (by decide) [1, 2, 0] rfl ?_
  obtain ⟨x3, hL4, h⟩ := z_bd h
  have hK4 : GW Γ G b 0 0 M 64 [(0, .ref (b + t0)), (1, .int x3)] [] := by
    refine r_bipush (v := 32) X rfl dX7_nextFree_64 66 rfl ?_
    refine r_iload_n X 1 rfl dX7_nextFree_66 67 rfl ?_
    refine r_imul X dX7_nextFree_67 68 rfl ?_
    refine r_istore_n X dX7_nextFree_68 69 rfl [(0, .ref (b + t0)), (1, .int x3), (2, .int (32 * x3))] (by decide) [1, 2, 0] rfl ?_
    obtain ⟨z6, hL6, h⟩ := z_bd h
    have hK6 : z6 = .inl () → GW Γ G b 0 0 M 96 [] [] := by
      intro e
      subst e
      have h := z_scl h
      refine r_iconst (v := (-1)) X rfl dX7_nextFree_96 97 rfl ?_
      cases h
      exact r_iret X R rfl dX7_nextFree_97
    have hR6 : ∀ u9, z6 = .inr u9 → some u9 = some r9 := by
      intro u9 e
      subst e
      exact z_scr h
    clear h
    refine z_loopP (fun (s : Int32) => GW Γ G b 0 0 M 69 [(0, .ref (b + t0)), (1, .int x3), (2, .int s)] []) (fun s q6 hb hP6 hx6 => ?_) _ _ hL6
    obtain ⟨x5, rfl⟩ : ∃ y, y = s := ⟨s, rfl⟩
    have h : fX7_nextFree_L2 t0 M x3 x5 = some q6 := hb
    unfold fX7_nextFree_L2 at h
    refine r_iload_n X 2 rfl dX7_nextFree_69 70 rfl ?_
    refine r_bipush (v := 32) X rfl dX7_nextFree_70 72 rfl ?_
    refine r_iload_n X 1 rfl dX7_nextFree_72 73 rfl ?_
    refine r_imul X dX7_nextFree_73 74 rfl ?_
    refine r_bipush (v := 32) X rfl dX7_nextFree_74 76 rfl ?_
    refine r_iadd X dX7_nextFree_76 77 rfl ?_
    refine r_icmp_ge X dX7_nextFree_77 96 (by decide) 80 rfl (fun c7 => ?_) (fun c7 => ?_)
    · have h := z_it c7 h
      refine r_sub [] [] rfl ?_
      exact hK6  (hx6 _ (Option.some.inj h).symm).symm
    · have h := z_ie c7 h
      refine r_aload_n X 0 rfl dX7_nextFree_80 81 rfl ?_
      refine r_iload_n X 2 rfl dX7_nextFree_81 82 rfl ?_
      obtain ⟨x8, e8, h⟩ := z_bd h
      refine r_callV (rest := []) X (tX7_isFree hl G b t0 ht0 x5 M e8) zy_X7_isFree zw_X7_isFree km_X7_34 ht0 rfl zv_X7 rfl ⟨rfl, rfl⟩ ⟨rfl, rfl⟩ rfl rfl (Nat.le_of_ble_eq_true rfl) ⟨Nat.zero_le _, Nat.zero_le _⟩ dX7_nextFree_82 85 rfl [.int x8] rfl ?_
      refine r_if_eq X dX7_nextFree_85 90 (by decide) 88 rfl (fun c9 => ?_) (fun c9 => ?_)
      · have h := z_it c9 h
        refine r_iinc X dX7_nextFree_90 93 rfl [(0, .ref (b + t0)), (1, .int x3), (2, .int (x5 + 1))] (by decide) 2 rfl (x5 + 1) rfl [1, 2, 0] rfl ?_
        refine r_goto X dX7_nextFree_93 69 (by decide) ?_
        exact hP6 (x5 + 1) (Option.some.inj h).symm
      · have h := z_ie c9 h
        refine r_iload_n X 2 rfl dX7_nextFree_88 89 rfl ?_
        have h := hR6 _ (hx6 _ (Option.some.inj h).symm).symm
        cases h
        exact r_iret X R rfl dX7_nextFree_89
  clear h
  refine z_loopP (fun (s : (Int32 × Int32)) => GW Γ G b 0 0 M 4 [(0, .ref (b + t0)), (1, .int s.1), (2, .int s.2)] []) (fun s q4 hb hP4 hx4 => ?_) _ _ hL4
  obtain ⟨x1, x2⟩ := s
  have h : fX7_nextFree_L1 t0 M x1 x2 = some q4 := hb
  unfold fX7_nextFree_L1 at h
  refine r_iload_n X 2 rfl dX7_nextFree_4 5 rfl ?_
  refine r_iconst (v := 4) X rfl dX7_nextFree_5 6 rfl ?_
  refine r_icmp_ge X dX7_nextFree_6 64 (by decide) 9 rfl (fun c10 => ?_) (fun c10 => ?_)
  · have h := z_it c10 h
    refine r_sub [(0, .ref (b + t0)), (1, .int x1)] [0, 1] rfl ?_
    have e := hx4 _ (Option.some.inj h).symm
    cases e
    exact hK4
  · have h := z_ie c10 h
    refine r_aload_n X 0 rfl dX7_nextFree_9 10 rfl ?_
    refine r_bipush (v := 32) X rfl dX7_nextFree_10 12 rfl ?_
    refine r_iload_n X 2 rfl dX7_nextFree_12 13 rfl ?_
    refine r_imul X dX7_nextFree_13 14 rfl ?_
    refine r_bipush (v := 32) X rfl dX7_nextFree_14 16 rfl ?_
    refine r_iload_n X 2 rfl dX7_nextFree_16 17 rfl ?_
    refine r_imul X dX7_nextFree_17 18 rfl ?_
    refine r_bipush (v := 32) X rfl dX7_nextFree_18 20 rfl ?_
    refine r_iadd X dX7_nextFree_20 21 rfl ?_
    obtain ⟨x11, e11, h⟩ := z_bd h
    refine r_callV (rest := []) X (tX7_countFree hl G b t0 ht0 (32 * x2) ((32 * x2) + 32) M e11) zy_X7_countFree zw_X7_countFree km_X7_37 ht0 rfl zv_X7 rfl ⟨rfl, rfl⟩ ⟨rfl, rfl⟩ rfl rfl (Nat.le_of_ble_eq_true rfl) ⟨Nat.zero_le _, Nat.zero_le _⟩ dX7_nextFree_21 24 rfl [.int x11] rfl ?_
    refine r_aload_n X 0 rfl dX7_nextFree_24 25 rfl ?_
    refine r_bipush (v := 32) X rfl dX7_nextFree_25 27 rfl ?_
    refine r_iload_n X 1 rfl dX7_nextFree_27 28 rfl ?_
    refine r_imul X dX7_nextFree_28 29 rfl ?_
    refine r_bipush (v := 32) X rfl dX7_nextFree_29 31 rfl ?_
    refine r_iload_n X 1 rfl dX7_nextFree_31 32 rfl ?_
    refine r_imul X dX7_nextFree_32 33 rfl ?_
    refine r_bipush (v := 32) X rfl dX7_nextFree_33 35 rfl ?_
    refine r_iadd X dX7_nextFree_35 36 rfl ?_
    obtain ⟨x12, e12, h⟩ := z_bd h
    refine r_callV (rest := [.int x11]) X (tX7_countFree hl G b t0 ht0 (32 * x1) ((32 * x1) + 32) M e12) zy_X7_countFree zw_X7_countFree km_X7_37 ht0 rfl zv_X7 rfl ⟨rfl, rfl⟩ ⟨rfl, rfl⟩ rfl rfl (Nat.le_of_ble_eq_true rfl) ⟨Nat.zero_le _, Nat.zero_le _⟩ dX7_nextFree_36 39 rfl [.int x12, .int x11] rfl ?_
    obtain ⟨j14, hT14, h⟩ := z_bd h
    have hJ14 : GW Γ G b 0 0 M 47 [(0, .ref (b + t0)), (1, .int x1), (2, .int x2)] [.int j14] := by
      refine r_istore_n X dX7_nextFree_47 48 rfl [(0, .ref (b + t0)), (1, .int x1), (2, .int x2), (3, .int j14)] (by decide) [1, 2, 3, 0] rfl ?_
      refine r_iload_n X 3 rfl dX7_nextFree_48 49 rfl ?_
      refine r_if_eq X dX7_nextFree_49 56 (by decide) 52 rfl (fun c15 => ?_) (fun c15 => ?_)
      · have h := z_it c15 h
        refine r_iload_n X 1 rfl dX7_nextFree_56 57 rfl ?_
        refine r_istore_n X dX7_nextFree_57 58 rfl [(0, .ref (b + t0)), (1, .int x1), (2, .int x2)] (by decide) [1, 0, 2] rfl ?_
        refine r_iinc X dX7_nextFree_58 61 rfl [(0, .ref (b + t0)), (1, .int x1), (2, .int (x2 + 1))] (by decide) 2 rfl (x2 + 1) rfl [1, 2, 0] rfl ?_
        refine r_goto X dX7_nextFree_61 4 (by decide) ?_
        exact hP4 (x1, (x2 + 1)) (Option.some.inj h).symm
      · have h := z_ie c15 h
        refine r_iload_n X 2 rfl dX7_nextFree_52 53 rfl ?_
        refine r_goto X dX7_nextFree_53 57 (by decide) ?_
        refine r_istore_n X dX7_nextFree_57 58 rfl [(0, .ref (b + t0)), (1, .int x2), (2, .int x2)] (by decide) [1, 0, 2] rfl ?_
        refine r_iinc X dX7_nextFree_58 61 rfl [(0, .ref (b + t0)), (1, .int x2), (2, .int (x2 + 1))] (by decide) 2 rfl (x2 + 1) rfl [1, 2, 0] rfl ?_
        refine r_goto X dX7_nextFree_61 4 (by decide) ?_
        exact hP4 (x2, (x2 + 1)) (Option.some.inj h).symm
    have h := hT14
    refine r_icmp_le X dX7_nextFree_39 46 (by decide) 42 rfl (fun c13 => ?_) (fun c13 => ?_)
    · have h := z_it c13 h
      refine r_iconst (v := 0) X rfl dX7_nextFree_46 47 rfl ?_
      cases h
      exact hJ14
    · have h := z_ie c13 h
      refine r_iconst (v := 1) X rfl dX7_nextFree_42 43 rfl ?_
      refine r_goto X dX7_nextFree_43 47 (by decide) ?_
      cases h
      exact hJ14
set_option maxRecDepth 100000 in
set_option maxHeartbeats 1000000 in
theorem tX7_isKnown {l : Launch} (hl : l.stackTraces = false) (G : zG) (b : Nat) (t0 : Nat) (ht0 : z_kd t0 = 7) (a1 : Int32) (a2 : Int32) (a3 : Int32) (M : zM) {r9 : Int32} {M9 : zM} (h : fX7_isKnown t0 a1 a2 a3 M = some (r9, M9)) : z_MN l yX7_isKnown cX7_isKnown 4 (some .boolean) { frames := 3, cells := 0, slots := 0, locals := 63 } G b [.ref (b + t0), .int a1, .int a2, .int a3] M (some (.int r9)) M9 := by
  refine z_met (own := RX7) hl (by decide) rfl rfl (fun Γ hΓ X R => ?_)
  subst hΓ
  show GW Γ G b 0 0 M 0 [(0, .ref (b + t0)), (1, .int a1), (2, .int a2), (3, .int a3)] []
  unfold fX7_isKnown at h
  refine r_aload_n X 0 rfl dX7_isKnown_0 1 rfl ?_
  refine r_aload_n X 0 rfl dX7_isKnown_1 2 rfl ?_
  refine r_iload_n X 1 rfl dX7_isKnown_2 3 rfl ?_
  obtain ⟨x1, e1, h⟩ := z_bd h
  refine r_callV (rest := [.ref (b + t0)]) X (tX7_isSet hl G b t0 ht0 a1 M e1) zy_X7_isSet zw_X7_isSet km_X7_41 ht0 rfl zv_X7 rfl ⟨rfl, rfl⟩ ⟨rfl, rfl⟩ rfl rfl (Nat.le_of_ble_eq_true rfl) ⟨Nat.zero_le _, Nat.zero_le _⟩ dX7_isKnown_3 6 rfl [.int x1, .ref (b + t0)] rfl ?_
  obtain ⟨j3, hT3, h⟩ := z_bd h
  have hJ3 : GW Γ G b 0 0 M 22 [] [.int j3, .ref (b + t0)] := by
    refine r_iconst (v := 1) X rfl dX7_isKnown_22 23 rfl ?_
    obtain ⟨x4, M5, e5, h⟩ := z_bd2 h
    refine r_callV (rest := []) X (tX7_fits hl G b t0 ht0 j3 1 M e5) zy_X7_fits zw_X7_fits km_X7_59 ht0 rfl zv_X7 rfl ⟨rfl, rfl⟩ ⟨rfl, rfl⟩ rfl rfl (Nat.le_of_ble_eq_true rfl) ⟨Nat.zero_le _, Nat.zero_le _⟩ dX7_isKnown_23 26 rfl [.int x4] rfl ?_
    obtain ⟨hz, h⟩ := z_bz_of h
    cases h
    exact r_iret X R hz dX7_isKnown_26
  have h := hT3
  refine r_if_eq X dX7_isKnown_6 21 (by decide) 9 rfl (fun c2 => ?_) (fun c2 => ?_)
  · have h := z_it c2 h
    refine r_iconst (v := 0) X rfl dX7_isKnown_21 22 rfl ?_
    refine r_sub [] [] rfl ?_
    cases h
    exact hJ3
  · have h := z_ie c2 h
    refine r_iload_n X 2 rfl dX7_isKnown_9 10 rfl ?_
    refine r_iload_n X 3 rfl dX7_isKnown_10 11 rfl ?_
    obtain ⟨x6, e6, h⟩ := z_bd h
    refine r_callS (rest := [.ref (b + t0)]) X (tX7_isSpot hl G b a2 a3 M e6) zy_X7_isSpot zs_X7_isSpot km_X7_44 rfl ⟨rfl, rfl⟩ ⟨rfl, rfl⟩ rfl rfl (Nat.le_of_ble_eq_true rfl) ⟨Nat.zero_le _, Nat.zero_le _⟩ dX7_isKnown_11 14 rfl [.int x6, .ref (b + t0)] rfl ?_
    refine r_if_eq X dX7_isKnown_14 21 (by decide) 17 rfl (fun c7 => ?_) (fun c7 => ?_)
    · have h := z_it c7 h
      refine r_iconst (v := 0) X rfl dX7_isKnown_21 22 rfl ?_
      refine r_sub [] [] rfl ?_
      cases h
      exact hJ3
    · have h := z_ie c7 h
      refine r_iconst (v := 1) X rfl dX7_isKnown_17 18 rfl ?_
      refine r_goto X dX7_isKnown_18 22 (by decide) ?_
      refine r_sub [] [] rfl ?_
      cases h
      exact hJ3
set_option maxRecDepth 100000 in
set_option maxHeartbeats 1000000 in
theorem tX7_valueAt {l : Launch} (hl : l.stackTraces = false) (G : zG) (b : Nat) (t0 : Nat) (ht0 : z_kd t0 = 7) (a1 : Int32) (M : zM) {r9 : Int32} (h : fX7_valueAt t0 a1 M = some r9) : z_MN l yX7_valueAt cX7_valueAt 2 (some .int) { frames := 0, cells := 0, slots := 0, locals := 0 } G b [.ref (b + t0), .int a1] M (some (.int r9)) M := by
  refine z_met (own := RX7) hl (by decide) rfl rfl (fun Γ hΓ X R => ?_)
  subst hΓ
  show GW Γ G b 0 0 M 0 [(0, .ref (b + t0)), (1, .int a1)] []
  unfold fX7_valueAt at h
  refine r_aload_n X 0 rfl dX7_valueAt_0 1 rfl ?_
  refine r_get (v := .ref (b + (t0 + 1))) X ht0 rfl zv_X7 zi_X7 rfl kf_X7_7 rfl rfl dX7_valueAt_1 4 rfl ?_
  refine r_iload_n X 1 rfl dX7_valueAt_4 5 rfl ?_
  obtain ⟨x1, e1, h⟩ := z_bd h
  refine r_iaload X (zk_7_0 ht0) (zn_7_0 ht0) e1 dX7_valueAt_5 6 rfl ?_
  refine r_if_ne X dX7_valueAt_6 13 (by decide) 9 rfl (fun c2 => ?_) (fun c2 => ?_)
  · have h := z_ie c2 h
    refine r_aload_n X 0 rfl dX7_valueAt_13 14 rfl ?_
    refine r_get (v := .ref (b + (t0 + 1))) X ht0 rfl zv_X7 zi_X7 rfl kf_X7_7 rfl rfl dX7_valueAt_14 17 rfl ?_
    refine r_sipush (v := 2430) X rfl dX7_valueAt_17 20 rfl ?_
    refine r_aload_n X 0 rfl dX7_valueAt_20 21 rfl ?_
    refine r_get (v := .ref (b + (t0 + 1))) X ht0 rfl zv_X7 zi_X7 rfl kf_X7_7 rfl rfl dX7_valueAt_21 24 rfl ?_
    refine r_iload_n X 1 rfl dX7_valueAt_24 25 rfl ?_
    obtain ⟨x3, e3, h⟩ := z_bd h
    refine r_iaload X (zk_7_0 ht0) (zn_7_0 ht0) e3 dX7_valueAt_25 26 rfl ?_
    refine r_iadd X dX7_valueAt_26 27 rfl ?_
    refine r_iconst (v := 1) X rfl dX7_valueAt_27 28 rfl ?_
    refine r_isub X dX7_valueAt_28 29 rfl ?_
    obtain ⟨x4, e4, h⟩ := z_bd h
    refine r_iaload X (zk_7_0 ht0) (zn_7_0 ht0) e4 dX7_valueAt_29 30 rfl ?_
    cases h
    exact r_iret X R rfl dX7_valueAt_30
  · have h := z_it c2 h
    refine r_iconst (v := 0) X rfl dX7_valueAt_9 10 rfl ?_
    refine r_goto X dX7_valueAt_10 30 (by decide) ?_
    cases h
    exact r_iret X R rfl dX7_valueAt_30
set_option maxRecDepth 100000 in
set_option maxHeartbeats 1000000 in
theorem tX7_isAllocated {l : Launch} (hl : l.stackTraces = false) (G : zG) (b : Nat) (t0 : Nat) (ht0 : z_kd t0 = 7) (a1 : Int32) (M : zM) {r9 : Int32} (h : fX7_isAllocated t0 a1 M = some r9) : z_MN l yX7_isAllocated cX7_isAllocated 2 (some .boolean) { frames := 0, cells := 0, slots := 0, locals := 0 } G b [.ref (b + t0), .int a1] M (some (.int r9)) M := by
  refine z_met (own := RX7) hl (by decide) rfl rfl (fun Γ hΓ X R => ?_)
  subst hΓ
  show GW Γ G b 0 0 M 0 [(0, .ref (b + t0)), (1, .int a1)] []
  unfold fX7_isAllocated at h
  refine r_aload_n X 0 rfl dX7_isAllocated_0 1 rfl ?_
  refine r_get (v := .ref (b + (t0 + 1))) X ht0 rfl zv_X7 zi_X7 rfl kf_X7_7 rfl rfl dX7_isAllocated_1 4 rfl ?_
  refine r_sipush (v := 2814) X rfl dX7_isAllocated_4 7 rfl ?_
  refine r_iload_n X 1 rfl dX7_isAllocated_7 8 rfl ?_
  refine r_iadd X dX7_isAllocated_8 9 rfl ?_
  obtain ⟨x1, e1, h⟩ := z_bd h
  refine r_iaload X (zk_7_0 ht0) (zn_7_0 ht0) e1 dX7_isAllocated_9 10 rfl ?_
  refine r_if_le X dX7_isAllocated_10 17 (by decide) 13 rfl (fun c2 => ?_) (fun c2 => ?_)
  · have h := z_it c2 h
    refine r_iconst (v := 0) X rfl dX7_isAllocated_17 18 rfl ?_
    cases h
    exact r_iret X R rfl dX7_isAllocated_18
  · have h := z_ie c2 h
    refine r_iconst (v := 1) X rfl dX7_isAllocated_13 14 rfl ?_
    refine r_goto X dX7_isAllocated_14 18 (by decide) ?_
    cases h
    exact r_iret X R rfl dX7_isAllocated_18
set_option maxRecDepth 100000 in
set_option maxHeartbeats 1000000 in
theorem tX7_isLogged {l : Launch} (hl : l.stackTraces = false) (G : zG) (b : Nat) (t0 : Nat) (ht0 : z_kd t0 = 7) (a1 : Int32) (a2 : Int32) (M : zM) {r9 : Int32} (h : fX7_isLogged t0 a1 a2 M = some r9) : z_MN l yX7_isLogged cX7_isLogged 4 (some .boolean) { frames := 1, cells := 0, slots := 0, locals := 21 } G b [.ref (b + t0), .int a1, .int a2] M (some (.int r9)) M := by
  refine z_met (own := RX7) hl (by decide) rfl rfl (fun Γ hΓ X R => ?_)
  subst hΓ
  show GW Γ G b 0 0 M 0 [(0, .ref (b + t0)), (1, .int a1), (2, .int a2)] []
  unfold fX7_isLogged at h
  refine r_aload_n X 0 rfl dX7_isLogged_0 1 rfl ?_
  refine r_get (v := .ref (b + (t0 + 1))) X ht0 rfl zv_X7 zi_X7 rfl kf_X7_7 rfl rfl dX7_isLogged_1 4 rfl ?_
  refine r_sipush (v := 2942) X rfl dX7_isLogged_4 7 rfl ?_
  refine r_iload_n X 1 rfl dX7_isLogged_7 8 rfl ?_
  refine r_iadd X dX7_isLogged_8 9 rfl ?_
  obtain ⟨x1, e1, h⟩ := z_bd h
  refine r_iaload X (zk_7_0 ht0) (zn_7_0 ht0) e1 dX7_isLogged_9 10 rfl ?_
  refine r_iconst (v := 1) X rfl dX7_isLogged_10 11 rfl ?_
  obtain ⟨j3, hT3, h⟩ := z_bd h
  have hJ3 : GW Γ G b 0 0 M 19 [(0, .ref (b + t0)), (1, .int a1), (2, .int a2)] [.int j3] := by
    refine r_istore_n X dX7_isLogged_19 20 rfl [(0, .ref (b + t0)), (1, .int a1), (2, .int a2), (3, .int j3)] (by decide) [1, 2, 3, 0] rfl ?_
    refine r_iload_n X 2 rfl dX7_isLogged_20 21 rfl ?_
    refine r_iconst (v := 2) X rfl dX7_isLogged_21 22 rfl ?_
    refine r_icmp_ne X dX7_isLogged_22 33 (by decide) 25 rfl (fun c4 => ?_) (fun c4 => ?_)
    · have h := z_ie c4 h
      refine r_iload_n X 2 rfl dX7_isLogged_33 34 rfl ?_
      refine r_iconst (v := 1) X rfl dX7_isLogged_34 35 rfl ?_
      refine r_icmp_ne X dX7_isLogged_35 58 (by decide) 38 rfl (fun c6 => ?_) (fun c6 => ?_)
      · have h := z_ie c6 h
        refine r_aload_n X 0 rfl dX7_isLogged_58 59 rfl ?_
        refine r_iload_n X 1 rfl dX7_isLogged_59 60 rfl ?_
        obtain ⟨x10, e10, h⟩ := z_bd h
        refine r_callV (rest := []) X (tX7_isAllocated hl G b t0 ht0 a1 M e10) zy_X7_isAllocated zw_X7_isAllocated km_X7_70 ht0 rfl zv_X7 rfl ⟨rfl, rfl⟩ ⟨rfl, rfl⟩ rfl rfl (Nat.le_of_ble_eq_true rfl) ⟨Nat.zero_le _, Nat.zero_le _⟩ dX7_isLogged_60 63 rfl [.int x10] rfl ?_
        refine r_if_ne X dX7_isLogged_63 74 (by decide) 66 rfl (fun c11 => ?_) (fun c11 => ?_)
        · have h := z_ie c11 h
          refine r_iconst (v := 0) X rfl dX7_isLogged_74 75 rfl ?_
          cases h
          exact r_iret X R rfl dX7_isLogged_75
        · have h := z_it c11 h
          refine r_iload_n X 3 rfl dX7_isLogged_66 67 rfl ?_
          refine r_if_eq X dX7_isLogged_67 74 (by decide) 70 rfl (fun c12 => ?_) (fun c12 => ?_)
          · have h := z_it c12 h
            refine r_iconst (v := 0) X rfl dX7_isLogged_74 75 rfl ?_
            cases h
            exact r_iret X R rfl dX7_isLogged_75
          · have h := z_ie c12 h
            refine r_iconst (v := 1) X rfl dX7_isLogged_70 71 rfl ?_
            refine r_goto X dX7_isLogged_71 75 (by decide) ?_
            cases h
            exact r_iret X R rfl dX7_isLogged_75
      · have h := z_it c6 h
        refine r_aload_n X 0 rfl dX7_isLogged_38 39 rfl ?_
        refine r_iload_n X 1 rfl dX7_isLogged_39 40 rfl ?_
        obtain ⟨x7, e7, h⟩ := z_bd h
        refine r_callV (rest := []) X (tX7_isAllocated hl G b t0 ht0 a1 M e7) zy_X7_isAllocated zw_X7_isAllocated km_X7_70 ht0 rfl zv_X7 rfl ⟨rfl, rfl⟩ ⟨rfl, rfl⟩ rfl rfl (Nat.le_of_ble_eq_true rfl) ⟨Nat.zero_le _, Nat.zero_le _⟩ dX7_isLogged_40 43 rfl [.int x7] rfl ?_
        refine r_if_eq X dX7_isLogged_43 54 (by decide) 46 rfl (fun c8 => ?_) (fun c8 => ?_)
        · have h := z_it c8 h
          refine r_iconst (v := 0) X rfl dX7_isLogged_54 55 rfl ?_
          refine r_goto X dX7_isLogged_55 75 (by decide) ?_
          cases h
          exact r_iret X R rfl dX7_isLogged_75
        · have h := z_ie c8 h
          refine r_iload_n X 3 rfl dX7_isLogged_46 47 rfl ?_
          refine r_if_ne X dX7_isLogged_47 54 (by decide) 50 rfl (fun c9 => ?_) (fun c9 => ?_)
          · have h := z_ie c9 h
            refine r_iconst (v := 0) X rfl dX7_isLogged_54 55 rfl ?_
            refine r_goto X dX7_isLogged_55 75 (by decide) ?_
            cases h
            exact r_iret X R rfl dX7_isLogged_75
          · have h := z_it c9 h
            refine r_iconst (v := 1) X rfl dX7_isLogged_50 51 rfl ?_
            refine r_goto X dX7_isLogged_51 75 (by decide) ?_
            cases h
            exact r_iret X R rfl dX7_isLogged_75
    · have h := z_it c4 h
      refine r_aload_n X 0 rfl dX7_isLogged_25 26 rfl ?_
      refine r_iload_n X 1 rfl dX7_isLogged_26 27 rfl ?_
      obtain ⟨x5, e5, h⟩ := z_bd h
      refine r_callV (rest := []) X (tX7_isAllocated hl G b t0 ht0 a1 M e5) zy_X7_isAllocated zw_X7_isAllocated km_X7_70 ht0 rfl zv_X7 rfl ⟨rfl, rfl⟩ ⟨rfl, rfl⟩ rfl rfl (Nat.le_of_ble_eq_true rfl) ⟨Nat.zero_le _, Nat.zero_le _⟩ dX7_isLogged_27 30 rfl [.int x5] rfl ?_
      refine r_goto X dX7_isLogged_30 75 (by decide) ?_
      obtain ⟨hz, h⟩ := z_bz_of h
      cases h
      exact r_iret X R hz dX7_isLogged_75
  have h := hT3
  refine r_icmp_ne X dX7_isLogged_11 18 (by decide) 14 rfl (fun c2 => ?_) (fun c2 => ?_)
  · have h := z_ie c2 h
    refine r_iconst (v := 0) X rfl dX7_isLogged_18 19 rfl ?_
    cases h
    exact hJ3
  · have h := z_it c2 h
    refine r_iconst (v := 1) X rfl dX7_isLogged_14 15 rfl ?_
    refine r_goto X dX7_isLogged_15 19 (by decide) ?_
    cases h
    exact hJ3
set_option maxRecDepth 100000 in
set_option maxHeartbeats 1000000 in
theorem tX7_runs {l : Launch} (hl : l.stackTraces = false) (G : zG) (b : Nat) (t0 : Nat) (ht0 : z_kd t0 = 7) (a1 : Int32) (a2 : Int32) (a3 : Int32) (M : zM) {r9 : Int32} {M9 : zM} (h : fX7_runs t0 a1 a2 a3 M = some (r9, M9)) : z_MN l yX7_runs cX7_runs 9 (some .int) { frames := 2, cells := 0, slots := 0, locals := 44 } G b [.ref (b + t0), .int a1, .int a2, .int a3] M (some (.int r9)) M9 := by
  refine z_met (own := RX7) hl (by decide) rfl rfl (fun Γ hΓ X R => ?_)
  subst hΓ
  show GW Γ G b 0 0 M 0 [(0, .ref (b + t0)), (1, .int a1), (2, .int a2), (3, .int a3)] []
  unfold fX7_runs at h
  refine r_iconst (v := 0) X rfl dX7_runs_0 1 rfl ?_
  refine r_istore X dX7_runs_1 3 rfl [(0, .ref (b + t0)), (1, .int a1), (2, .int a2), (3, .int a3), (4, .int 0)] (by decide) [1, 2, 3, 4, 0] rfl ?_
  refine r_bipush (v := 32) X rfl dX7_runs_3 5 rfl ?_
  refine r_iload_n X 1 rfl dX7_runs_5 6 rfl ?_
  refine r_imul X dX7_runs_6 7 rfl ?_
  refine r_bipush (v := 32) X rfl dX7_runs_7 9 rfl ?_
  refine r_iadd X dX7_runs_9 10 rfl ?_
  refine r_istore X dX7_runs_10 12 rfl [(0, .ref (b + t0)), (1, .int a1), (2, .int a2), (3, .int a3), (4, .int 0), (5, .int ((32 * a1) + 32))] (by decide) [1, 2, 3, 4, 5, 0] rfl ?_
  refine r_bipush (v := 32) X rfl dX7_runs_12 14 rfl ?_
  refine r_iload_n X 1 rfl dX7_runs_14 15 rfl ?_
  refine r_imul X dX7_runs_15 16 rfl ?_
  refine r_istore X dX7_runs_16 18 rfl [(0, .ref (b + t0)), (1, .int a1), (2, .int a2), (3, .int a3), (4, .int 0), (5, .int ((32 * a1) + 32)), (6, .int (32 * a1))] (by decide) [1, 2, 3, 4, 5, 6, 0] rfl ?_
  obtain ⟨x4, M5, hL6, h⟩ := z_bd2 h
  have hK6 : GW Γ G b 0 0 M5 153 [(4, .int x4)] [] := by
    refine r_iload X 0 rfl dX7_runs_153 155 rfl ?_
    cases h
    exact r_iret X R rfl dX7_runs_155
  clear h
  refine z_loopP (fun (s : (Int32 × Int32 × zM)) => GW Γ G b 0 0 s.2.2 18 [(0, .ref (b + t0)), (1, .int a1), (2, .int a2), (3, .int a3), (4, .int s.1), (5, .int ((32 * a1) + 32)), (6, .int s.2.1)] []) (fun s q6 hb hP6 hx6 => ?_) _ _ hL6
  obtain ⟨x1, x2, M3⟩ := s
  have h : fX7_runs_L1 t0 a1 a2 a3 x1 x2 M3 = some q6 := hb
  unfold fX7_runs_L1 at h
  refine r_iload X 6 rfl dX7_runs_18 20 rfl ?_
  refine r_iload X 5 rfl dX7_runs_20 22 rfl ?_
  refine r_icmp_ge X dX7_runs_22 153 (by decide) 25 rfl (fun c7 => ?_) (fun c7 => ?_)
  · have h := z_it c7 h
    refine r_sub [(4, .int x1)] [4] rfl ?_
    have e := hx6 _ (Option.some.inj h).symm
    cases e
    exact hK6
  · have h := z_ie c7 h
    refine r_iconst (v := 0) X rfl dX7_runs_25 26 rfl ?_
    refine r_istore X dX7_runs_26 28 rfl [(0, .ref (b + t0)), (1, .int a1), (2, .int a2), (3, .int a3), (4, .int x1), (5, .int ((32 * a1) + 32)), (6, .int x2), (7, .int 0)] (by decide) [1, 2, 3, 4, 5, 6, 7, 0] rfl ?_
    obtain ⟨x9, hL10, h⟩ := z_bd h
    have hK10 : GW Γ G b 0 0 M3 57 [(0, .ref (b + t0)), (1, .int a1), (2, .int a2), (3, .int a3), (4, .int x1), (5, .int ((32 * a1) + 32)), (6, .int x2), (7, .int x9)] [] := by
      refine r_iload X 7 rfl dX7_runs_57 59 rfl ?_
      obtain ⟨M12, hT12, h⟩ := z_bd h
      have hJ12 : GW Γ G b 0 0 M12 126 [(0, .ref (b + t0)), (1, .int a1), (2, .int a2), (3, .int a3), (4, .int x1), (5, .int ((32 * a1) + 32)), (6, .int x2), (7, .int x9)] [] := by
        refine r_iload X 4 rfl dX7_runs_126 128 rfl ?_
        refine r_iload X 7 rfl dX7_runs_128 130 rfl ?_
        obtain ⟨j14, hT14, h⟩ := z_bd h
        have hJ14 : GW Γ G b 0 0 M12 138 [(0, .ref (b + t0)), (1, .int a1), (2, .int a2), (3, .int a3), (5, .int ((32 * a1) + 32)), (6, .int x2), (7, .int x9)] [.int j14, .int x1] := by
          refine r_iadd X dX7_runs_138 139 rfl ?_
          refine r_istore X dX7_runs_139 141 rfl [(0, .ref (b + t0)), (1, .int a1), (2, .int a2), (3, .int a3), (4, .int (x1 + j14)), (5, .int ((32 * a1) + 32)), (6, .int x2), (7, .int x9)] (by decide) [1, 2, 3, 4, 0, 5, 6, 7] rfl ?_
          refine r_iload X 6 rfl dX7_runs_141 143 rfl ?_
          refine r_iload X 7 rfl dX7_runs_143 145 rfl ?_
          refine r_iconst (v := 1) X rfl dX7_runs_145 146 rfl ?_
          refine r_iadd X dX7_runs_146 147 rfl ?_
          refine r_iadd X dX7_runs_147 148 rfl ?_
          refine r_istore X dX7_runs_148 150 rfl [(0, .ref (b + t0)), (1, .int a1), (2, .int a2), (3, .int a3), (4, .int (x1 + j14)), (5, .int ((32 * a1) + 32)), (6, .int (x2 + (x9 + 1)))] (by decide) [1, 2, 3, 4, 5, 6, 0] rfl ?_
          refine r_goto X dX7_runs_150 18 (by decide) ?_
          exact hP6 ((x1 + j14), (x2 + (x9 + 1)), M12) (Option.some.inj h).symm
        have h := hT14
        refine r_if_le X dX7_runs_130 137 (by decide) 133 rfl (fun c13 => ?_) (fun c13 => ?_)
        · have h := z_it c13 h
          refine r_iconst (v := 0) X rfl dX7_runs_137 138 rfl ?_
          refine r_sub [(0, .ref (b + t0)), (1, .int a1), (2, .int a2), (3, .int a3), (5, .int ((32 * a1) + 32)), (6, .int x2), (7, .int x9)] [0, 1, 2, 3, 5, 6, 7] rfl ?_
          cases h
          exact hJ14
        · have h := z_ie c13 h
          refine r_iconst (v := 1) X rfl dX7_runs_133 134 rfl ?_
          refine r_goto X dX7_runs_134 138 (by decide) ?_
          refine r_sub [(0, .ref (b + t0)), (1, .int a1), (2, .int a2), (3, .int a3), (5, .int ((32 * a1) + 32)), (6, .int x2), (7, .int x9)] [0, 1, 2, 3, 5, 6, 7] rfl ?_
          cases h
          exact hJ14
      have h := hT12
      refine r_if_le X dX7_runs_59 126 (by decide) 62 rfl (fun c11 => ?_) (fun c11 => ?_)
      · have h := z_it c11 h
        cases h
        exact hJ12
      · have h := z_ie c11 h
        refine r_iload_n X 3 rfl dX7_runs_62 63 rfl ?_
        refine r_if_eq X dX7_runs_63 126 (by decide) 66 rfl (fun c15 => ?_) (fun c15 => ?_)
        · have h := z_it c15 h
          cases h
          exact hJ12
        · have h := z_ie c15 h
          refine r_bipush (v := 100) X rfl dX7_runs_66 68 rfl ?_
          refine r_iload X 6 rfl dX7_runs_68 70 rfl ?_
          refine r_imul X dX7_runs_70 71 rfl ?_
          refine r_iload X 7 rfl dX7_runs_71 73 rfl ?_
          refine r_iadd X dX7_runs_73 74 rfl ?_
          refine r_istore X dX7_runs_74 76 rfl [(0, .ref (b + t0)), (1, .int a1), (2, .int a2), (3, .int a3), (4, .int x1), (5, .int ((32 * a1) + 32)), (6, .int x2), (7, .int x9), (8, .int ((100 * x2) + x9))] (by decide) [1, 2, 3, 4, 5, 6, 7, 8, 0] rfl ?_
          refine r_aload_n X 0 rfl dX7_runs_76 77 rfl ?_
          refine r_get (v := .ref (b + (t0 + 1))) X ht0 rfl zv_X7 zi_X7 rfl kf_X7_7 rfl rfl dX7_runs_77 80 rfl ?_
          refine r_sipush (v := 3070) X rfl dX7_runs_80 83 rfl ?_
          refine r_bipush (v := 80) X rfl dX7_runs_83 85 rfl ?_
          refine r_iload_n X 1 rfl dX7_runs_85 86 rfl ?_
          refine r_imul X dX7_runs_86 87 rfl ?_
          refine r_iadd X dX7_runs_87 88 rfl ?_
          refine r_aload_n X 0 rfl dX7_runs_88 89 rfl ?_
          refine r_get (v := .ref (b + (t0 + 1))) X ht0 rfl zv_X7 zi_X7 rfl kf_X7_7 rfl rfl dX7_runs_89 92 rfl ?_
          refine r_sipush (v := 3390) X rfl dX7_runs_92 95 rfl ?_
          refine r_iload_n X 1 rfl dX7_runs_95 96 rfl ?_
          refine r_iadd X dX7_runs_96 97 rfl ?_
          obtain ⟨x16, e16, h⟩ := z_bd h
          refine r_iaload X (zk_7_0 ht0) (zn_7_0 ht0) e16 dX7_runs_97 98 rfl ?_
          refine r_iadd X dX7_runs_98 99 rfl ?_
          refine r_iload_n X 2 rfl dX7_runs_99 100 rfl ?_
          obtain ⟨j18, hT18, h⟩ := z_bd h
          have hJ18 : GW Γ G b 0 0 M3 111 [(0, .ref (b + t0)), (1, .int a1), (2, .int a2), (3, .int a3), (4, .int x1), (5, .int ((32 * a1) + 32)), (6, .int x2), (7, .int x9)] [.int j18, .int ((3070 + (80 * a1)) + x16), .ref (b + (t0 + 1))] := by
            obtain ⟨M19, e19, h⟩ := z_bd h
            refine r_iastore X (zk_7_0 ht0) (zn_7_0 ht0) e19 dX7_runs_111 112 rfl ?_
            refine r_aload_n X 0 rfl dX7_runs_112 113 rfl ?_
            refine r_get (v := .ref (b + (t0 + 1))) X ht0 rfl zv_X7 zi_X7 rfl kf_X7_7 rfl rfl dX7_runs_113 116 rfl ?_
            refine r_sipush (v := 3390) X rfl dX7_runs_116 119 rfl ?_
            refine r_iload_n X 1 rfl dX7_runs_119 120 rfl ?_
            refine r_iadd X dX7_runs_120 121 rfl ?_
            refine r_dup2 X rfl rfl dX7_runs_121 122 rfl ?_
            obtain ⟨x20, e20, h⟩ := z_bd h
            refine r_iaload X (zk_7_0 ht0) (zn_7_0 ht0) e20 dX7_runs_122 123 rfl ?_
            refine r_iconst (v := 1) X rfl dX7_runs_123 124 rfl ?_
            refine r_iadd X dX7_runs_124 125 rfl ?_
            obtain ⟨M21, e21, h⟩ := z_bd h
            refine r_iastore X (zk_7_0 ht0) (zn_7_0 ht0) e21 dX7_runs_125 126 rfl ?_
            cases h
            exact hJ12
          have h := hT18
          refine r_if_ne X dX7_runs_100 109 (by decide) 103 rfl (fun c17 => ?_) (fun c17 => ?_)
          · have h := z_ie c17 h
            refine r_iload X 8 rfl dX7_runs_109 111 rfl ?_
            refine r_sub [(0, .ref (b + t0)), (1, .int a1), (2, .int a2), (3, .int a3), (4, .int x1), (5, .int ((32 * a1) + 32)), (6, .int x2), (7, .int x9)] [0, 1, 2, 3, 4, 5, 6, 7] rfl ?_
            cases h
            exact hJ18
          · have h := z_it c17 h
            refine r_iload X 8 rfl dX7_runs_103 105 rfl ?_
            refine r_ineg X dX7_runs_105 106 rfl ?_
            refine r_goto X dX7_runs_106 111 (by decide) ?_
            refine r_sub [(0, .ref (b + t0)), (1, .int a1), (2, .int a2), (3, .int a3), (4, .int x1), (5, .int ((32 * a1) + 32)), (6, .int x2), (7, .int x9)] [0, 1, 2, 3, 4, 5, 6, 7] rfl ?_
            cases h
            exact hJ18
    clear h
    refine z_loopP (fun (s : Int32) => GW Γ G b 0 0 M3 28 [(0, .ref (b + t0)), (1, .int a1), (2, .int a2), (3, .int a3), (4, .int x1), (5, .int ((32 * a1) + 32)), (6, .int x2), (7, .int s)] []) (fun s q10 hb hP10 hx10 => ?_) _ _ hL10
    obtain ⟨x8, rfl⟩ : ∃ y, y = s := ⟨s, rfl⟩
    have h : fX7_runs_L2 t0 a1 a2 x2 M3 x8 = some q10 := hb
    unfold fX7_runs_L2 at h
    refine r_iload X 6 rfl dX7_runs_28 30 rfl ?_
    refine r_iload X 7 rfl dX7_runs_30 32 rfl ?_
    refine r_iadd X dX7_runs_32 33 rfl ?_
    refine r_iload X 5 rfl dX7_runs_33 35 rfl ?_
    refine r_icmp_ge X dX7_runs_35 57 (by decide) 38 rfl (fun c22 => ?_) (fun c22 => ?_)
    · have h := z_it c22 h
      have e := hx10 _ (Option.some.inj h).symm
      cases e
      exact hK10
    · have h := z_ie c22 h
      refine r_aload_n X 0 rfl dX7_runs_38 39 rfl ?_
      refine r_iload X 6 rfl dX7_runs_39 41 rfl ?_
      refine r_iload X 7 rfl dX7_runs_41 43 rfl ?_
      refine r_iadd X dX7_runs_43 44 rfl ?_
      refine r_iload_n X 2 rfl dX7_runs_44 45 rfl ?_
      obtain ⟨x23, e23, h⟩ := z_bd h
      refine r_callV (rest := []) X (tX7_isLogged hl G b t0 ht0 (x2 + x8) a2 M3 e23) zy_X7_isLogged zw_X7_isLogged km_X7_73 ht0 rfl zv_X7 rfl ⟨rfl, rfl⟩ ⟨rfl, rfl⟩ rfl rfl (Nat.le_of_ble_eq_true rfl) ⟨Nat.zero_le _, Nat.zero_le _⟩ dX7_runs_45 48 rfl [.int x23] rfl ?_
      refine r_if_eq X dX7_runs_48 57 (by decide) 51 rfl (fun c24 => ?_) (fun c24 => ?_)
      · have h := z_it c24 h
        have e := hx10 _ (Option.some.inj h).symm
        cases e
        exact hK10
      · have h := z_ie c24 h
        refine r_iinc X dX7_runs_51 54 rfl [(0, .ref (b + t0)), (1, .int a1), (2, .int a2), (3, .int a3), (4, .int x1), (5, .int ((32 * a1) + 32)), (6, .int x2), (7, .int (x8 + 1))] (by decide) 7 rfl (x8 + 1) rfl [1, 2, 3, 4, 5, 6, 7, 0] rfl ?_
        refine r_goto X dX7_runs_54 28 (by decide) ?_
        exact hP10 (x8 + 1) (Option.some.inj h).symm
set_option maxRecDepth 100000 in
set_option maxHeartbeats 1000000 in
theorem tX7_commits {l : Launch} (hl : l.stackTraces = false) (G : zG) (b : Nat) (t0 : Nat) (ht0 : z_kd t0 = 7) (M : zM) {r9 : Int32} {M9 : zM} (h : fX7_commits t0 M = some (r9, M9)) : z_MN l yX7_commits cX7_commits 4 (some .int) { frames := 3, cells := 0, slots := 0, locals := 72 } G b [.ref (b + t0)] M (some (.int r9)) M9 := by
  refine z_met (own := RX7) hl (by decide) rfl rfl (fun Γ hΓ X R => ?_)
  subst hΓ
  show GW Γ G b 0 0 M 0 [(0, .ref (b + t0))] []
  unfold fX7_commits at h
  refine r_iconst (v := 0) X rfl dX7_commits_0 1 rfl ?_
  refine r_istore_n X dX7_commits_1 2 rfl [(0, .ref (b + t0)), (1, .int 0)] (by decide) [1, 0] rfl ?_
  obtain ⟨M3, hL4, h⟩ := z_bd h
  have hK4 : GW Γ G b 0 0 M3 100 [(0, .ref (b + t0))] [] := by
    refine r_iconst (v := 0) X rfl dX7_commits_100 101 rfl ?_
    refine r_istore_n X dX7_commits_101 102 rfl [(0, .ref (b + t0)), (1, .int 0)] (by decide) [1, 0] rfl ?_
    obtain ⟨M7, hL8, h⟩ := z_bd h
    have hK8 : GW Γ G b 0 0 M7 149 [(0, .ref (b + t0))] [] := by
      refine r_aload_n X 0 rfl dX7_commits_149 150 rfl ?_
      refine r_get (v := .ref (b + (t0 + 1))) X ht0 rfl zv_X7 zi_X7 rfl kf_X7_7 rfl rfl dX7_commits_150 153 rfl ?_
      refine r_sipush (v := 3395) X rfl dX7_commits_153 156 rfl ?_
      refine r_dup2 X rfl rfl dX7_commits_156 157 rfl ?_
      obtain ⟨x9, e9, h⟩ := z_bd h
      refine r_iaload X (zk_7_0 ht0) (zn_7_0 ht0) e9 dX7_commits_157 158 rfl ?_
      refine r_iconst (v := 1) X rfl dX7_commits_158 159 rfl ?_
      refine r_iadd X dX7_commits_159 160 rfl ?_
      obtain ⟨M10, e10, h⟩ := z_bd h
      refine r_iastore X (zk_7_0 ht0) (zn_7_0 ht0) e10 dX7_commits_160 161 rfl ?_
      refine r_iconst (v := 0) X rfl dX7_commits_161 162 rfl ?_
      refine r_istore_n X dX7_commits_162 163 rfl [(0, .ref (b + t0)), (1, .int 0)] (by decide) [1, 0] rfl ?_
      obtain ⟨M13, hL14, h⟩ := z_bd h
      have hK14 : GW Γ G b 0 0 M13 188 [(0, .ref (b + t0))] [] := by
        refine r_aload_n X 0 rfl dX7_commits_188 189 rfl ?_
        refine r_get (v := .ref (b + (t0 + 1))) X ht0 rfl zv_X7 zi_X7 rfl kf_X7_7 rfl rfl dX7_commits_189 192 rfl ?_
        refine r_sipush (v := 3395) X rfl dX7_commits_192 195 rfl ?_
        obtain ⟨x15, e15, h⟩ := z_bd h
        refine r_iaload X (zk_7_0 ht0) (zn_7_0 ht0) e15 dX7_commits_195 196 rfl ?_
        refine r_iconst (v := 1) X rfl dX7_commits_196 197 rfl ?_
        refine r_isub X dX7_commits_197 198 rfl ?_
        cases h
        exact r_iret X R rfl dX7_commits_198
      clear h
      refine z_loopP (fun (s : (Int32 × zM)) => GW Γ G b 0 0 s.2 163 [(0, .ref (b + t0)), (1, .int s.1)] []) (fun s q14 hb hP14 hx14 => ?_) _ _ hL14
      obtain ⟨x11, M12⟩ := s
      have h : fX7_commits_L3 t0 x11 M12 = some q14 := hb
      unfold fX7_commits_L3 at h
      refine r_iload_n X 1 rfl dX7_commits_163 164 rfl ?_
      refine r_sipush (v := 3397) X rfl dX7_commits_164 167 rfl ?_
      refine r_icmp_ge X dX7_commits_167 188 (by decide) 170 rfl (fun c16 => ?_) (fun c16 => ?_)
      · have h := z_it c16 h
        refine r_sub [(0, .ref (b + t0))] [0] rfl ?_
        have e := hx14 _ (Option.some.inj h).symm
        cases e
        exact hK14
      · have h := z_ie c16 h
        refine r_aload_n X 0 rfl dX7_commits_170 171 rfl ?_
        refine r_get (v := .ref (b + (t0 + 2))) X ht0 rfl zv_X7 zi_X7 rfl kf_X7_13 rfl rfl dX7_commits_171 174 rfl ?_
        refine r_iload_n X 1 rfl dX7_commits_174 175 rfl ?_
        refine r_aload_n X 0 rfl dX7_commits_175 176 rfl ?_
        refine r_get (v := .ref (b + (t0 + 1))) X ht0 rfl zv_X7 zi_X7 rfl kf_X7_7 rfl rfl dX7_commits_176 179 rfl ?_
        refine r_iload_n X 1 rfl dX7_commits_179 180 rfl ?_
        obtain ⟨x17, e17, h⟩ := z_bd h
        refine r_iaload X (zk_7_0 ht0) (zn_7_0 ht0) e17 dX7_commits_180 181 rfl ?_
        obtain ⟨M18, e18, h⟩ := z_bd h
        refine r_iastore X (zk_7_1 ht0) (zn_7_1 ht0) e18 dX7_commits_181 182 rfl ?_
        refine r_iinc X dX7_commits_182 185 rfl [(0, .ref (b + t0)), (1, .int (x11 + 1))] (by decide) 1 rfl (x11 + 1) rfl [1, 0] rfl ?_
        refine r_goto X dX7_commits_185 163 (by decide) ?_
        exact hP14 ((x11 + 1), M18) (Option.some.inj h).symm
    clear h
    refine z_loopP (fun (s : (Int32 × zM)) => GW Γ G b 0 0 s.2 102 [(0, .ref (b + t0)), (1, .int s.1)] []) (fun s q8 hb hP8 hx8 => ?_) _ _ hL8
    obtain ⟨x5, M6⟩ := s
    have h : fX7_commits_L2 t0 x5 M6 = some q8 := hb
    unfold fX7_commits_L2 at h
    refine r_iload_n X 1 rfl dX7_commits_102 103 rfl ?_
    refine r_sipush (v := 128) X rfl dX7_commits_103 106 rfl ?_
    refine r_icmp_ge X dX7_commits_106 149 (by decide) 109 rfl (fun c19 => ?_) (fun c19 => ?_)
    · have h := z_it c19 h
      refine r_sub [(0, .ref (b + t0))] [0] rfl ?_
      have e := hx8 _ (Option.some.inj h).symm
      cases e
      exact hK8
    · have h := z_ie c19 h
      refine r_aload_n X 0 rfl dX7_commits_109 110 rfl ?_
      refine r_get (v := .ref (b + (t0 + 1))) X ht0 rfl zv_X7 zi_X7 rfl kf_X7_7 rfl rfl dX7_commits_110 113 rfl ?_
      refine r_sipush (v := 2686) X rfl dX7_commits_113 116 rfl ?_
      refine r_iload_n X 1 rfl dX7_commits_116 117 rfl ?_
      refine r_iadd X dX7_commits_117 118 rfl ?_
      refine r_iconst (v := 0) X rfl dX7_commits_118 119 rfl ?_
      obtain ⟨M20, e20, h⟩ := z_bd h
      refine r_iastore X (zk_7_0 ht0) (zn_7_0 ht0) e20 dX7_commits_119 120 rfl ?_
      refine r_aload_n X 0 rfl dX7_commits_120 121 rfl ?_
      refine r_get (v := .ref (b + (t0 + 1))) X ht0 rfl zv_X7 zi_X7 rfl kf_X7_7 rfl rfl dX7_commits_121 124 rfl ?_
      refine r_sipush (v := 2942) X rfl dX7_commits_124 127 rfl ?_
      refine r_iload_n X 1 rfl dX7_commits_127 128 rfl ?_
      refine r_iadd X dX7_commits_128 129 rfl ?_
      refine r_aload_n X 0 rfl dX7_commits_129 130 rfl ?_
      refine r_iload_n X 1 rfl dX7_commits_130 131 rfl ?_
      obtain ⟨x21, e21, h⟩ := z_bd h
      refine r_callV (rest := [.int (2942 + x5), .ref (b + (t0 + 1))]) X (tX7_isAllocated hl G b t0 ht0 x5 M20 e21) zy_X7_isAllocated zw_X7_isAllocated km_X7_70 ht0 rfl zv_X7 rfl ⟨rfl, rfl⟩ ⟨rfl, rfl⟩ rfl rfl (Nat.le_of_ble_eq_true rfl) ⟨Nat.zero_le _, Nat.zero_le _⟩ dX7_commits_131 134 rfl [.int x21, .int (2942 + x5), .ref (b + (t0 + 1))] rfl ?_
      refine r_if_eq X dX7_commits_134 141 (by decide) 137 rfl (fun c22 => ?_) (fun c22 => ?_)
      · have h := z_it c22 h
        refine r_iconst (v := 0) X rfl dX7_commits_141 142 rfl ?_
        obtain ⟨M23, e23, h⟩ := z_bd h
        refine r_iastore X (zk_7_0 ht0) (zn_7_0 ht0) e23 dX7_commits_142 143 rfl ?_
        refine r_iinc X dX7_commits_143 146 rfl [(0, .ref (b + t0)), (1, .int (x5 + 1))] (by decide) 1 rfl (x5 + 1) rfl [1, 0] rfl ?_
        refine r_goto X dX7_commits_146 102 (by decide) ?_
        exact hP8 ((x5 + 1), M23) (Option.some.inj h).symm
      · have h := z_ie c22 h
        refine r_iconst (v := 1) X rfl dX7_commits_137 138 rfl ?_
        refine r_goto X dX7_commits_138 142 (by decide) ?_
        obtain ⟨M24, e24, h⟩ := z_bd h
        refine r_iastore X (zk_7_0 ht0) (zn_7_0 ht0) e24 dX7_commits_142 143 rfl ?_
        refine r_iinc X dX7_commits_143 146 rfl [(0, .ref (b + t0)), (1, .int (x5 + 1))] (by decide) 1 rfl (x5 + 1) rfl [1, 0] rfl ?_
        refine r_goto X dX7_commits_146 102 (by decide) ?_
        exact hP8 ((x5 + 1), M24) (Option.some.inj h).symm
  clear h
  refine z_loopP (fun (s : (Int32 × zM)) => GW Γ G b 0 0 s.2 2 [(0, .ref (b + t0)), (1, .int s.1)] []) (fun s q4 hb hP4 hx4 => ?_) _ _ hL4
  obtain ⟨x1, M2⟩ := s
  have h : fX7_commits_L1 t0 x1 M2 = some q4 := hb
  unfold fX7_commits_L1 at h
  refine r_iload_n X 1 rfl dX7_commits_2 3 rfl ?_
  refine r_iconst (v := 4) X rfl dX7_commits_3 4 rfl ?_
  refine r_icmp_ge X dX7_commits_4 100 (by decide) 7 rfl (fun c25 => ?_) (fun c25 => ?_)
  · have h := z_it c25 h
    refine r_sub [(0, .ref (b + t0))] [0] rfl ?_
    have e := hx4 _ (Option.some.inj h).symm
    cases e
    exact hK4
  · have h := z_ie c25 h
    refine r_aload_n X 0 rfl dX7_commits_7 8 rfl ?_
    refine r_iload_n X 1 rfl dX7_commits_8 9 rfl ?_
    refine r_iconst (v := 1) X rfl dX7_commits_9 10 rfl ?_
    refine r_iconst (v := 1) X rfl dX7_commits_10 11 rfl ?_
    obtain ⟨x26, M27, e27, h⟩ := z_bd2 h
    refine r_callV (rest := []) X (tX7_runs hl G b t0 ht0 x1 1 1 M2 e27) zy_X7_runs zw_X7_runs km_X7_76 ht0 rfl zv_X7 rfl ⟨rfl, rfl⟩ ⟨rfl, rfl⟩ rfl rfl (Nat.le_of_ble_eq_true rfl) ⟨Nat.zero_le _, Nat.zero_le _⟩ dX7_commits_11 14 rfl [.int x26] rfl ?_
    refine r_istore_n X dX7_commits_14 15 rfl [(0, .ref (b + t0)), (1, .int x1), (2, .int x26)] (by decide) [1, 2, 0] rfl ?_
    refine r_iload_n X 2 rfl dX7_commits_15 16 rfl ?_
    refine r_aload_n X 0 rfl dX7_commits_16 17 rfl ?_
    refine r_iload_n X 1 rfl dX7_commits_17 18 rfl ?_
    refine r_iconst (v := 0) X rfl dX7_commits_18 19 rfl ?_
    refine r_iconst (v := 1) X rfl dX7_commits_19 20 rfl ?_
    obtain ⟨x28, M29, e29, h⟩ := z_bd2 h
    refine r_callV (rest := [.int x26]) X (tX7_runs hl G b t0 ht0 x1 0 1 M27 e29) zy_X7_runs zw_X7_runs km_X7_76 ht0 rfl zv_X7 rfl ⟨rfl, rfl⟩ ⟨rfl, rfl⟩ rfl rfl (Nat.le_of_ble_eq_true rfl) ⟨Nat.zero_le _, Nat.zero_le _⟩ dX7_commits_20 23 rfl [.int x28, .int x26] rfl ?_
    refine r_iadd X dX7_commits_23 24 rfl ?_
    refine r_istore_n X dX7_commits_24 25 rfl [(0, .ref (b + t0)), (1, .int x1), (2, .int (x26 + x28))] (by decide) [1, 2, 0] rfl ?_
    refine r_iload_n X 2 rfl dX7_commits_25 26 rfl ?_
    obtain ⟨j31, M32, hT32, h⟩ := z_bd2 h
    have hJ32 : GW Γ G b 0 0 M32 58 [(0, .ref (b + t0)), (1, .int x1)] [.int j31] := by
      refine r_istore_n X dX7_commits_58 59 rfl [(0, .ref (b + t0)), (1, .int x1), (3, .int j31)] (by decide) [1, 2, 0] rfl ?_
      refine r_iload_n X 2 rfl dX7_commits_59 60 rfl ?_
      refine r_if_eq X dX7_commits_60 94 (by decide) 63 rfl (fun c33 => ?_) (fun c33 => ?_)
      · have h := z_it c33 h
        refine r_iinc X dX7_commits_94 97 rfl [(0, .ref (b + t0)), (1, .int (x1 + 1))] (by decide) 1 rfl (x1 + 1) rfl [1, 0] rfl ?_
        refine r_goto X dX7_commits_97 2 (by decide) ?_
        exact hP4 ((x1 + 1), M32) (Option.some.inj h).symm
      · have h := z_ie c33 h
        refine r_aload_n X 0 rfl dX7_commits_63 64 rfl ?_
        refine r_get (v := .ref (b + (t0 + 1))) X ht0 rfl zv_X7 zi_X7 rfl kf_X7_7 rfl rfl dX7_commits_64 67 rfl ?_
        refine r_sipush (v := 3390) X rfl dX7_commits_67 70 rfl ?_
        refine r_iload_n X 1 rfl dX7_commits_70 71 rfl ?_
        refine r_iadd X dX7_commits_71 72 rfl ?_
        refine r_iconst (v := 0) X rfl dX7_commits_72 73 rfl ?_
        obtain ⟨M34, e34, h⟩ := z_bd h
        refine r_iastore X (zk_7_0 ht0) (zn_7_0 ht0) e34 dX7_commits_73 74 rfl ?_
        refine r_aload_n X 0 rfl dX7_commits_74 75 rfl ?_
        refine r_iload_n X 1 rfl dX7_commits_75 76 rfl ?_
        refine r_iconst (v := 2) X rfl dX7_commits_76 77 rfl ?_
        refine r_iconst (v := 1) X rfl dX7_commits_77 78 rfl ?_
        obtain ⟨x35, M36, e36, h⟩ := z_bd2 h
        refine r_callV (rest := []) X (tX7_runs hl G b t0 ht0 x1 2 1 M34 e36) zy_X7_runs zw_X7_runs km_X7_76 ht0 rfl zv_X7 rfl ⟨rfl, rfl⟩ ⟨rfl, rfl⟩ rfl rfl (Nat.le_of_ble_eq_true rfl) ⟨Nat.zero_le _, Nat.zero_le _⟩ dX7_commits_78 81 rfl [.int x35] rfl ?_
        refine r_istore_n X dX7_commits_81 82 rfl [(0, .ref (b + t0)), (1, .int x1)] (by decide) [1, 2] rfl ?_
        refine r_aload_n X 0 rfl dX7_commits_82 83 rfl ?_
        refine r_get (v := .ref (b + (t0 + 1))) X ht0 rfl zv_X7 zi_X7 rfl kf_X7_7 rfl rfl dX7_commits_83 86 rfl ?_
        refine r_sipush (v := 3396) X rfl dX7_commits_86 89 rfl ?_
        refine r_dup2 X rfl rfl dX7_commits_89 90 rfl ?_
        obtain ⟨x37, e37, h⟩ := z_bd h
        refine r_iaload X (zk_7_0 ht0) (zn_7_0 ht0) e37 dX7_commits_90 91 rfl ?_
        refine r_iconst (v := 1) X rfl dX7_commits_91 92 rfl ?_
        refine r_iadd X dX7_commits_92 93 rfl ?_
        obtain ⟨M38, e38, h⟩ := z_bd h
        refine r_iastore X (zk_7_0 ht0) (zn_7_0 ht0) e38 dX7_commits_93 94 rfl ?_
        refine r_iinc X dX7_commits_94 97 rfl [(0, .ref (b + t0)), (1, .int (x1 + 1))] (by decide) 1 rfl (x1 + 1) rfl [1, 0] rfl ?_
        refine r_goto X dX7_commits_97 2 (by decide) ?_
        exact hP4 ((x1 + 1), M38) (Option.some.inj h).symm
    have h := hT32
    refine r_if_lt X dX7_commits_26 57 (by decide) 29 rfl (fun c30 => ?_) (fun c30 => ?_)
    · have h := z_it c30 h
      refine r_iconst (v := 0) X rfl dX7_commits_57 58 rfl ?_
      refine r_sub [(0, .ref (b + t0)), (1, .int x1)] [0, 1] rfl ?_
      cases h
      exact hJ32
    · have h := z_ie c30 h
      refine r_aload_n X 0 rfl dX7_commits_29 30 rfl ?_
      refine r_get (v := .ref (b + (t0 + 1))) X ht0 rfl zv_X7 zi_X7 rfl kf_X7_7 rfl rfl dX7_commits_30 33 rfl ?_
      refine r_sipush (v := 3390) X rfl dX7_commits_33 36 rfl ?_
      refine r_iload_n X 1 rfl dX7_commits_36 37 rfl ?_
      refine r_iadd X dX7_commits_37 38 rfl ?_
      obtain ⟨x39, e39, h⟩ := z_bd h
      refine r_iaload X (zk_7_0 ht0) (zn_7_0 ht0) e39 dX7_commits_38 39 rfl ?_
      refine r_iconst (v := 2) X rfl dX7_commits_39 40 rfl ?_
      refine r_aload_n X 0 rfl dX7_commits_40 41 rfl ?_
      refine r_iload_n X 1 rfl dX7_commits_41 42 rfl ?_
      refine r_iconst (v := 2) X rfl dX7_commits_42 43 rfl ?_
      refine r_iconst (v := 0) X rfl dX7_commits_43 44 rfl ?_
      obtain ⟨x40, M41, e41, h⟩ := z_bd2 h
      refine r_callV (rest := [.int 2, .int x39]) X (tX7_runs hl G b t0 ht0 x1 2 0 M29 e41) zy_X7_runs zw_X7_runs km_X7_76 ht0 rfl zv_X7 rfl ⟨rfl, rfl⟩ ⟨rfl, rfl⟩ rfl rfl (Nat.le_of_ble_eq_true rfl) ⟨Nat.zero_le _, Nat.zero_le _⟩ dX7_commits_44 47 rfl [.int x40, .int 2, .int x39] rfl ?_
      refine r_imul X dX7_commits_47 48 rfl ?_
      refine r_iconst (v := 2) X rfl dX7_commits_48 49 rfl ?_
      refine r_iadd X dX7_commits_49 50 rfl ?_
      refine r_icmp_le X dX7_commits_50 57 (by decide) 53 rfl (fun c42 => ?_) (fun c42 => ?_)
      · have h := z_it c42 h
        refine r_iconst (v := 0) X rfl dX7_commits_57 58 rfl ?_
        refine r_sub [(0, .ref (b + t0)), (1, .int x1)] [0, 1] rfl ?_
        cases h
        exact hJ32
      · have h := z_ie c42 h
        refine r_iconst (v := 1) X rfl dX7_commits_53 54 rfl ?_
        refine r_goto X dX7_commits_54 58 (by decide) ?_
        refine r_sub [(0, .ref (b + t0)), (1, .int x1)] [0, 1] rfl ?_
        cases h
        exact hJ32
set_option maxRecDepth 100000 in
set_option maxHeartbeats 1000000 in
theorem tX7_isShot {l : Launch} (hl : l.stackTraces = false) (G : zG) (b : Nat) (t0 : Nat) (ht0 : z_kd t0 = 7) (a1 : Int32) (a2 : Int32) (a3 : Int32) (M : zM) {r9 : Int32} {M9 : zM} (h : fX7_isShot t0 a1 a2 a3 M = some (r9, M9)) : z_MN l yX7_isShot cX7_isShot 4 (some .boolean) { frames := 3, cells := 0, slots := 0, locals := 63 } G b [.ref (b + t0), .int a1, .int a2, .int a3] M (some (.int r9)) M9 := by
  refine z_met (own := RX7) hl (by decide) rfl rfl (fun Γ hΓ X R => ?_)
  subst hΓ
  show GW Γ G b 0 0 M 0 [(0, .ref (b + t0)), (1, .int a1), (2, .int a2), (3, .int a3)] []
  unfold fX7_isShot at h
  refine r_aload_n X 0 rfl dX7_isShot_0 1 rfl ?_
  refine r_aload_n X 0 rfl dX7_isShot_1 2 rfl ?_
  refine r_iload_n X 1 rfl dX7_isShot_2 3 rfl ?_
  obtain ⟨x1, e1, h⟩ := z_bd h
  refine r_callV (rest := [.ref (b + t0)]) X (tX7_slotOf hl G b t0 ht0 a1 M e1) zy_X7_slotOf zw_X7_slotOf km_X7_83 ht0 rfl zv_X7 rfl ⟨rfl, rfl⟩ ⟨rfl, rfl⟩ rfl rfl (Nat.le_of_ble_eq_true rfl) ⟨Nat.zero_le _, Nat.zero_le _⟩ dX7_isShot_3 6 rfl [.int x1, .ref (b + t0)] rfl ?_
  obtain ⟨j3, hT3, h⟩ := z_bd h
  have hJ3 : GW Γ G b 0 0 M 22 [] [.int j3, .ref (b + t0)] := by
    refine r_iconst (v := 1) X rfl dX7_isShot_22 23 rfl ?_
    obtain ⟨x4, M5, e5, h⟩ := z_bd2 h
    refine r_callV (rest := []) X (tX7_fits hl G b t0 ht0 j3 1 M e5) zy_X7_fits zw_X7_fits km_X7_59 ht0 rfl zv_X7 rfl ⟨rfl, rfl⟩ ⟨rfl, rfl⟩ rfl rfl (Nat.le_of_ble_eq_true rfl) ⟨Nat.zero_le _, Nat.zero_le _⟩ dX7_isShot_23 26 rfl [.int x4] rfl ?_
    obtain ⟨hz, h⟩ := z_bz_of h
    cases h
    exact r_iret X R hz dX7_isShot_26
  have h := hT3
  refine r_if_lt X dX7_isShot_6 21 (by decide) 9 rfl (fun c2 => ?_) (fun c2 => ?_)
  · have h := z_it c2 h
    refine r_iconst (v := 0) X rfl dX7_isShot_21 22 rfl ?_
    refine r_sub [] [] rfl ?_
    cases h
    exact hJ3
  · have h := z_ie c2 h
    refine r_iload_n X 2 rfl dX7_isShot_9 10 rfl ?_
    refine r_iload_n X 3 rfl dX7_isShot_10 11 rfl ?_
    obtain ⟨x6, e6, h⟩ := z_bd h
    refine r_callS (rest := [.ref (b + t0)]) X (tX7_isSpot hl G b a2 a3 M e6) zy_X7_isSpot zs_X7_isSpot km_X7_44 rfl ⟨rfl, rfl⟩ ⟨rfl, rfl⟩ rfl rfl (Nat.le_of_ble_eq_true rfl) ⟨Nat.zero_le _, Nat.zero_le _⟩ dX7_isShot_11 14 rfl [.int x6, .ref (b + t0)] rfl ?_
    refine r_if_eq X dX7_isShot_14 21 (by decide) 17 rfl (fun c7 => ?_) (fun c7 => ?_)
    · have h := z_it c7 h
      refine r_iconst (v := 0) X rfl dX7_isShot_21 22 rfl ?_
      refine r_sub [] [] rfl ?_
      cases h
      exact hJ3
    · have h := z_ie c7 h
      refine r_iconst (v := 1) X rfl dX7_isShot_17 18 rfl ?_
      refine r_goto X dX7_isShot_18 22 (by decide) ?_
      refine r_sub [] [] rfl ?_
      cases h
      exact hJ3
set_option maxRecDepth 100000 in
set_option maxHeartbeats 1000000 in
theorem tX7_inShot {l : Launch} (hl : l.stackTraces = false) (G : zG) (b : Nat) (t0 : Nat) (ht0 : z_kd t0 = 7) (a1 : Int32) (a2 : Int32) (a3 : Int32) (M : zM) {r9 : Int32} (h : fX7_inShot t0 a1 a2 a3 M = some r9) : z_MN l yX7_inShot cX7_inShot 4 (some .int) { frames := 1, cells := 0, slots := 0, locals := 23 } G b [.ref (b + t0), .int a1, .int a2, .int a3] M (some (.int r9)) M := by
  refine z_met (own := RX7) hl (by decide) rfl rfl (fun Γ hΓ X R => ?_)
  subst hΓ
  show GW Γ G b 0 0 M 0 [(0, .ref (b + t0)), (1, .int a1), (2, .int a2), (3, .int a3)] []
  unfold fX7_inShot at h
  refine r_sipush (v := 768) X rfl dX7_inShot_0 3 rfl ?_
  refine r_sipush (v := 128) X rfl dX7_inShot_3 6 rfl ?_
  refine r_aload_n X 0 rfl dX7_inShot_6 7 rfl ?_
  refine r_iload_n X 1 rfl dX7_inShot_7 8 rfl ?_
  obtain ⟨x1, e1, h⟩ := z_bd h
  refine r_callV (rest := [.int 128, .int 768]) X (tX7_slotOf hl G b t0 ht0 a1 M e1) zy_X7_slotOf zw_X7_slotOf km_X7_83 ht0 rfl zv_X7 rfl ⟨rfl, rfl⟩ ⟨rfl, rfl⟩ rfl rfl (Nat.le_of_ble_eq_true rfl) ⟨Nat.zero_le _, Nat.zero_le _⟩ dX7_inShot_8 11 rfl [.int x1, .int 128, .int 768] rfl ?_
  refine r_imul X dX7_inShot_11 12 rfl ?_
  refine r_iadd X dX7_inShot_12 13 rfl ?_
  refine r_bipush (v := 16) X rfl dX7_inShot_13 15 rfl ?_
  refine r_iload_n X 2 rfl dX7_inShot_15 16 rfl ?_
  refine r_imul X dX7_inShot_16 17 rfl ?_
  refine r_iadd X dX7_inShot_17 18 rfl ?_
  refine r_iload_n X 3 rfl dX7_inShot_18 19 rfl ?_
  refine r_iadd X dX7_inShot_19 20 rfl ?_
  cases h
  exact r_iret X R rfl dX7_inShot_20
set_option maxRecDepth 100000 in
set_option maxHeartbeats 1000000 in
theorem tX7_isOrigin {l : Launch} (hl : l.stackTraces = false) (G : zG) (b : Nat) (t0 : Nat) (ht0 : z_kd t0 = 7) (a1 : Int32) (M : zM) {r9 : Int32} (h : fX7_isOrigin t0 a1 M = some r9) : z_MN l yX7_isOrigin cX7_isOrigin 4 (some .boolean) { frames := 0, cells := 0, slots := 0, locals := 0 } G b [.ref (b + t0), .int a1] M (some (.int r9)) M := by
  refine z_met (own := RX7) hl (by decide) rfl rfl (fun Γ hΓ X R => ?_)
  subst hΓ
  show GW Γ G b 0 0 M 0 [(0, .ref (b + t0)), (1, .int a1)] []
  unfold fX7_isOrigin at h
  refine r_iconst (v := 0) X rfl dX7_isOrigin_0 1 rfl ?_
  refine r_istore_n X dX7_isOrigin_1 2 rfl [(0, .ref (b + t0)), (1, .int a1), (2, .int 0)] (by decide) [1, 2, 0] rfl ?_
  refine r_iconst (v := 0) X rfl dX7_isOrigin_2 3 rfl ?_
  refine r_istore_n X dX7_isOrigin_3 4 rfl [(0, .ref (b + t0)), (1, .int a1), (2, .int 0), (3, .int 0)] (by decide) [1, 2, 3, 0] rfl ?_
  obtain ⟨x3, hL4, h⟩ := z_bd h
  have hK4 : GW Γ G b 0 0 M 56 [(2, .int x3)] [] := by
    refine r_iload_n X 0 rfl dX7_isOrigin_56 57 rfl ?_
    obtain ⟨hz, h⟩ := z_bz_of h
    cases h
    exact r_iret X R hz dX7_isOrigin_57
  clear h
  refine z_loopP (fun (s : (Int32 × Int32)) => GW Γ G b 0 0 M 4 [(0, .ref (b + t0)), (1, .int a1), (2, .int s.1), (3, .int s.2)] []) (fun s q4 hb hP4 hx4 => ?_) _ _ hL4
  obtain ⟨x1, x2⟩ := s
  have h : fX7_isOrigin_L1 t0 a1 M x1 x2 = some q4 := hb
  unfold fX7_isOrigin_L1 at h
  refine r_iload_n X 3 rfl dX7_isOrigin_4 5 rfl ?_
  refine r_bipush (v := 6) X rfl dX7_isOrigin_5 7 rfl ?_
  refine r_icmp_ge X dX7_isOrigin_7 56 (by decide) 10 rfl (fun c5 => ?_) (fun c5 => ?_)
  · have h := z_it c5 h
    refine r_sub [(2, .int x1)] [2] rfl ?_
    have e := hx4 _ (Option.some.inj h).symm
    cases e
    exact hK4
  · have h := z_ie c5 h
    refine r_iload_n X 2 rfl dX7_isOrigin_10 11 rfl ?_
    refine r_if_ne X dX7_isOrigin_11 44 (by decide) 14 rfl (fun c6 => ?_) (fun c6 => ?_)
    · have h := z_ie c6 h
      refine r_iconst (v := 1) X rfl dX7_isOrigin_44 45 rfl ?_
      refine r_goto X dX7_isOrigin_45 49 (by decide) ?_
      refine r_istore_n X dX7_isOrigin_49 50 rfl [(0, .ref (b + t0)), (1, .int a1), (2, .int 1), (3, .int x2)] (by decide) [1, 2, 0, 3] rfl ?_
      refine r_iinc X dX7_isOrigin_50 53 rfl [(0, .ref (b + t0)), (1, .int a1), (2, .int 1), (3, .int (x2 + 1))] (by decide) 3 rfl (x2 + 1) rfl [1, 2, 3, 0] rfl ?_
      refine r_goto X dX7_isOrigin_53 4 (by decide) ?_
      exact hP4 (1, (x2 + 1)) (Option.some.inj h).symm
    · have h := z_it c6 h
      refine r_aload_n X 0 rfl dX7_isOrigin_14 15 rfl ?_
      refine r_get (v := .ref (b + (t0 + 1))) X ht0 rfl zv_X7 zi_X7 rfl kf_X7_7 rfl rfl dX7_isOrigin_15 18 rfl ?_
      refine r_sipush (v := 2304) X rfl dX7_isOrigin_18 21 rfl ?_
      refine r_iload_n X 3 rfl dX7_isOrigin_21 22 rfl ?_
      refine r_iadd X dX7_isOrigin_22 23 rfl ?_
      obtain ⟨x7, e7, h⟩ := z_bd h
      refine r_iaload X (zk_7_0 ht0) (zn_7_0 ht0) e7 dX7_isOrigin_23 24 rfl ?_
      refine r_iconst (v := 1) X rfl dX7_isOrigin_24 25 rfl ?_
      refine r_icmp_ne X dX7_isOrigin_25 48 (by decide) 28 rfl (fun c8 => ?_) (fun c8 => ?_)
      · have h := z_ie c8 h
        refine r_iconst (v := 0) X rfl dX7_isOrigin_48 49 rfl ?_
        refine r_istore_n X dX7_isOrigin_49 50 rfl [(0, .ref (b + t0)), (1, .int a1), (2, .int 0), (3, .int x2)] (by decide) [1, 2, 0, 3] rfl ?_
        refine r_iinc X dX7_isOrigin_50 53 rfl [(0, .ref (b + t0)), (1, .int a1), (2, .int 0), (3, .int (x2 + 1))] (by decide) 3 rfl (x2 + 1) rfl [1, 2, 3, 0] rfl ?_
        refine r_goto X dX7_isOrigin_53 4 (by decide) ?_
        exact hP4 (0, (x2 + 1)) (Option.some.inj h).symm
      · have h := z_it c8 h
        refine r_aload_n X 0 rfl dX7_isOrigin_28 29 rfl ?_
        refine r_get (v := .ref (b + (t0 + 1))) X ht0 rfl zv_X7 zi_X7 rfl kf_X7_7 rfl rfl dX7_isOrigin_29 32 rfl ?_
        refine r_sipush (v := 2310) X rfl dX7_isOrigin_32 35 rfl ?_
        refine r_iload_n X 3 rfl dX7_isOrigin_35 36 rfl ?_
        refine r_iadd X dX7_isOrigin_36 37 rfl ?_
        obtain ⟨x9, e9, h⟩ := z_bd h
        refine r_iaload X (zk_7_0 ht0) (zn_7_0 ht0) e9 dX7_isOrigin_37 38 rfl ?_
        refine r_iload_n X 1 rfl dX7_isOrigin_38 39 rfl ?_
        refine r_iconst (v := 1) X rfl dX7_isOrigin_39 40 rfl ?_
        refine r_iadd X dX7_isOrigin_40 41 rfl ?_
        refine r_icmp_ne X dX7_isOrigin_41 48 (by decide) 44 rfl (fun c10 => ?_) (fun c10 => ?_)
        · have h := z_ie c10 h
          refine r_iconst (v := 0) X rfl dX7_isOrigin_48 49 rfl ?_
          refine r_istore_n X dX7_isOrigin_49 50 rfl [(0, .ref (b + t0)), (1, .int a1), (2, .int 0), (3, .int x2)] (by decide) [1, 2, 0, 3] rfl ?_
          refine r_iinc X dX7_isOrigin_50 53 rfl [(0, .ref (b + t0)), (1, .int a1), (2, .int 0), (3, .int (x2 + 1))] (by decide) 3 rfl (x2 + 1) rfl [1, 2, 3, 0] rfl ?_
          refine r_goto X dX7_isOrigin_53 4 (by decide) ?_
          exact hP4 (0, (x2 + 1)) (Option.some.inj h).symm
        · have h := z_it c10 h
          refine r_iconst (v := 1) X rfl dX7_isOrigin_44 45 rfl ?_
          refine r_goto X dX7_isOrigin_45 49 (by decide) ?_
          refine r_istore_n X dX7_isOrigin_49 50 rfl [(0, .ref (b + t0)), (1, .int a1), (2, .int 1), (3, .int x2)] (by decide) [1, 2, 0, 3] rfl ?_
          refine r_iinc X dX7_isOrigin_50 53 rfl [(0, .ref (b + t0)), (1, .int a1), (2, .int 1), (3, .int (x2 + 1))] (by decide) 3 rfl (x2 + 1) rfl [1, 2, 3, 0] rfl ?_
          refine r_goto X dX7_isOrigin_53 4 (by decide) ?_
          exact hP4 (1, (x2 + 1)) (Option.some.inj h).symm
set_option maxRecDepth 100000 in
set_option maxHeartbeats 1000000 in
theorem tX7_placeOf {l : Launch} (hl : l.stackTraces = false) (G : zG) (b : Nat) (t0 : Nat) (ht0 : z_kd t0 = 7) (a1 : Int32) (M : zM) {r9 : Int32} (h : fX7_placeOf t0 a1 M = some r9) : z_MN l yX7_placeOf cX7_placeOf 4 (some .int) { frames := 0, cells := 0, slots := 0, locals := 0 } G b [.ref (b + t0), .int a1] M (some (.int r9)) M := by
  refine z_met (own := RX7) hl (by decide) rfl rfl (fun Γ hΓ X R => ?_)
  subst hΓ
  show GW Γ G b 0 0 M 0 [(0, .ref (b + t0)), (1, .int a1)] []
  unfold fX7_placeOf at h
  refine r_sipush (v := 2316) X rfl dX7_placeOf_0 3 rfl ?_
  refine r_bipush (v := 12) X rfl dX7_placeOf_3 5 rfl ?_
  refine r_aload_n X 0 rfl dX7_placeOf_5 6 rfl ?_
  refine r_get (v := .ref (b + (t0 + 1))) X ht0 rfl zv_X7 zi_X7 rfl kf_X7_7 rfl rfl dX7_placeOf_6 9 rfl ?_
  refine r_sipush (v := 2418) X rfl dX7_placeOf_9 12 rfl ?_
  refine r_iload_n X 1 rfl dX7_placeOf_12 13 rfl ?_
  refine r_iadd X dX7_placeOf_13 14 rfl ?_
  obtain ⟨x1, e1, h⟩ := z_bd h
  refine r_iaload X (zk_7_0 ht0) (zn_7_0 ht0) e1 dX7_placeOf_14 15 rfl ?_
  refine r_imul X dX7_placeOf_15 16 rfl ?_
  refine r_iadd X dX7_placeOf_16 17 rfl ?_
  refine r_istore_n X dX7_placeOf_17 18 rfl [(0, .ref (b + t0)), (1, .int a1), (2, .int (2316 + (12 * x1)))] (by decide) [1, 2, 0] rfl ?_
  refine r_iconst (v := 0) X rfl dX7_placeOf_18 19 rfl ?_
  refine r_istore_n X dX7_placeOf_19 20 rfl [(0, .ref (b + t0)), (1, .int a1), (2, .int (2316 + (12 * x1))), (3, .int 0)] (by decide) [1, 2, 3, 0] rfl ?_
  obtain ⟨x3, hL4, h⟩ := z_bd h
  have hK4 : GW Γ G b 0 0 M 38 [(3, .int x3)] [] := by
    refine r_iload_n X 0 rfl dX7_placeOf_38 39 rfl ?_
    cases h
    exact r_iret X R rfl dX7_placeOf_39
  clear h
  refine z_loopP (fun (s : Int32) => GW Γ G b 0 0 M 20 [(0, .ref (b + t0)), (1, .int a1), (2, .int (2316 + (12 * x1))), (3, .int s)] []) (fun s q4 hb hP4 hx4 => ?_) _ _ hL4
  obtain ⟨x2, rfl⟩ : ∃ y, y = s := ⟨s, rfl⟩
  have h : fX7_placeOf_L1 t0 a1 M x1 x2 = some q4 := hb
  unfold fX7_placeOf_L1 at h
  refine r_aload_n X 0 rfl dX7_placeOf_20 21 rfl ?_
  refine r_get (v := .ref (b + (t0 + 1))) X ht0 rfl zv_X7 zi_X7 rfl kf_X7_7 rfl rfl dX7_placeOf_21 24 rfl ?_
  refine r_iload_n X 2 rfl dX7_placeOf_24 25 rfl ?_
  refine r_iload_n X 3 rfl dX7_placeOf_25 26 rfl ?_
  refine r_iadd X dX7_placeOf_26 27 rfl ?_
  obtain ⟨x5, e5, h⟩ := z_bd h
  refine r_iaload X (zk_7_0 ht0) (zn_7_0 ht0) e5 dX7_placeOf_27 28 rfl ?_
  refine r_iload_n X 1 rfl dX7_placeOf_28 29 rfl ?_
  refine r_icmp_eq X dX7_placeOf_29 38 (by decide) 32 rfl (fun c6 => ?_) (fun c6 => ?_)
  · have h := z_it c6 h
    refine r_sub [(3, .int x2)] [3] rfl ?_
    have e := hx4 _ (Option.some.inj h).symm
    cases e
    exact hK4
  · have h := z_ie c6 h
    refine r_iinc X dX7_placeOf_32 35 rfl [(0, .ref (b + t0)), (1, .int a1), (2, .int (2316 + (12 * x1))), (3, .int (x2 + 1))] (by decide) 3 rfl (x2 + 1) rfl [1, 2, 3, 0] rfl ?_
    refine r_goto X dX7_placeOf_35 20 (by decide) ?_
    exact hP4 (x2 + 1) (Option.some.inj h).symm
set_option maxRecDepth 100000 in
set_option maxHeartbeats 1000000 in
theorem tX7_drops {l : Launch} (hl : l.stackTraces = false) (G : zG) (b : Nat) (t0 : Nat) (ht0 : z_kd t0 = 7) (a1 : Int32) (M : zM) {M9 : zM} (h : fX7_drops t0 a1 M = some M9) : z_MN l yX7_drops cX7_drops 5 none { frames := 1, cells := 0, slots := 0, locals := 23 } G b [.ref (b + t0), .int a1] M none M9 := by
  refine z_met (own := RX7) hl (by decide) rfl rfl (fun Γ hΓ X R => ?_)
  subst hΓ
  show GW Γ G b 0 0 M 0 [(0, .ref (b + t0)), (1, .int a1)] []
  unfold fX7_drops at h
  refine r_aload_n X 0 rfl dX7_drops_0 1 rfl ?_
  refine r_get (v := .ref (b + (t0 + 1))) X ht0 rfl zv_X7 zi_X7 rfl kf_X7_7 rfl rfl dX7_drops_1 4 rfl ?_
  refine r_sipush (v := 2418) X rfl dX7_drops_4 7 rfl ?_
  refine r_iload_n X 1 rfl dX7_drops_7 8 rfl ?_
  refine r_iadd X dX7_drops_8 9 rfl ?_
  obtain ⟨x1, e1, h⟩ := z_bd h
  refine r_iaload X (zk_7_0 ht0) (zn_7_0 ht0) e1 dX7_drops_9 10 rfl ?_
  refine r_istore_n X dX7_drops_10 11 rfl [(0, .ref (b + t0)), (1, .int a1), (2, .int x1)] (by decide) [1, 2, 0] rfl ?_
  refine r_aload_n X 0 rfl dX7_drops_11 12 rfl ?_
  refine r_iload_n X 1 rfl dX7_drops_12 13 rfl ?_
  obtain ⟨x2, e2, h⟩ := z_bd h
  refine r_callV (rest := []) X (tX7_placeOf hl G b t0 ht0 a1 M e2) zy_X7_placeOf zw_X7_placeOf km_X7_92 ht0 rfl zv_X7 rfl ⟨rfl, rfl⟩ ⟨rfl, rfl⟩ rfl rfl (Nat.le_of_ble_eq_true rfl) ⟨Nat.zero_le _, Nat.zero_le _⟩ dX7_drops_13 16 rfl [.int x2] rfl ?_
  refine r_istore_n X dX7_drops_16 17 rfl [(0, .ref (b + t0)), (1, .int a1), (2, .int x1), (3, .int x2)] (by decide) [1, 2, 3, 0] rfl ?_
  refine r_aload_n X 0 rfl dX7_drops_17 18 rfl ?_
  refine r_get (v := .ref (b + (t0 + 1))) X ht0 rfl zv_X7 zi_X7 rfl kf_X7_7 rfl rfl dX7_drops_18 21 rfl ?_
  refine r_sipush (v := 2388) X rfl dX7_drops_21 24 rfl ?_
  refine r_iload_n X 2 rfl dX7_drops_24 25 rfl ?_
  refine r_iadd X dX7_drops_25 26 rfl ?_
  refine r_dup2 X rfl rfl dX7_drops_26 27 rfl ?_
  obtain ⟨x3, e3, h⟩ := z_bd h
  refine r_iaload X (zk_7_0 ht0) (zn_7_0 ht0) e3 dX7_drops_27 28 rfl ?_
  refine r_iconst (v := 1) X rfl dX7_drops_28 29 rfl ?_
  refine r_isub X dX7_drops_29 30 rfl ?_
  obtain ⟨M4, e4, h⟩ := z_bd h
  refine r_iastore X (zk_7_0 ht0) (zn_7_0 ht0) e4 dX7_drops_30 31 rfl ?_
  refine r_iload_n X 3 rfl dX7_drops_31 32 rfl ?_
  refine r_istore X dX7_drops_32 34 rfl [(0, .ref (b + t0)), (1, .int a1), (2, .int x1), (4, .int x2)] (by decide) [1, 2, 3, 0] rfl ?_
  obtain ⟨M7, hL8, h⟩ := z_bd h
  have hK8 : GW Γ G b 0 0 M7 89 [(0, .ref (b + t0)), (1, .int a1)] [] := by
    refine r_aload_n X 0 rfl dX7_drops_89 90 rfl ?_
    refine r_get (v := .ref (b + (t0 + 1))) X ht0 rfl zv_X7 zi_X7 rfl kf_X7_7 rfl rfl dX7_drops_90 93 rfl ?_
    refine r_sipush (v := 2394) X rfl dX7_drops_93 96 rfl ?_
    refine r_iload_n X 1 rfl dX7_drops_96 97 rfl ?_
    refine r_iadd X dX7_drops_97 98 rfl ?_
    refine r_iconst (v := 0) X rfl dX7_drops_98 99 rfl ?_
    obtain ⟨M9, e9, h⟩ := z_bd h
    refine r_iastore X (zk_7_0 ht0) (zn_7_0 ht0) e9 dX7_drops_99 100 rfl ?_
    refine r_iconst (v := 0) X rfl dX7_drops_100 101 rfl ?_
    refine r_istore X dX7_drops_101 103 rfl [(0, .ref (b + t0)), (1, .int a1), (4, .int 0)] (by decide) [1, 2, 0] rfl ?_
    obtain ⟨M12, hL13, h⟩ := z_bd h
    have hK13 : GW Γ G b 0 0 M12 135 [] [] := by
      cases h
      exact r_vret X R dX7_drops_135
    clear h
    refine z_loopP (fun (s : (Int32 × zM)) => GW Γ G b 0 0 s.2 103 [(0, .ref (b + t0)), (1, .int a1), (4, .int s.1)] []) (fun s q13 hb hP13 hx13 => ?_) _ _ hL13
    obtain ⟨x10, M11⟩ := s
    have h : fX7_drops_L2 t0 a1 x10 M11 = some q13 := hb
    unfold fX7_drops_L2 at h
    refine r_iload X 2 rfl dX7_drops_103 105 rfl ?_
    refine r_sipush (v := 128) X rfl dX7_drops_105 108 rfl ?_
    refine r_icmp_ge X dX7_drops_108 135 (by decide) 111 rfl (fun c14 => ?_) (fun c14 => ?_)
    · have h := z_it c14 h
      refine r_sub [] [] rfl ?_
      have e := hx13 _ (Option.some.inj h).symm
      cases e
      exact hK13
    · have h := z_ie c14 h
      refine r_aload_n X 0 rfl dX7_drops_111 112 rfl ?_
      refine r_get (v := .ref (b + (t0 + 1))) X ht0 rfl zv_X7 zi_X7 rfl kf_X7_7 rfl rfl dX7_drops_112 115 rfl ?_
      refine r_sipush (v := 768) X rfl dX7_drops_115 118 rfl ?_
      refine r_sipush (v := 128) X rfl dX7_drops_118 121 rfl ?_
      refine r_iload_n X 1 rfl dX7_drops_121 122 rfl ?_
      refine r_imul X dX7_drops_122 123 rfl ?_
      refine r_iadd X dX7_drops_123 124 rfl ?_
      refine r_iload X 2 rfl dX7_drops_124 126 rfl ?_
      refine r_iadd X dX7_drops_126 127 rfl ?_
      refine r_iconst (v := 0) X rfl dX7_drops_127 128 rfl ?_
      obtain ⟨M15, e15, h⟩ := z_bd h
      refine r_iastore X (zk_7_0 ht0) (zn_7_0 ht0) e15 dX7_drops_128 129 rfl ?_
      refine r_iinc X dX7_drops_129 132 rfl [(0, .ref (b + t0)), (1, .int a1), (4, .int (x10 + 1))] (by decide) 2 rfl (x10 + 1) rfl [1, 2, 0] rfl ?_
      refine r_goto X dX7_drops_132 103 (by decide) ?_
      exact hP13 ((x10 + 1), M15) (Option.some.inj h).symm
  clear h
  refine z_loopP (fun (s : (Int32 × zM)) => GW Γ G b 0 0 s.2 34 [(0, .ref (b + t0)), (1, .int a1), (2, .int x1), (4, .int s.1)] []) (fun s q8 hb hP8 hx8 => ?_) _ _ hL8
  obtain ⟨x5, M6⟩ := s
  have h : fX7_drops_L1 t0 x1 x5 M6 = some q8 := hb
  unfold fX7_drops_L1 at h
  refine r_iload X 3 rfl dX7_drops_34 36 rfl ?_
  refine r_aload_n X 0 rfl dX7_drops_36 37 rfl ?_
  refine r_get (v := .ref (b + (t0 + 1))) X ht0 rfl zv_X7 zi_X7 rfl kf_X7_7 rfl rfl dX7_drops_37 40 rfl ?_
  refine r_sipush (v := 2388) X rfl dX7_drops_40 43 rfl ?_
  refine r_iload_n X 2 rfl dX7_drops_43 44 rfl ?_
  refine r_iadd X dX7_drops_44 45 rfl ?_
  obtain ⟨x16, e16, h⟩ := z_bd h
  refine r_iaload X (zk_7_0 ht0) (zn_7_0 ht0) e16 dX7_drops_45 46 rfl ?_
  refine r_icmp_ge X dX7_drops_46 89 (by decide) 49 rfl (fun c17 => ?_) (fun c17 => ?_)
  · have h := z_it c17 h
    refine r_sub [(0, .ref (b + t0)), (1, .int a1)] [0, 1] rfl ?_
    have e := hx8 _ (Option.some.inj h).symm
    cases e
    exact hK8
  · have h := z_ie c17 h
    refine r_aload_n X 0 rfl dX7_drops_49 50 rfl ?_
    refine r_get (v := .ref (b + (t0 + 1))) X ht0 rfl zv_X7 zi_X7 rfl kf_X7_7 rfl rfl dX7_drops_50 53 rfl ?_
    refine r_sipush (v := 2316) X rfl dX7_drops_53 56 rfl ?_
    refine r_bipush (v := 12) X rfl dX7_drops_56 58 rfl ?_
    refine r_iload_n X 2 rfl dX7_drops_58 59 rfl ?_
    refine r_imul X dX7_drops_59 60 rfl ?_
    refine r_iadd X dX7_drops_60 61 rfl ?_
    refine r_iload X 3 rfl dX7_drops_61 63 rfl ?_
    refine r_iadd X dX7_drops_63 64 rfl ?_
    refine r_aload_n X 0 rfl dX7_drops_64 65 rfl ?_
    refine r_get (v := .ref (b + (t0 + 1))) X ht0 rfl zv_X7 zi_X7 rfl kf_X7_7 rfl rfl dX7_drops_65 68 rfl ?_
    refine r_sipush (v := 2316) X rfl dX7_drops_68 71 rfl ?_
    refine r_bipush (v := 12) X rfl dX7_drops_71 73 rfl ?_
    refine r_iload_n X 2 rfl dX7_drops_73 74 rfl ?_
    refine r_imul X dX7_drops_74 75 rfl ?_
    refine r_iadd X dX7_drops_75 76 rfl ?_
    refine r_iload X 3 rfl dX7_drops_76 78 rfl ?_
    refine r_iadd X dX7_drops_78 79 rfl ?_
    refine r_iconst (v := 1) X rfl dX7_drops_79 80 rfl ?_
    refine r_iadd X dX7_drops_80 81 rfl ?_
    obtain ⟨x18, e18, h⟩ := z_bd h
    refine r_iaload X (zk_7_0 ht0) (zn_7_0 ht0) e18 dX7_drops_81 82 rfl ?_
    obtain ⟨M19, e19, h⟩ := z_bd h
    refine r_iastore X (zk_7_0 ht0) (zn_7_0 ht0) e19 dX7_drops_82 83 rfl ?_
    refine r_iinc X dX7_drops_83 86 rfl [(0, .ref (b + t0)), (1, .int a1), (2, .int x1), (4, .int (x5 + 1))] (by decide) 3 rfl (x5 + 1) rfl [1, 2, 3, 0] rfl ?_
    refine r_goto X dX7_drops_86 34 (by decide) ?_
    exact hP8 ((x5 + 1), M19) (Option.some.inj h).symm
set_option maxRecDepth 100000 in
set_option maxHeartbeats 1000000 in
theorem tX7_countSets {l : Launch} (hl : l.stackTraces = false) (G : zG) (b : Nat) (t0 : Nat) (ht0 : z_kd t0 = 7) (M : zM) {r9 : Int32} (h : fX7_countSets t0 M = some r9) : z_MN l yX7_countSets cX7_countSets 3 (some .int) { frames := 0, cells := 0, slots := 0, locals := 0 } G b [.ref (b + t0)] M (some (.int r9)) M := by
  refine z_met (own := RX7) hl (by decide) rfl rfl (fun Γ hΓ X R => ?_)
  subst hΓ
  show GW Γ G b 0 0 M 0 [(0, .ref (b + t0))] []
  unfold fX7_countSets at h
  refine r_iconst (v := 0) X rfl dX7_countSets_0 1 rfl ?_
  refine r_istore_n X dX7_countSets_1 2 rfl [(0, .ref (b + t0)), (1, .int 0)] (by decide) [1, 0] rfl ?_
  refine r_iconst (v := 0) X rfl dX7_countSets_2 3 rfl ?_
  refine r_istore_n X dX7_countSets_3 4 rfl [(0, .ref (b + t0)), (1, .int 0), (2, .int 0)] (by decide) [1, 2, 0] rfl ?_
  obtain ⟨x3, hL4, h⟩ := z_bd h
  have hK4 : GW Γ G b 0 0 M 29 [(1, .int x3)] [] := by
    refine r_iload_n X 0 rfl dX7_countSets_29 30 rfl ?_
    cases h
    exact r_iret X R rfl dX7_countSets_30
  clear h
  refine z_loopP (fun (s : (Int32 × Int32)) => GW Γ G b 0 0 M 4 [(0, .ref (b + t0)), (1, .int s.1), (2, .int s.2)] []) (fun s q4 hb hP4 hx4 => ?_) _ _ hL4
  obtain ⟨x1, x2⟩ := s
  have h : fX7_countSets_L1 t0 M x1 x2 = some q4 := hb
  unfold fX7_countSets_L1 at h
  refine r_iload_n X 2 rfl dX7_countSets_4 5 rfl ?_
  refine r_bipush (v := 6) X rfl dX7_countSets_5 7 rfl ?_
  refine r_icmp_ge X dX7_countSets_7 29 (by decide) 10 rfl (fun c5 => ?_) (fun c5 => ?_)
  · have h := z_it c5 h
    refine r_sub [(1, .int x1)] [1] rfl ?_
    have e := hx4 _ (Option.some.inj h).symm
    cases e
    exact hK4
  · have h := z_ie c5 h
    refine r_iload_n X 1 rfl dX7_countSets_10 11 rfl ?_
    refine r_aload_n X 0 rfl dX7_countSets_11 12 rfl ?_
    refine r_get (v := .ref (b + (t0 + 1))) X ht0 rfl zv_X7 zi_X7 rfl kf_X7_7 rfl rfl dX7_countSets_12 15 rfl ?_
    refine r_sipush (v := 2304) X rfl dX7_countSets_15 18 rfl ?_
    refine r_iload_n X 2 rfl dX7_countSets_18 19 rfl ?_
    refine r_iadd X dX7_countSets_19 20 rfl ?_
    obtain ⟨x6, e6, h⟩ := z_bd h
    refine r_iaload X (zk_7_0 ht0) (zn_7_0 ht0) e6 dX7_countSets_20 21 rfl ?_
    refine r_iadd X dX7_countSets_21 22 rfl ?_
    refine r_istore_n X dX7_countSets_22 23 rfl [(0, .ref (b + t0)), (1, .int (x1 + x6)), (2, .int x2)] (by decide) [1, 0, 2] rfl ?_
    refine r_iinc X dX7_countSets_23 26 rfl [(0, .ref (b + t0)), (1, .int (x1 + x6)), (2, .int (x2 + 1))] (by decide) 2 rfl (x2 + 1) rfl [1, 2, 0] rfl ?_
    refine r_goto X dX7_countSets_26 4 (by decide) ?_
    exact hP4 ((x1 + x6), (x2 + 1)) (Option.some.inj h).symm
set_option maxRecDepth 100000 in
set_option maxHeartbeats 1000000 in
theorem tX7_blocksIn {l : Launch} (hl : l.stackTraces = false) (G : zG) (b : Nat) (t0 : Nat) (ht0 : z_kd t0 = 7) (a1 : Int32) (a2 : Int32) (M : zM) {r9 : Int32} {M9 : zM} (h : fX7_blocksIn t0 a1 a2 M = some (r9, M9)) : z_MN l yX7_blocksIn cX7_blocksIn 5 (some .int) { frames := 0, cells := 0, slots := 0, locals := 0 } G b [.ref (b + t0), .int a1, .int a2] M (some (.int r9)) M9 := by
  refine z_met (own := RX7) hl (by decide) rfl rfl (fun Γ hΓ X R => ?_)
  subst hΓ
  show GW Γ G b 0 0 M 0 [(0, .ref (b + t0)), (1, .int a1), (2, .int a2)] []
  unfold fX7_blocksIn at h
  refine r_iconst (v := 0) X rfl dX7_blocksIn_0 1 rfl ?_
  refine r_istore_n X dX7_blocksIn_1 2 rfl [(0, .ref (b + t0)), (1, .int a1), (2, .int a2), (3, .int 0)] (by decide) [1, 2, 3, 0] rfl ?_
  obtain ⟨M3, hL4, h⟩ := z_bd h
  have hK4 : GW Γ G b 0 0 M3 22 [(0, .ref (b + t0)), (1, .int a1), (2, .int a2)] [] := by
    refine r_iload_n X 1 rfl dX7_blocksIn_22 23 rfl ?_
    refine r_istore_n X dX7_blocksIn_23 24 rfl [(0, .ref (b + t0)), (1, .int a1), (2, .int a2), (3, .int a1)] (by decide) [1, 2, 3, 0] rfl ?_
    obtain ⟨M7, hL8, h⟩ := z_bd h
    have hK8 : GW Γ G b 0 0 M7 65 [(0, .ref (b + t0)), (2, .int a2)] [] := by
      refine r_iconst (v := 0) X rfl dX7_blocksIn_65 66 rfl ?_
      refine r_istore_n X dX7_blocksIn_66 67 rfl [(0, .ref (b + t0)), (2, .int a2), (3, .int 0)] (by decide) [1, 2, 0] rfl ?_
      refine r_iconst (v := 0) X rfl dX7_blocksIn_67 68 rfl ?_
      refine r_istore X dX7_blocksIn_68 70 rfl [(0, .ref (b + t0)), (2, .int a2), (3, .int 0), (4, .int 0)] (by decide) [1, 2, 3, 0] rfl ?_
      obtain ⟨x11, hL12, h⟩ := z_bd h
      have hK12 : GW Γ G b 0 0 M7 127 [(3, .int x11)] [] := by
        refine r_iload_n X 0 rfl dX7_blocksIn_127 128 rfl ?_
        cases h
        exact r_iret X R rfl dX7_blocksIn_128
      clear h
      refine z_loopP (fun (s : (Int32 × Int32)) => GW Γ G b 0 0 M7 70 [(0, .ref (b + t0)), (2, .int a2), (3, .int s.1), (4, .int s.2)] []) (fun s q12 hb hP12 hx12 => ?_) _ _ hL12
      obtain ⟨x9, x10⟩ := s
      have h : fX7_blocksIn_L3 t0 a2 M7 x9 x10 = some q12 := hb
      unfold fX7_blocksIn_L3 at h
      refine r_iload X 3 rfl dX7_blocksIn_70 72 rfl ?_
      refine r_sipush (v := 128) X rfl dX7_blocksIn_72 75 rfl ?_
      refine r_icmp_ge X dX7_blocksIn_75 127 (by decide) 78 rfl (fun c13 => ?_) (fun c13 => ?_)
      · have h := z_it c13 h
        refine r_sub [(3, .int x9)] [2] rfl ?_
        have e := hx12 _ (Option.some.inj h).symm
        cases e
        exact hK12
      · have h := z_ie c13 h
        refine r_iload_n X 2 rfl dX7_blocksIn_78 79 rfl ?_
        refine r_aload_n X 0 rfl dX7_blocksIn_79 80 rfl ?_
        refine r_get (v := .ref (b + (t0 + 3))) X ht0 rfl zv_X7 zi_X7 rfl kf_X7_16 rfl rfl dX7_blocksIn_80 83 rfl ?_
        refine r_iload X 3 rfl dX7_blocksIn_83 85 rfl ?_
        obtain ⟨x14, e14, h⟩ := z_bd h
        refine r_iaload X (zk_7_2 ht0) (zn_7_2 ht0) e14 dX7_blocksIn_85 86 rfl ?_
        refine r_if_le X dX7_blocksIn_86 118 (by decide) 89 rfl (fun c15 => ?_) (fun c15 => ?_)
        · have h := z_it c15 h
          refine r_iconst (v := 0) X rfl dX7_blocksIn_118 119 rfl ?_
          refine r_iadd X dX7_blocksIn_119 120 rfl ?_
          refine r_istore_n X dX7_blocksIn_120 121 rfl [(0, .ref (b + t0)), (2, .int a2), (3, .int (x9 + 0)), (4, .int x10)] (by decide) [1, 2, 0, 3] rfl ?_
          refine r_iinc X dX7_blocksIn_121 124 rfl [(0, .ref (b + t0)), (2, .int a2), (3, .int (x9 + 0)), (4, .int (x10 + 1))] (by decide) 3 rfl (x10 + 1) rfl [1, 2, 3, 0] rfl ?_
          refine r_goto X dX7_blocksIn_124 70 (by decide) ?_
          exact hP12 ((x9 + 0), (x10 + 1)) (Option.some.inj h).symm
        · have h := z_ie c15 h
          refine r_iload_n X 1 rfl dX7_blocksIn_89 90 rfl ?_
          refine r_if_eq X dX7_blocksIn_90 114 (by decide) 93 rfl (fun c16 => ?_) (fun c16 => ?_)
          · have h := z_it c16 h
            refine r_iconst (v := 1) X rfl dX7_blocksIn_114 115 rfl ?_
            refine r_goto X dX7_blocksIn_115 119 (by decide) ?_
            refine r_iadd X dX7_blocksIn_119 120 rfl ?_
            refine r_istore_n X dX7_blocksIn_120 121 rfl [(0, .ref (b + t0)), (2, .int a2), (3, .int (x9 + 1)), (4, .int x10)] (by decide) [1, 2, 0, 3] rfl ?_
            refine r_iinc X dX7_blocksIn_121 124 rfl [(0, .ref (b + t0)), (2, .int a2), (3, .int (x9 + 1)), (4, .int (x10 + 1))] (by decide) 3 rfl (x10 + 1) rfl [1, 2, 3, 0] rfl ?_
            refine r_goto X dX7_blocksIn_124 70 (by decide) ?_
            exact hP12 ((x9 + 1), (x10 + 1)) (Option.some.inj h).symm
          · have h := z_ie c16 h
            refine r_aload_n X 0 rfl dX7_blocksIn_93 94 rfl ?_
            refine r_get (v := .ref (b + (t0 + 3))) X ht0 rfl zv_X7 zi_X7 rfl kf_X7_16 rfl rfl dX7_blocksIn_94 97 rfl ?_
            refine r_iload X 3 rfl dX7_blocksIn_97 99 rfl ?_
            obtain ⟨x17, e17, h⟩ := z_bd h
            refine r_iaload X (zk_7_2 ht0) (zn_7_2 ht0) e17 dX7_blocksIn_99 100 rfl ?_
            refine r_aload_n X 0 rfl dX7_blocksIn_100 101 rfl ?_
            refine r_get (v := .ref (b + (t0 + 1))) X ht0 rfl zv_X7 zi_X7 rfl kf_X7_7 rfl rfl dX7_blocksIn_101 104 rfl ?_
            refine r_sipush (v := 2814) X rfl dX7_blocksIn_104 107 rfl ?_
            refine r_iload X 3 rfl dX7_blocksIn_107 109 rfl ?_
            refine r_iadd X dX7_blocksIn_109 110 rfl ?_
            obtain ⟨x18, e18, h⟩ := z_bd h
            refine r_iaload X (zk_7_0 ht0) (zn_7_0 ht0) e18 dX7_blocksIn_110 111 rfl ?_
            refine r_icmp_ne X dX7_blocksIn_111 118 (by decide) 114 rfl (fun c19 => ?_) (fun c19 => ?_)
            · have h := z_ie c19 h
              refine r_iconst (v := 0) X rfl dX7_blocksIn_118 119 rfl ?_
              refine r_iadd X dX7_blocksIn_119 120 rfl ?_
              refine r_istore_n X dX7_blocksIn_120 121 rfl [(0, .ref (b + t0)), (2, .int a2), (3, .int (x9 + 0)), (4, .int x10)] (by decide) [1, 2, 0, 3] rfl ?_
              refine r_iinc X dX7_blocksIn_121 124 rfl [(0, .ref (b + t0)), (2, .int a2), (3, .int (x9 + 0)), (4, .int (x10 + 1))] (by decide) 3 rfl (x10 + 1) rfl [1, 2, 3, 0] rfl ?_
              refine r_goto X dX7_blocksIn_124 70 (by decide) ?_
              exact hP12 ((x9 + 0), (x10 + 1)) (Option.some.inj h).symm
            · have h := z_it c19 h
              refine r_iconst (v := 1) X rfl dX7_blocksIn_114 115 rfl ?_
              refine r_goto X dX7_blocksIn_115 119 (by decide) ?_
              refine r_iadd X dX7_blocksIn_119 120 rfl ?_
              refine r_istore_n X dX7_blocksIn_120 121 rfl [(0, .ref (b + t0)), (2, .int a2), (3, .int (x9 + 1)), (4, .int x10)] (by decide) [1, 2, 0, 3] rfl ?_
              refine r_iinc X dX7_blocksIn_121 124 rfl [(0, .ref (b + t0)), (2, .int a2), (3, .int (x9 + 1)), (4, .int (x10 + 1))] (by decide) 3 rfl (x10 + 1) rfl [1, 2, 3, 0] rfl ?_
              refine r_goto X dX7_blocksIn_124 70 (by decide) ?_
              exact hP12 ((x9 + 1), (x10 + 1)) (Option.some.inj h).symm
    clear h
    refine z_loopP (fun (s : (Int32 × zM)) => GW Γ G b 0 0 s.2 24 [(0, .ref (b + t0)), (1, .int a1), (2, .int a2), (3, .int s.1)] []) (fun s q8 hb hP8 hx8 => ?_) _ _ hL8
    obtain ⟨x5, M6⟩ := s
    have h : fX7_blocksIn_L2 t0 a1 x5 M6 = some q8 := hb
    unfold fX7_blocksIn_L2 at h
    refine r_iload_n X 3 rfl dX7_blocksIn_24 25 rfl ?_
    refine r_iload_n X 1 rfl dX7_blocksIn_25 26 rfl ?_
    refine r_sipush (v := 128) X rfl dX7_blocksIn_26 29 rfl ?_
    refine r_iadd X dX7_blocksIn_29 30 rfl ?_
    refine r_icmp_ge X dX7_blocksIn_30 65 (by decide) 33 rfl (fun c20 => ?_) (fun c20 => ?_)
    · have h := z_it c20 h
      refine r_sub [(0, .ref (b + t0)), (2, .int a2)] [0, 2] rfl ?_
      have e := hx8 _ (Option.some.inj h).symm
      cases e
      exact hK8
    · have h := z_ie c20 h
      refine r_aload_n X 0 rfl dX7_blocksIn_33 34 rfl ?_
      refine r_get (v := .ref (b + (t0 + 1))) X ht0 rfl zv_X7 zi_X7 rfl kf_X7_7 rfl rfl dX7_blocksIn_34 37 rfl ?_
      refine r_iload_n X 3 rfl dX7_blocksIn_37 38 rfl ?_
      obtain ⟨x21, e21, h⟩ := z_bd h
      refine r_iaload X (zk_7_0 ht0) (zn_7_0 ht0) e21 dX7_blocksIn_38 39 rfl ?_
      refine r_if_le X dX7_blocksIn_39 59 (by decide) 42 rfl (fun c22 => ?_) (fun c22 => ?_)
      · have h := z_it c22 h
        refine r_iinc X dX7_blocksIn_59 62 rfl [(0, .ref (b + t0)), (1, .int a1), (2, .int a2), (3, .int (x5 + 1))] (by decide) 3 rfl (x5 + 1) rfl [1, 2, 3, 0] rfl ?_
        refine r_goto X dX7_blocksIn_62 24 (by decide) ?_
        exact hP8 ((x5 + 1), M6) (Option.some.inj h).symm
      · have h := z_ie c22 h
        refine r_aload_n X 0 rfl dX7_blocksIn_42 43 rfl ?_
        refine r_get (v := .ref (b + (t0 + 3))) X ht0 rfl zv_X7 zi_X7 rfl kf_X7_16 rfl rfl dX7_blocksIn_43 46 rfl ?_
        refine r_aload_n X 0 rfl dX7_blocksIn_46 47 rfl ?_
        refine r_get (v := .ref (b + (t0 + 1))) X ht0 rfl zv_X7 zi_X7 rfl kf_X7_7 rfl rfl dX7_blocksIn_47 50 rfl ?_
        refine r_iload_n X 3 rfl dX7_blocksIn_50 51 rfl ?_
        obtain ⟨x23, e23, h⟩ := z_bd h
        refine r_iaload X (zk_7_0 ht0) (zn_7_0 ht0) e23 dX7_blocksIn_51 52 rfl ?_
        refine r_iconst (v := 1) X rfl dX7_blocksIn_52 53 rfl ?_
        refine r_isub X dX7_blocksIn_53 54 rfl ?_
        refine r_dup2 X rfl rfl dX7_blocksIn_54 55 rfl ?_
        obtain ⟨x24, e24, h⟩ := z_bd h
        refine r_iaload X (zk_7_2 ht0) (zn_7_2 ht0) e24 dX7_blocksIn_55 56 rfl ?_
        refine r_iconst (v := 1) X rfl dX7_blocksIn_56 57 rfl ?_
        refine r_iadd X dX7_blocksIn_57 58 rfl ?_
        obtain ⟨M25, e25, h⟩ := z_bd h
        refine r_iastore X (zk_7_2 ht0) (zn_7_2 ht0) e25 dX7_blocksIn_58 59 rfl ?_
        refine r_iinc X dX7_blocksIn_59 62 rfl [(0, .ref (b + t0)), (1, .int a1), (2, .int a2), (3, .int (x5 + 1))] (by decide) 3 rfl (x5 + 1) rfl [1, 2, 3, 0] rfl ?_
        refine r_goto X dX7_blocksIn_62 24 (by decide) ?_
        exact hP8 ((x5 + 1), M25) (Option.some.inj h).symm
  clear h
  refine z_loopP (fun (s : (Int32 × zM)) => GW Γ G b 0 0 s.2 2 [(0, .ref (b + t0)), (1, .int a1), (2, .int a2), (3, .int s.1)] []) (fun s q4 hb hP4 hx4 => ?_) _ _ hL4
  obtain ⟨x1, M2⟩ := s
  have h : fX7_blocksIn_L1 t0 x1 M2 = some q4 := hb
  unfold fX7_blocksIn_L1 at h
  refine r_iload_n X 3 rfl dX7_blocksIn_2 3 rfl ?_
  refine r_sipush (v := 128) X rfl dX7_blocksIn_3 6 rfl ?_
  refine r_icmp_ge X dX7_blocksIn_6 22 (by decide) 9 rfl (fun c26 => ?_) (fun c26 => ?_)
  · have h := z_it c26 h
    refine r_sub [(0, .ref (b + t0)), (1, .int a1), (2, .int a2)] [0, 1, 2] rfl ?_
    have e := hx4 _ (Option.some.inj h).symm
    cases e
    exact hK4
  · have h := z_ie c26 h
    refine r_aload_n X 0 rfl dX7_blocksIn_9 10 rfl ?_
    refine r_get (v := .ref (b + (t0 + 3))) X ht0 rfl zv_X7 zi_X7 rfl kf_X7_16 rfl rfl dX7_blocksIn_10 13 rfl ?_
    refine r_iload_n X 3 rfl dX7_blocksIn_13 14 rfl ?_
    refine r_iconst (v := 0) X rfl dX7_blocksIn_14 15 rfl ?_
    obtain ⟨M27, e27, h⟩ := z_bd h
    refine r_iastore X (zk_7_2 ht0) (zn_7_2 ht0) e27 dX7_blocksIn_15 16 rfl ?_
    refine r_iinc X dX7_blocksIn_16 19 rfl [(0, .ref (b + t0)), (1, .int a1), (2, .int a2), (3, .int (x1 + 1))] (by decide) 3 rfl (x1 + 1) rfl [1, 2, 3, 0] rfl ?_
    refine r_goto X dX7_blocksIn_19 2 (by decide) ?_
    exact hP4 ((x1 + 1), M27) (Option.some.inj h).symm
set_option maxRecDepth 100000 in
set_option maxHeartbeats 1000000 in
theorem tX7_isRegion {l : Launch} (hl : l.stackTraces = false) (G : zG) (b : Nat) (t0 : Nat) (ht0 : z_kd t0 = 7) (a1 : Int32) (M : zM) {r9 : Int32} {M9 : zM} (h : fX7_isRegion t0 a1 M = some (r9, M9)) : z_MN l yX7_isRegion cX7_isRegion 2 (some .boolean) { frames := 1, cells := 0, slots := 0, locals := 22 } G b [.ref (b + t0), .int a1] M (some (.int r9)) M9 := by
  refine z_met (own := RX7) hl (by decide) rfl rfl (fun Γ hΓ X R => ?_)
  subst hΓ
  show GW Γ G b 0 0 M 0 [(0, .ref (b + t0)), (1, .int a1)] []
  unfold fX7_isRegion at h
  refine r_aload_n X 0 rfl dX7_isRegion_0 1 rfl ?_
  refine r_iload_n X 1 rfl dX7_isRegion_1 2 rfl ?_
  refine r_iconst (v := 0) X rfl dX7_isRegion_2 3 rfl ?_
  refine r_iconst (v := 3) X rfl dX7_isRegion_3 4 rfl ?_
  obtain ⟨x1, e1, h⟩ := z_bd h
  refine r_callS (rest := [.ref (b + t0)]) X (tX7_in hl G b a1 0 3 M e1) zy_X7_in zs_X7_in km_X7_26 rfl ⟨rfl, rfl⟩ ⟨rfl, rfl⟩ rfl rfl (Nat.le_of_ble_eq_true rfl) ⟨Nat.zero_le _, Nat.zero_le _⟩ dX7_isRegion_4 7 rfl [.int x1, .ref (b + t0)] rfl ?_
  refine r_iconst (v := 1) X rfl dX7_isRegion_7 8 rfl ?_
  obtain ⟨x2, M3, e3, h⟩ := z_bd2 h
  refine r_callV (rest := []) X (tX7_fits hl G b t0 ht0 x1 1 M e3) zy_X7_fits zw_X7_fits km_X7_59 ht0 rfl zv_X7 rfl ⟨rfl, rfl⟩ ⟨rfl, rfl⟩ rfl rfl (Nat.le_of_ble_eq_true rfl) ⟨Nat.zero_le _, Nat.zero_le _⟩ dX7_isRegion_8 11 rfl [.int x2] rfl ?_
  obtain ⟨hz, h⟩ := z_bz_of h
  cases h
  exact r_iret X R hz dX7_isRegion_11
set_option maxRecDepth 100000 in
set_option maxHeartbeats 1000000 in
theorem tX7_isEntry {l : Launch} (hl : l.stackTraces = false) (G : zG) (b : Nat) (t0 : Nat) (ht0 : z_kd t0 = 7) (a1 : Int32) (a2 : Int32) (M : zM) {r9 : Int32} {M9 : zM} (h : fX7_isEntry t0 a1 a2 M = some (r9, M9)) : z_MN l yX7_isEntry cX7_isEntry 3 (some .boolean) { frames := 1, cells := 0, slots := 0, locals := 22 } G b [.ref (b + t0), .int a1, .int a2] M (some (.int r9)) M9 := by
  refine z_met (own := RX7) hl (by decide) rfl rfl (fun Γ hΓ X R => ?_)
  subst hΓ
  show GW Γ G b 0 0 M 0 [(0, .ref (b + t0)), (1, .int a1), (2, .int a2)] []
  unfold fX7_isEntry at h
  refine r_aload_n X 0 rfl dX7_isEntry_0 1 rfl ?_
  refine r_iload_n X 1 rfl dX7_isEntry_1 2 rfl ?_
  refine r_iconst (v := 0) X rfl dX7_isEntry_2 3 rfl ?_
  refine r_iconst (v := 3) X rfl dX7_isEntry_3 4 rfl ?_
  obtain ⟨x1, e1, h⟩ := z_bd h
  refine r_callS (rest := [.ref (b + t0)]) X (tX7_in hl G b a1 0 3 M e1) zy_X7_in zs_X7_in km_X7_26 rfl ⟨rfl, rfl⟩ ⟨rfl, rfl⟩ rfl rfl (Nat.le_of_ble_eq_true rfl) ⟨Nat.zero_le _, Nat.zero_le _⟩ dX7_isEntry_4 7 rfl [.int x1, .ref (b + t0)] rfl ?_
  obtain ⟨j3, hT3, h⟩ := z_bd h
  have hJ3 : GW Γ G b 0 0 M 35 [] [.int j3, .ref (b + t0)] := by
    refine r_iconst (v := 1) X rfl dX7_isEntry_35 36 rfl ?_
    obtain ⟨x4, M5, e5, h⟩ := z_bd2 h
    refine r_callV (rest := []) X (tX7_fits hl G b t0 ht0 j3 1 M e5) zy_X7_fits zw_X7_fits km_X7_59 ht0 rfl zv_X7 rfl ⟨rfl, rfl⟩ ⟨rfl, rfl⟩ rfl rfl (Nat.le_of_ble_eq_true rfl) ⟨Nat.zero_le _, Nat.zero_le _⟩ dX7_isEntry_36 39 rfl [.int x4] rfl ?_
    obtain ⟨hz, h⟩ := z_bz_of h
    cases h
    exact r_iret X R hz dX7_isEntry_39
  have h := hT3
  refine r_if_eq X dX7_isEntry_7 34 (by decide) 10 rfl (fun c2 => ?_) (fun c2 => ?_)
  · have h := z_it c2 h
    refine r_iconst (v := 0) X rfl dX7_isEntry_34 35 rfl ?_
    refine r_sub [] [] rfl ?_
    cases h
    exact hJ3
  · have h := z_ie c2 h
    refine r_iload_n X 2 rfl dX7_isEntry_10 11 rfl ?_
    refine r_iconst (v := 0) X rfl dX7_isEntry_11 12 rfl ?_
    refine r_aload_n X 0 rfl dX7_isEntry_12 13 rfl ?_
    refine r_get (v := .ref (b + (t0 + 1))) X ht0 rfl zv_X7 zi_X7 rfl kf_X7_7 rfl rfl dX7_isEntry_13 16 rfl ?_
    refine r_sipush (v := 3390) X rfl dX7_isEntry_16 19 rfl ?_
    refine r_iload_n X 1 rfl dX7_isEntry_19 20 rfl ?_
    refine r_iadd X dX7_isEntry_20 21 rfl ?_
    obtain ⟨x6, e6, h⟩ := z_bd h
    refine r_iaload X (zk_7_0 ht0) (zn_7_0 ht0) e6 dX7_isEntry_21 22 rfl ?_
    refine r_iconst (v := 1) X rfl dX7_isEntry_22 23 rfl ?_
    refine r_isub X dX7_isEntry_23 24 rfl ?_
    obtain ⟨x7, e7, h⟩ := z_bd h
    refine r_callS (rest := [.ref (b + t0)]) X (tX7_in hl G b a2 0 (x6 - 1) M e7) zy_X7_in zs_X7_in km_X7_26 rfl ⟨rfl, rfl⟩ ⟨rfl, rfl⟩ rfl rfl (Nat.le_of_ble_eq_true rfl) ⟨Nat.zero_le _, Nat.zero_le _⟩ dX7_isEntry_24 27 rfl [.int x7, .ref (b + t0)] rfl ?_
    refine r_if_eq X dX7_isEntry_27 34 (by decide) 30 rfl (fun c8 => ?_) (fun c8 => ?_)
    · have h := z_it c8 h
      refine r_iconst (v := 0) X rfl dX7_isEntry_34 35 rfl ?_
      refine r_sub [] [] rfl ?_
      cases h
      exact hJ3
    · have h := z_ie c8 h
      refine r_iconst (v := 1) X rfl dX7_isEntry_30 31 rfl ?_
      refine r_goto X dX7_isEntry_31 35 (by decide) ?_
      refine r_sub [] [] rfl ?_
      cases h
      exact hJ3
