set_option maxRecDepth 100000 in
set_option maxHeartbeats 1000000 in
theorem tX4_blockOf {l : Launch} (hl : l.stackTraces = false) (G : zG) (b : Nat) (t0 : Nat) (ht0 : z_kd t0 = 4) (a1 : Int32) (M : zM) {r9 : Int32} (h : fX4_blockOf t0 a1 M = some r9) : z_MN l yX4_blockOf cX4_blockOf 2 (some .int) { frames := 0, cells := 0, slots := 0, locals := 0 } G b [.ref (b + t0), .int a1] M (some (.int r9)) M := by
  refine z_met (own := RX4) hl (by decide) rfl rfl (fun Γ hΓ X R => ?_)
  subst hΓ
  show GW Γ G b 0 0 M 0 [(0, .ref (b + t0)), (1, .int a1)] []
  unfold fX4_blockOf at h
  refine r_iload_n X 1 rfl dX4_blockOf_0 1 rfl ?_
  refine r_if_lt X dX4_blockOf_1 22 (by decide) 4 rfl (fun c1 => ?_) (fun c1 => ?_)
  · have h := z_it c1 h
    refine r_iconst (v := (-1)) X rfl dX4_blockOf_22 23 rfl ?_
    cases h
    exact r_iret X R rfl dX4_blockOf_23
  · have h := z_ie c1 h
    refine r_iload_n X 1 rfl dX4_blockOf_4 5 rfl ?_
    refine r_aload_n X 0 rfl dX4_blockOf_5 6 rfl ?_
    refine r_get (v := .ref (b + (t0 + 1))) X ht0 rfl zv_X4 zi_X4 rfl kf_X4_9 rfl rfl dX4_blockOf_6 9 rfl ?_
    refine r_alen (v := 128) X (zk_4_0 ht0) rfl (z_lt rfl (zk_4_0 ht0)) (zn_4_0 ht0) rfl rfl rfl dX4_blockOf_9 10 rfl ?_
    refine r_icmp_ge X dX4_blockOf_10 22 (by decide) 13 rfl (fun c2 => ?_) (fun c2 => ?_)
    · have h := z_it c2 h
      refine r_iconst (v := (-1)) X rfl dX4_blockOf_22 23 rfl ?_
      cases h
      exact r_iret X R rfl dX4_blockOf_23
    · have h := z_ie c2 h
      refine r_aload_n X 0 rfl dX4_blockOf_13 14 rfl ?_
      refine r_get (v := .ref (b + (t0 + 1))) X ht0 rfl zv_X4 zi_X4 rfl kf_X4_9 rfl rfl dX4_blockOf_14 17 rfl ?_
      refine r_iload_n X 1 rfl dX4_blockOf_17 18 rfl ?_
      obtain ⟨x3, e3, h⟩ := z_bd h
      refine r_iaload X (zk_4_0 ht0) (zn_4_0 ht0) e3 dX4_blockOf_18 19 rfl ?_
      refine r_goto X dX4_blockOf_19 23 (by decide) ?_
      cases h
      exact r_iret X R rfl dX4_blockOf_23
set_option maxRecDepth 100000 in
set_option maxHeartbeats 1000000 in
theorem tX3_isBlock {l : Launch} (hl : l.stackTraces = false) (G : zG) (b : Nat) (a0 : Int32) (M : zM) {r9 : Int32} (h : fX3_isBlock a0 M = some r9) : z_MN l yX3_isBlock cX3_isBlock 1 (some .boolean) { frames := 0, cells := 0, slots := 0, locals := 0 } G b [.int a0] M (some (.int r9)) M := by
  refine z_met (own := RX3) hl (by decide) rfl rfl (fun Γ hΓ X R => ?_)
  subst hΓ
  show GW Γ G b 0 0 M 0 [(0, .int a0)] []
  unfold fX3_isBlock at h
  refine r_iload_n X 0 rfl dX3_isBlock_0 1 rfl ?_
  refine r_if_lt X dX3_isBlock_1 15 (by decide) 4 rfl (fun c1 => ?_) (fun c1 => ?_)
  · have h := z_it c1 h
    refine r_iconst (v := 0) X rfl dX3_isBlock_15 16 rfl ?_
    cases h
    exact r_iret X R rfl dX3_isBlock_16
  · have h := z_ie c1 h
    refine r_iload_n X 0 rfl dX3_isBlock_4 5 rfl ?_
    refine r_sipush (v := 128) X rfl dX3_isBlock_5 8 rfl ?_
    refine r_icmp_ge X dX3_isBlock_8 15 (by decide) 11 rfl (fun c2 => ?_) (fun c2 => ?_)
    · have h := z_it c2 h
      refine r_iconst (v := 0) X rfl dX3_isBlock_15 16 rfl ?_
      cases h
      exact r_iret X R rfl dX3_isBlock_16
    · have h := z_ie c2 h
      refine r_iconst (v := 1) X rfl dX3_isBlock_11 12 rfl ?_
      refine r_goto X dX3_isBlock_12 16 (by decide) ?_
      cases h
      exact r_iret X R rfl dX3_isBlock_16
set_option maxRecDepth 100000 in
set_option maxHeartbeats 1000000 in
theorem tX3_isAllocated {l : Launch} (hl : l.stackTraces = false) (G : zG) (b : Nat) (t0 : Nat) (ht0 : z_kd t0 = 3) (a1 : Int32) (M : zM) {r9 : Int32} (h : fX3_isAllocated t0 a1 M = some r9) : z_MN l yX3_isAllocated cX3_isAllocated 2 (some .boolean) { frames := 1, cells := 0, slots := 0, locals := 20 } G b [.ref (b + t0), .int a1] M (some (.int r9)) M := by
  refine z_met (own := RX3) hl (by decide) rfl rfl (fun Γ hΓ X R => ?_)
  subst hΓ
  show GW Γ G b 0 0 M 0 [(0, .ref (b + t0)), (1, .int a1)] []
  unfold fX3_isAllocated at h
  refine r_iload_n X 1 rfl dX3_isAllocated_0 1 rfl ?_
  obtain ⟨x1, e1, h⟩ := z_bd h
  refine r_callS (rest := []) X (tX3_isBlock hl G b a1 M e1) zy_X3_isBlock zs_X3_isBlock km_X3_24 rfl ⟨rfl, rfl⟩ ⟨rfl, rfl⟩ rfl rfl (Nat.le_of_ble_eq_true rfl) ⟨Nat.zero_le _, Nat.zero_le _⟩ dX3_isAllocated_1 4 rfl [.int x1] rfl ?_
  refine r_if_eq X dX3_isAllocated_4 21 (by decide) 7 rfl (fun c2 => ?_) (fun c2 => ?_)
  · have h := z_it c2 h
    refine r_iconst (v := 0) X rfl dX3_isAllocated_21 22 rfl ?_
    cases h
    exact r_iret X R rfl dX3_isAllocated_22
  · have h := z_ie c2 h
    refine r_aload_n X 0 rfl dX3_isAllocated_7 8 rfl ?_
    refine r_get (v := .ref (b + (t0 + 1))) X ht0 rfl zv_X3 zi_X3 rfl kf_X3_9 rfl rfl dX3_isAllocated_8 11 rfl ?_
    refine r_iload_n X 1 rfl dX3_isAllocated_11 12 rfl ?_
    obtain ⟨x3, e3, h⟩ := z_bd h
    refine r_iaload X (zk_3_0 ht0) (zn_3_0 ht0) e3 dX3_isAllocated_12 13 rfl ?_
    refine r_iconst (v := 1) X rfl dX3_isAllocated_13 14 rfl ?_
    refine r_icmp_ne X dX3_isAllocated_14 21 (by decide) 17 rfl (fun c4 => ?_) (fun c4 => ?_)
    · have h := z_ie c4 h
      refine r_iconst (v := 0) X rfl dX3_isAllocated_21 22 rfl ?_
      cases h
      exact r_iret X R rfl dX3_isAllocated_22
    · have h := z_it c4 h
      refine r_iconst (v := 1) X rfl dX3_isAllocated_17 18 rfl ?_
      refine r_goto X dX3_isAllocated_18 22 (by decide) ?_
      cases h
      exact r_iret X R rfl dX3_isAllocated_22
set_option maxRecDepth 100000 in
set_option maxHeartbeats 1000000 in
theorem tX3_bornIn {l : Launch} (hl : l.stackTraces = false) (G : zG) (b : Nat) (t0 : Nat) (ht0 : z_kd t0 = 3) (a1 : Int32) (a2 : Int32) (M : zM) {r9 : Int32} (h : fX3_bornIn t0 a1 a2 M = some r9) : z_MN l yX3_bornIn cX3_bornIn 3 (some .boolean) { frames := 2, cells := 0, slots := 0, locals := 41 } G b [.ref (b + t0), .int a1, .int a2] M (some (.int r9)) M := by
  refine z_met (own := RX3) hl (by decide) rfl rfl (fun Γ hΓ X R => ?_)
  subst hΓ
  show GW Γ G b 0 0 M 0 [(0, .ref (b + t0)), (1, .int a1), (2, .int a2)] []
  unfold fX3_bornIn at h
  refine r_aload_n X 0 rfl dX3_bornIn_0 1 rfl ?_
  refine r_iload_n X 1 rfl dX3_bornIn_1 2 rfl ?_
  obtain ⟨x1, e1, h⟩ := z_bd h
  refine r_callV (rest := []) X (tX3_isAllocated hl G b t0 ht0 a1 M e1) zy_X3_isAllocated zw_X3_isAllocated km_X3_28 ht0 rfl zv_X3 rfl ⟨rfl, rfl⟩ ⟨rfl, rfl⟩ rfl rfl (Nat.le_of_ble_eq_true rfl) ⟨Nat.zero_le _, Nat.zero_le _⟩ dX3_bornIn_2 5 rfl [.int x1] rfl ?_
  refine r_if_eq X dX3_bornIn_5 22 (by decide) 8 rfl (fun c2 => ?_) (fun c2 => ?_)
  · have h := z_it c2 h
    refine r_iconst (v := 0) X rfl dX3_bornIn_22 23 rfl ?_
    cases h
    exact r_iret X R rfl dX3_bornIn_23
  · have h := z_ie c2 h
    refine r_aload_n X 0 rfl dX3_bornIn_8 9 rfl ?_
    refine r_get (v := .ref (b + (t0 + 3))) X ht0 rfl zv_X3 zi_X3 rfl kf_X3_18 rfl rfl dX3_bornIn_9 12 rfl ?_
    refine r_iload_n X 1 rfl dX3_bornIn_12 13 rfl ?_
    obtain ⟨x3, e3, h⟩ := z_bd h
    refine r_iaload X (zk_3_2 ht0) (zn_3_2 ht0) e3 dX3_bornIn_13 14 rfl ?_
    refine r_iload_n X 2 rfl dX3_bornIn_14 15 rfl ?_
    refine r_icmp_ne X dX3_bornIn_15 22 (by decide) 18 rfl (fun c4 => ?_) (fun c4 => ?_)
    · have h := z_ie c4 h
      refine r_iconst (v := 0) X rfl dX3_bornIn_22 23 rfl ?_
      cases h
      exact r_iret X R rfl dX3_bornIn_23
    · have h := z_it c4 h
      refine r_iconst (v := 1) X rfl dX3_bornIn_18 19 rfl ?_
      refine r_goto X dX3_bornIn_19 23 (by decide) ?_
      cases h
      exact r_iret X R rfl dX3_bornIn_23
set_option maxRecDepth 100000 in
set_option maxHeartbeats 1000000 in
theorem tX3_usesOf {l : Launch} (hl : l.stackTraces = false) (G : zG) (b : Nat) (t0 : Nat) (ht0 : z_kd t0 = 3) (a1 : Int32) (M : zM) {r9 : Int32} (h : fX3_usesOf t0 a1 M = some r9) : z_MN l yX3_usesOf cX3_usesOf 2 (some .int) { frames := 1, cells := 0, slots := 0, locals := 20 } G b [.ref (b + t0), .int a1] M (some (.int r9)) M := by
  refine z_met (own := RX3) hl (by decide) rfl rfl (fun Γ hΓ X R => ?_)
  subst hΓ
  show GW Γ G b 0 0 M 0 [(0, .ref (b + t0)), (1, .int a1)] []
  unfold fX3_usesOf at h
  refine r_iload_n X 1 rfl dX3_usesOf_0 1 rfl ?_
  obtain ⟨x1, e1, h⟩ := z_bd h
  refine r_callS (rest := []) X (tX3_isBlock hl G b a1 M e1) zy_X3_isBlock zs_X3_isBlock km_X3_24 rfl ⟨rfl, rfl⟩ ⟨rfl, rfl⟩ rfl rfl (Nat.le_of_ble_eq_true rfl) ⟨Nat.zero_le _, Nat.zero_le _⟩ dX3_usesOf_1 4 rfl [.int x1] rfl ?_
  refine r_if_eq X dX3_usesOf_4 16 (by decide) 7 rfl (fun c2 => ?_) (fun c2 => ?_)
  · have h := z_it c2 h
    refine r_iconst (v := 0) X rfl dX3_usesOf_16 17 rfl ?_
    cases h
    exact r_iret X R rfl dX3_usesOf_17
  · have h := z_ie c2 h
    refine r_aload_n X 0 rfl dX3_usesOf_7 8 rfl ?_
    refine r_get (v := .ref (b + (t0 + 4))) X ht0 rfl zv_X3 zi_X3 rfl kf_X3_21 rfl rfl dX3_usesOf_8 11 rfl ?_
    refine r_iload_n X 1 rfl dX3_usesOf_11 12 rfl ?_
    obtain ⟨x3, e3, h⟩ := z_bd h
    refine r_iaload X (zk_3_3 ht0) (zn_3_3 ht0) e3 dX3_usesOf_12 13 rfl ?_
    refine r_goto X dX3_usesOf_13 17 (by decide) ?_
    cases h
    exact r_iret X R rfl dX3_usesOf_17
set_option maxRecDepth 100000 in
set_option maxHeartbeats 1000000 in
theorem tX3_setValue {l : Launch} (hl : l.stackTraces = false) (G : zG) (b : Nat) (t0 : Nat) (ht0 : z_kd t0 = 3) (a1 : Int32) (a2 : Int32) (M : zM) {M9 : zM} (h : fX3_setValue t0 a1 a2 M = some M9) : z_MN l yX3_setValue cX3_setValue 3 none { frames := 1, cells := 0, slots := 0, locals := 20 } G b [.ref (b + t0), .int a1, .int a2] M none M9 := by
  refine z_met (own := RX3) hl (by decide) rfl rfl (fun Γ hΓ X R => ?_)
  subst hΓ
  show GW Γ G b 0 0 M 0 [(0, .ref (b + t0)), (1, .int a1), (2, .int a2)] []
  unfold fX3_setValue at h
  refine r_iload_n X 1 rfl dX3_setValue_0 1 rfl ?_
  obtain ⟨x1, e1, h⟩ := z_bd h
  refine r_callS (rest := []) X (tX3_isBlock hl G b a1 M e1) zy_X3_isBlock zs_X3_isBlock km_X3_24 rfl ⟨rfl, rfl⟩ ⟨rfl, rfl⟩ rfl rfl (Nat.le_of_ble_eq_true rfl) ⟨Nat.zero_le _, Nat.zero_le _⟩ dX3_setValue_1 4 rfl [.int x1] rfl ?_
  refine r_if_eq X dX3_setValue_4 14 (by decide) 7 rfl (fun c2 => ?_) (fun c2 => ?_)
  · have h := z_it c2 h
    cases h
    exact r_vret X R dX3_setValue_14
  · have h := z_ie c2 h
    refine r_aload_n X 0 rfl dX3_setValue_7 8 rfl ?_
    refine r_get (v := .ref (b + (t0 + 2))) X ht0 rfl zv_X3 zi_X3 rfl kf_X3_15 rfl rfl dX3_setValue_8 11 rfl ?_
    refine r_iload_n X 1 rfl dX3_setValue_11 12 rfl ?_
    refine r_iload_n X 2 rfl dX3_setValue_12 13 rfl ?_
    obtain ⟨M3, e3, h⟩ := z_bd h
    refine r_iastore X (zk_3_1 ht0) (zn_3_1 ht0) e3 dX3_setValue_13 14 rfl ?_
    cases h
    exact r_vret X R dX3_setValue_14
set_option maxRecDepth 100000 in
set_option maxHeartbeats 1000000 in
theorem tX3_count {l : Launch} (hl : l.stackTraces = false) (G : zG) (b : Nat) (t0 : Nat) (ht0 : z_kd t0 = 3) (a1 : Int32) (a2 : Int32) (a3 : Int32) (M : zM) {r9 : Int32} (h : fX3_count t0 a1 a2 a3 M = some r9) : z_MN l yX3_count cX3_count 6 (some .int) { frames := 1, cells := 0, slots := 0, locals := 20 } G b [.ref (b + t0), .int a1, .int a2, .int a3] M (some (.int r9)) M := by
  refine z_met (own := RX3) hl (by decide) rfl rfl (fun Γ hΓ X R => ?_)
  subst hΓ
  show GW Γ G b 0 0 M 0 [(0, .ref (b + t0)), (1, .int a1), (2, .int a2), (3, .int a3)] []
  unfold fX3_count at h
  refine r_iconst (v := 0) X rfl dX3_count_0 1 rfl ?_
  refine r_istore X dX3_count_1 3 rfl [(0, .ref (b + t0)), (1, .int a1), (2, .int a2), (3, .int a3), (4, .int 0)] (by decide) [1, 2, 3, 4, 0] rfl ?_
  refine r_iload_n X 2 rfl dX3_count_3 4 rfl ?_
  refine r_istore X dX3_count_4 6 rfl [(0, .ref (b + t0)), (1, .int a1), (3, .int a3), (4, .int 0), (5, .int a2)] (by decide) [1, 2, 4, 5, 0] rfl ?_
  obtain ⟨x3, hL4, h⟩ := z_bd h
  have hK4 : GW Γ G b 0 0 M 40 [(4, .int x3)] [] := by
    refine r_iload X 0 rfl dX3_count_40 42 rfl ?_
    cases h
    exact r_iret X R rfl dX3_count_42
  clear h
  refine z_loopP (fun (s : (Int32 × Int32)) => GW Γ G b 0 0 M 6 [(0, .ref (b + t0)), (1, .int a1), (3, .int a3), (4, .int s.1), (5, .int s.2)] []) (fun s q4 hb hP4 hx4 => ?_) _ _ hL4
  obtain ⟨x1, x2⟩ := s
  have h : fX3_count_L1 t0 a1 a3 M x1 x2 = some q4 := hb
  unfold fX3_count_L1 at h
  refine r_iload X 4 rfl dX3_count_6 8 rfl ?_
  refine r_iload_n X 2 rfl dX3_count_8 9 rfl ?_
  refine r_icmp_ge X dX3_count_9 40 (by decide) 12 rfl (fun c5 => ?_) (fun c5 => ?_)
  · have h := z_it c5 h
    refine r_sub [(4, .int x1)] [3] rfl ?_
    have e := hx4 _ (Option.some.inj h).symm
    cases e
    exact hK4
  · have h := z_ie c5 h
    refine r_iload X 4 rfl dX3_count_12 14 rfl ?_
    obtain ⟨x6, e6, h⟩ := z_bd h
    refine r_callS (rest := []) X (tX3_isBlock hl G b x2 M e6) zy_X3_isBlock zs_X3_isBlock km_X3_24 rfl ⟨rfl, rfl⟩ ⟨rfl, rfl⟩ rfl rfl (Nat.le_of_ble_eq_true rfl) ⟨Nat.zero_le _, Nat.zero_le _⟩ dX3_count_14 17 rfl [.int x6] rfl ?_
    refine r_if_eq X dX3_count_17 34 (by decide) 20 rfl (fun c7 => ?_) (fun c7 => ?_)
    · have h := z_it c7 h
      refine r_iinc X dX3_count_34 37 rfl [(0, .ref (b + t0)), (1, .int a1), (3, .int a3), (4, .int x1), (5, .int (x2 + 1))] (by decide) 4 rfl (x2 + 1) rfl [1, 2, 3, 4, 0] rfl ?_
      refine r_goto X dX3_count_37 6 (by decide) ?_
      exact hP4 (x1, (x2 + 1)) (Option.some.inj h).symm
    · have h := z_ie c7 h
      refine r_aload_n X 0 rfl dX3_count_20 21 rfl ?_
      refine r_get (v := .ref (b + (t0 + 1))) X ht0 rfl zv_X3 zi_X3 rfl kf_X3_9 rfl rfl dX3_count_21 24 rfl ?_
      refine r_iload X 4 rfl dX3_count_24 26 rfl ?_
      obtain ⟨x8, e8, h⟩ := z_bd h
      refine r_iaload X (zk_3_0 ht0) (zn_3_0 ht0) e8 dX3_count_26 27 rfl ?_
      refine r_iload_n X 1 rfl dX3_count_27 28 rfl ?_
      refine r_icmp_ne X dX3_count_28 34 (by decide) 31 rfl (fun c9 => ?_) (fun c9 => ?_)
      · have h := z_ie c9 h
        refine r_iinc X dX3_count_34 37 rfl [(0, .ref (b + t0)), (1, .int a1), (3, .int a3), (4, .int x1), (5, .int (x2 + 1))] (by decide) 4 rfl (x2 + 1) rfl [1, 2, 3, 4, 0] rfl ?_
        refine r_goto X dX3_count_37 6 (by decide) ?_
        exact hP4 (x1, (x2 + 1)) (Option.some.inj h).symm
      · have h := z_it c9 h
        refine r_iinc X dX3_count_31 34 rfl [(0, .ref (b + t0)), (1, .int a1), (3, .int a3), (4, .int (x1 + 1)), (5, .int x2)] (by decide) 3 rfl (x1 + 1) rfl [1, 2, 3, 0, 4] rfl ?_
        refine r_iinc X dX3_count_34 37 rfl [(0, .ref (b + t0)), (1, .int a1), (3, .int a3), (4, .int (x1 + 1)), (5, .int (x2 + 1))] (by decide) 4 rfl (x2 + 1) rfl [1, 2, 3, 4, 0] rfl ?_
        refine r_goto X dX3_count_37 6 (by decide) ?_
        exact hP4 ((x1 + 1), (x2 + 1)) (Option.some.inj h).symm
set_option maxRecDepth 100000 in
set_option maxHeartbeats 1000000 in
theorem tX3_freeInRegion {l : Launch} (hl : l.stackTraces = false) (G : zG) (b : Nat) (t0 : Nat) (ht0 : z_kd t0 = 3) (a1 : Int32) (M : zM) {r9 : Int32} (h : fX3_freeInRegion t0 a1 M = some r9) : z_MN l yX3_freeInRegion cX3_freeInRegion 3 (some .int) { frames := 2, cells := 0, slots := 0, locals := 45 } G b [.ref (b + t0), .int a1] M (some (.int r9)) M := by
  refine z_met (own := RX3) hl (by decide) rfl rfl (fun Γ hΓ X R => ?_)
  subst hΓ
  show GW Γ G b 0 0 M 0 [(0, .ref (b + t0)), (1, .int a1)] []
  unfold fX3_freeInRegion at h
  refine r_iload_n X 1 rfl dX3_freeInRegion_0 1 rfl ?_
  refine r_bipush (v := 32) X rfl dX3_freeInRegion_1 3 rfl ?_
  refine r_imul X dX3_freeInRegion_3 4 rfl ?_
  refine r_istore_n X dX3_freeInRegion_4 5 rfl [(0, .ref (b + t0)), (2, .int (a1 * 32))] (by decide) [1, 0] rfl ?_
  refine r_aload_n X 0 rfl dX3_freeInRegion_5 6 rfl ?_
  refine r_iconst (v := 0) X rfl dX3_freeInRegion_6 7 rfl ?_
  refine r_iload_n X 1 rfl dX3_freeInRegion_7 8 rfl ?_
  refine r_iload_n X 1 rfl dX3_freeInRegion_8 9 rfl ?_
  refine r_bipush (v := 32) X rfl dX3_freeInRegion_9 11 rfl ?_
  refine r_iadd X dX3_freeInRegion_11 12 rfl ?_
  obtain ⟨x1, e1, h⟩ := z_bd h
  refine r_callV (rest := []) X (tX3_count hl G b t0 ht0 0 (a1 * 32) ((a1 * 32) + 32) M e1) zy_X3_count zw_X3_count km_X3_31 ht0 rfl zv_X3 rfl ⟨rfl, rfl⟩ ⟨rfl, rfl⟩ rfl rfl (Nat.le_of_ble_eq_true rfl) ⟨Nat.zero_le _, Nat.zero_le _⟩ dX3_freeInRegion_12 15 rfl [.int x1] rfl ?_
  cases h
  exact r_iret X R rfl dX3_freeInRegion_15
set_option maxRecDepth 100000 in
set_option maxHeartbeats 1000000 in
theorem tX3_emptiestRegion {l : Launch} (hl : l.stackTraces = false) (G : zG) (b : Nat) (t0 : Nat) (ht0 : z_kd t0 = 3) (M : zM) {r9 : Int32} (h : fX3_emptiestRegion t0 M = some r9) : z_MN l yX3_emptiestRegion cX3_emptiestRegion 5 (some .int) { frames := 3, cells := 0, slots := 0, locals := 67 } G b [.ref (b + t0)] M (some (.int r9)) M := by
  refine z_met (own := RX3) hl (by decide) rfl rfl (fun Γ hΓ X R => ?_)
  subst hΓ
  show GW Γ G b 0 0 M 0 [(0, .ref (b + t0))] []
  unfold fX3_emptiestRegion at h
  refine r_iconst (v := 0) X rfl dX3_emptiestRegion_0 1 rfl ?_
  refine r_istore_n X dX3_emptiestRegion_1 2 rfl [(0, .ref (b + t0)), (1, .int 0)] (by decide) [1, 0] rfl ?_
  refine r_iconst (v := (-1)) X rfl dX3_emptiestRegion_2 3 rfl ?_
  refine r_istore_n X dX3_emptiestRegion_3 4 rfl [(0, .ref (b + t0)), (1, .int 0), (2, .int (-1))] (by decide) [1, 2, 0] rfl ?_
  refine r_iconst (v := 0) X rfl dX3_emptiestRegion_4 5 rfl ?_
  refine r_istore_n X dX3_emptiestRegion_5 6 rfl [(0, .ref (b + t0)), (1, .int 0), (2, .int (-1)), (3, .int 0)] (by decide) [1, 2, 3, 0] rfl ?_
  obtain ⟨x4, hL5, h⟩ := z_bd h
  have hK5 : GW Γ G b 0 0 M 35 [(1, .int x4)] [] := by
    refine r_iload_n X 0 rfl dX3_emptiestRegion_35 36 rfl ?_
    cases h
    exact r_iret X R rfl dX3_emptiestRegion_36
  clear h
  refine z_loopP (fun (s : (Int32 × Int32 × Int32)) => GW Γ G b 0 0 M 6 [(0, .ref (b + t0)), (1, .int s.1), (2, .int s.2.1), (3, .int s.2.2)] []) (fun s q5 hb hP5 hx5 => ?_) _ _ hL5
  obtain ⟨x1, x2, x3⟩ := s
  have h : fX3_emptiestRegion_L1 t0 M x1 x2 x3 = some q5 := hb
  unfold fX3_emptiestRegion_L1 at h
  refine r_iload_n X 3 rfl dX3_emptiestRegion_6 7 rfl ?_
  refine r_iconst (v := 4) X rfl dX3_emptiestRegion_7 8 rfl ?_
  refine r_icmp_ge X dX3_emptiestRegion_8 35 (by decide) 11 rfl (fun c6 => ?_) (fun c6 => ?_)
  · have h := z_it c6 h
    refine r_sub [(1, .int x1)] [1] rfl ?_
    have e := hx5 _ (Option.some.inj h).symm
    cases e
    exact hK5
  · have h := z_ie c6 h
    refine r_aload_n X 0 rfl dX3_emptiestRegion_11 12 rfl ?_
    refine r_iload_n X 3 rfl dX3_emptiestRegion_12 13 rfl ?_
    obtain ⟨x7, e7, h⟩ := z_bd h
    refine r_callV (rest := []) X (tX3_freeInRegion hl G b t0 ht0 x3 M e7) zy_X3_freeInRegion zw_X3_freeInRegion km_X3_35 ht0 rfl zv_X3 rfl ⟨rfl, rfl⟩ ⟨rfl, rfl⟩ rfl rfl (Nat.le_of_ble_eq_true rfl) ⟨Nat.zero_le _, Nat.zero_le _⟩ dX3_emptiestRegion_13 16 rfl [.int x7] rfl ?_
    refine r_istore X dX3_emptiestRegion_16 18 rfl [(0, .ref (b + t0)), (1, .int x1), (2, .int x2), (3, .int x3), (4, .int x7)] (by decide) [1, 2, 3, 4, 0] rfl ?_
    refine r_iload X 4 rfl dX3_emptiestRegion_18 20 rfl ?_
    refine r_iload_n X 2 rfl dX3_emptiestRegion_20 21 rfl ?_
    refine r_icmp_le X dX3_emptiestRegion_21 29 (by decide) 24 rfl (fun c8 => ?_) (fun c8 => ?_)
    · have h := z_it c8 h
      refine r_iinc X dX3_emptiestRegion_29 32 rfl [(0, .ref (b + t0)), (1, .int x1), (2, .int x2), (3, .int (x3 + 1))] (by decide) 3 rfl (x3 + 1) rfl [1, 2, 3, 0] rfl ?_
      refine r_goto X dX3_emptiestRegion_32 6 (by decide) ?_
      exact hP5 (x1, x2, (x3 + 1)) (Option.some.inj h).symm
    · have h := z_ie c8 h
      refine r_iload_n X 3 rfl dX3_emptiestRegion_24 25 rfl ?_
      refine r_istore_n X dX3_emptiestRegion_25 26 rfl [(0, .ref (b + t0)), (1, .int x3), (3, .int x3), (4, .int x7)] (by decide) [1, 0, 3, 4] rfl ?_
      refine r_iload X 3 rfl dX3_emptiestRegion_26 28 rfl ?_
      refine r_istore_n X dX3_emptiestRegion_28 29 rfl [(0, .ref (b + t0)), (1, .int x3), (2, .int x7), (3, .int x3)] (by decide) [1, 2, 0, 3] rfl ?_
      refine r_iinc X dX3_emptiestRegion_29 32 rfl [(0, .ref (b + t0)), (1, .int x3), (2, .int x7), (3, .int (x3 + 1))] (by decide) 3 rfl (x3 + 1) rfl [1, 2, 3, 0] rfl ?_
      refine r_goto X dX3_emptiestRegion_32 6 (by decide) ?_
      exact hP5 (x3, x7, (x3 + 1)) (Option.some.inj h).symm
set_option maxRecDepth 100000 in
set_option maxHeartbeats 1000000 in
theorem tX3_nextFreeBlock {l : Launch} (hl : l.stackTraces = false) (G : zG) (b : Nat) (t0 : Nat) (ht0 : z_kd t0 = 3) (M : zM) {r9 : Int32} (h : fX3_nextFreeBlock t0 M = some r9) : z_MN l yX3_nextFreeBlock cX3_nextFreeBlock 3 (some .int) { frames := 4, cells := 0, slots := 0, locals := 91 } G b [.ref (b + t0)] M (some (.int r9)) M := by
  refine z_met (own := RX3) hl (by decide) rfl rfl (fun Γ hΓ X R => ?_)
  subst hΓ
  show GW Γ G b 0 0 M 0 [(0, .ref (b + t0))] []
  unfold fX3_nextFreeBlock at h
  refine r_aload_n X 0 rfl dX3_nextFreeBlock_0 1 rfl ?_
  obtain ⟨x1, e1, h⟩ := z_bd h
  refine r_callV (rest := []) X (tX3_emptiestRegion hl G b t0 ht0 M e1) zy_X3_emptiestRegion zw_X3_emptiestRegion km_X3_39 ht0 rfl zv_X3 rfl ⟨rfl, rfl⟩ ⟨rfl, rfl⟩ rfl rfl (Nat.le_of_ble_eq_true rfl) ⟨Nat.zero_le _, Nat.zero_le _⟩ dX3_nextFreeBlock_1 4 rfl [.int x1] rfl ?_
  refine r_bipush (v := 32) X rfl dX3_nextFreeBlock_4 6 rfl ?_
  refine r_imul X dX3_nextFreeBlock_6 7 rfl ?_
  refine r_istore_n X dX3_nextFreeBlock_7 8 rfl [(0, .ref (b + t0)), (1, .int (x1 * 32))] (by decide) [1, 0] rfl ?_
  refine r_iload_n X 1 rfl dX3_nextFreeBlock_8 9 rfl ?_
  refine r_istore_n X dX3_nextFreeBlock_9 10 rfl [(0, .ref (b + t0)), (1, .int (x1 * 32)), (2, .int (x1 * 32))] (by decide) [1, 2, 0] rfl ?_
  obtain ⟨z3, hL3, h⟩ := z_bd h
  have hK3 : z3 = .inl () → GW Γ G b 0 0 M 42 [] [] := by
    intro e
    subst e
    have h := z_scl h
    refine r_iconst (v := (-1)) X rfl dX3_nextFreeBlock_42 43 rfl ?_
    cases h
    exact r_iret X R rfl dX3_nextFreeBlock_43
  have hR3 : ∀ u9, z3 = .inr u9 → some u9 = some r9 := by
    intro u9 e
    subst e
    exact z_scr h
  clear h
  refine z_loopP (fun (s : Int32) => GW Γ G b 0 0 M 10 [(0, .ref (b + t0)), (1, .int (x1 * 32)), (2, .int s)] []) (fun s q3 hb hP3 hx3 => ?_) _ _ hL3
  obtain ⟨x2, rfl⟩ : ∃ y, y = s := ⟨s, rfl⟩
  have h : fX3_nextFreeBlock_L1 t0 M x1 x2 = some q3 := hb
  unfold fX3_nextFreeBlock_L1 at h
  refine r_iload_n X 2 rfl dX3_nextFreeBlock_10 11 rfl ?_
  refine r_iload_n X 1 rfl dX3_nextFreeBlock_11 12 rfl ?_
  refine r_bipush (v := 32) X rfl dX3_nextFreeBlock_12 14 rfl ?_
  refine r_iadd X dX3_nextFreeBlock_14 15 rfl ?_
  refine r_icmp_ge X dX3_nextFreeBlock_15 42 (by decide) 18 rfl (fun c4 => ?_) (fun c4 => ?_)
  · have h := z_it c4 h
    refine r_sub [] [] rfl ?_
    exact hK3  (hx3 _ (Option.some.inj h).symm).symm
  · have h := z_ie c4 h
    refine r_iload_n X 2 rfl dX3_nextFreeBlock_18 19 rfl ?_
    obtain ⟨x5, e5, h⟩ := z_bd h
    refine r_callS (rest := []) X (tX3_isBlock hl G b x2 M e5) zy_X3_isBlock zs_X3_isBlock km_X3_24 rfl ⟨rfl, rfl⟩ ⟨rfl, rfl⟩ rfl rfl (Nat.le_of_ble_eq_true rfl) ⟨Nat.zero_le _, Nat.zero_le _⟩ dX3_nextFreeBlock_19 22 rfl [.int x5] rfl ?_
    refine r_if_eq X dX3_nextFreeBlock_22 36 (by decide) 25 rfl (fun c6 => ?_) (fun c6 => ?_)
    · have h := z_it c6 h
      refine r_iinc X dX3_nextFreeBlock_36 39 rfl [(0, .ref (b + t0)), (1, .int (x1 * 32)), (2, .int (x2 + 1))] (by decide) 2 rfl (x2 + 1) rfl [1, 2, 0] rfl ?_
      refine r_goto X dX3_nextFreeBlock_39 10 (by decide) ?_
      exact hP3 (x2 + 1) (Option.some.inj h).symm
    · have h := z_ie c6 h
      refine r_aload_n X 0 rfl dX3_nextFreeBlock_25 26 rfl ?_
      refine r_get (v := .ref (b + (t0 + 1))) X ht0 rfl zv_X3 zi_X3 rfl kf_X3_9 rfl rfl dX3_nextFreeBlock_26 29 rfl ?_
      refine r_iload_n X 2 rfl dX3_nextFreeBlock_29 30 rfl ?_
      obtain ⟨x7, e7, h⟩ := z_bd h
      refine r_iaload X (zk_3_0 ht0) (zn_3_0 ht0) e7 dX3_nextFreeBlock_30 31 rfl ?_
      refine r_if_ne X dX3_nextFreeBlock_31 36 (by decide) 34 rfl (fun c8 => ?_) (fun c8 => ?_)
      · have h := z_ie c8 h
        refine r_iinc X dX3_nextFreeBlock_36 39 rfl [(0, .ref (b + t0)), (1, .int (x1 * 32)), (2, .int (x2 + 1))] (by decide) 2 rfl (x2 + 1) rfl [1, 2, 0] rfl ?_
        refine r_goto X dX3_nextFreeBlock_39 10 (by decide) ?_
        exact hP3 (x2 + 1) (Option.some.inj h).symm
      · have h := z_it c8 h
        refine r_iload_n X 2 rfl dX3_nextFreeBlock_34 35 rfl ?_
        have h := hR3 _ (hx3 _ (Option.some.inj h).symm).symm
        cases h
        exact r_iret X R rfl dX3_nextFreeBlock_35
set_option maxRecDepth 100000 in
set_option maxHeartbeats 1000000 in
theorem tX3_allocate {l : Launch} (hl : l.stackTraces = false) (G : zG) (b : Nat) (t0 : Nat) (ht0 : z_kd t0 = 3) (a1 : Int32) (a2 : Int32) (a3 : Int32) (M : zM) {M9 : zM} (h : fX3_allocate t0 a1 a2 a3 M = some M9) : z_MN l yX3_allocate cX3_allocate 4 none { frames := 1, cells := 0, slots := 0, locals := 20 } G b [.ref (b + t0), .int a1, .int a2, .int a3] M none M9 := by
  refine z_met (own := RX3) hl (by decide) rfl rfl (fun Γ hΓ X R => ?_)
  subst hΓ
  show GW Γ G b 0 0 M 0 [(0, .ref (b + t0)), (1, .int a1), (2, .int a2), (3, .int a3)] []
  unfold fX3_allocate at h
  refine r_iload_n X 1 rfl dX3_allocate_0 1 rfl ?_
  obtain ⟨x1, e1, h⟩ := z_bd h
  refine r_callS (rest := []) X (tX3_isBlock hl G b a1 M e1) zy_X3_isBlock zs_X3_isBlock km_X3_24 rfl ⟨rfl, rfl⟩ ⟨rfl, rfl⟩ rfl rfl (Nat.le_of_ble_eq_true rfl) ⟨Nat.zero_le _, Nat.zero_le _⟩ dX3_allocate_1 4 rfl [.int x1] rfl ?_
  refine r_if_eq X dX3_allocate_4 28 (by decide) 7 rfl (fun c2 => ?_) (fun c2 => ?_)
  · have h := z_it c2 h
    cases h
    exact r_vret X R dX3_allocate_28
  · have h := z_ie c2 h
    refine r_aload_n X 0 rfl dX3_allocate_7 8 rfl ?_
    refine r_get (v := .ref (b + (t0 + 1))) X ht0 rfl zv_X3 zi_X3 rfl kf_X3_9 rfl rfl dX3_allocate_8 11 rfl ?_
    refine r_iload_n X 1 rfl dX3_allocate_11 12 rfl ?_
    refine r_iconst (v := 1) X rfl dX3_allocate_12 13 rfl ?_
    obtain ⟨M3, e3, h⟩ := z_bd h
    refine r_iastore X (zk_3_0 ht0) (zn_3_0 ht0) e3 dX3_allocate_13 14 rfl ?_
    refine r_aload_n X 0 rfl dX3_allocate_14 15 rfl ?_
    refine r_get (v := .ref (b + (t0 + 2))) X ht0 rfl zv_X3 zi_X3 rfl kf_X3_15 rfl rfl dX3_allocate_15 18 rfl ?_
    refine r_iload_n X 1 rfl dX3_allocate_18 19 rfl ?_
    refine r_iload_n X 2 rfl dX3_allocate_19 20 rfl ?_
    obtain ⟨M4, e4, h⟩ := z_bd h
    refine r_iastore X (zk_3_1 ht0) (zn_3_1 ht0) e4 dX3_allocate_20 21 rfl ?_
    refine r_aload_n X 0 rfl dX3_allocate_21 22 rfl ?_
    refine r_get (v := .ref (b + (t0 + 3))) X ht0 rfl zv_X3 zi_X3 rfl kf_X3_18 rfl rfl dX3_allocate_22 25 rfl ?_
    refine r_iload_n X 1 rfl dX3_allocate_25 26 rfl ?_
    refine r_iload_n X 3 rfl dX3_allocate_26 27 rfl ?_
    obtain ⟨M5, e5, h⟩ := z_bd h
    refine r_iastore X (zk_3_2 ht0) (zn_3_2 ht0) e5 dX3_allocate_27 28 rfl ?_
    cases h
    exact r_vret X R dX3_allocate_28
set_option maxRecDepth 100000 in
set_option maxHeartbeats 1000000 in
theorem tX3_removeUse {l : Launch} (hl : l.stackTraces = false) (G : zG) (b : Nat) (t0 : Nat) (ht0 : z_kd t0 = 3) (a1 : Int32) (M : zM) {M9 : zM} (h : fX3_removeUse t0 a1 M = some M9) : z_MN l yX3_removeUse cX3_removeUse 2 none { frames := 1, cells := 0, slots := 0, locals := 20 } G b [.ref (b + t0), .int a1] M none M9 := by
  refine z_met (own := RX3) hl (by decide) rfl rfl (fun Γ hΓ X R => ?_)
  subst hΓ
  show GW Γ G b 0 0 M 0 [(0, .ref (b + t0)), (1, .int a1)] []
  unfold fX3_removeUse at h
  refine r_iload_n X 1 rfl dX3_removeUse_0 1 rfl ?_
  obtain ⟨x1, e1, h⟩ := z_bd h
  refine r_callS (rest := []) X (tX3_isBlock hl G b a1 M e1) zy_X3_isBlock zs_X3_isBlock km_X3_24 rfl ⟨rfl, rfl⟩ ⟨rfl, rfl⟩ rfl rfl (Nat.le_of_ble_eq_true rfl) ⟨Nat.zero_le _, Nat.zero_le _⟩ dX3_removeUse_1 4 rfl [.int x1] rfl ?_
  refine r_if_eq X dX3_removeUse_4 17 (by decide) 7 rfl (fun c2 => ?_) (fun c2 => ?_)
  · have h := z_it c2 h
    cases h
    exact r_vret X R dX3_removeUse_17
  · have h := z_ie c2 h
    refine r_aload_n X 0 rfl dX3_removeUse_7 8 rfl ?_
    refine r_get (v := .ref (b + (t0 + 4))) X ht0 rfl zv_X3 zi_X3 rfl kf_X3_21 rfl rfl dX3_removeUse_8 11 rfl ?_
    refine r_iload_n X 1 rfl dX3_removeUse_11 12 rfl ?_
    refine r_dup2 X rfl rfl dX3_removeUse_12 13 rfl ?_
    obtain ⟨x3, e3, h⟩ := z_bd h
    refine r_iaload X (zk_3_3 ht0) (zn_3_3 ht0) e3 dX3_removeUse_13 14 rfl ?_
    refine r_iconst (v := 1) X rfl dX3_removeUse_14 15 rfl ?_
    refine r_isub X dX3_removeUse_15 16 rfl ?_
    obtain ⟨M4, e4, h⟩ := z_bd h
    refine r_iastore X (zk_3_3 ht0) (zn_3_3 ht0) e4 dX3_removeUse_16 17 rfl ?_
    cases h
    exact r_vret X R dX3_removeUse_17
set_option maxRecDepth 100000 in
set_option maxHeartbeats 1000000 in
theorem tX3_addUse {l : Launch} (hl : l.stackTraces = false) (G : zG) (b : Nat) (t0 : Nat) (ht0 : z_kd t0 = 3) (a1 : Int32) (M : zM) {M9 : zM} (h : fX3_addUse t0 a1 M = some M9) : z_MN l yX3_addUse cX3_addUse 2 none { frames := 1, cells := 0, slots := 0, locals := 20 } G b [.ref (b + t0), .int a1] M none M9 := by
  refine z_met (own := RX3) hl (by decide) rfl rfl (fun Γ hΓ X R => ?_)
  subst hΓ
  show GW Γ G b 0 0 M 0 [(0, .ref (b + t0)), (1, .int a1)] []
  unfold fX3_addUse at h
  refine r_iload_n X 1 rfl dX3_addUse_0 1 rfl ?_
  obtain ⟨x1, e1, h⟩ := z_bd h
  refine r_callS (rest := []) X (tX3_isBlock hl G b a1 M e1) zy_X3_isBlock zs_X3_isBlock km_X3_24 rfl ⟨rfl, rfl⟩ ⟨rfl, rfl⟩ rfl rfl (Nat.le_of_ble_eq_true rfl) ⟨Nat.zero_le _, Nat.zero_le _⟩ dX3_addUse_1 4 rfl [.int x1] rfl ?_
  refine r_if_eq X dX3_addUse_4 17 (by decide) 7 rfl (fun c2 => ?_) (fun c2 => ?_)
  · have h := z_it c2 h
    cases h
    exact r_vret X R dX3_addUse_17
  · have h := z_ie c2 h
    refine r_aload_n X 0 rfl dX3_addUse_7 8 rfl ?_
    refine r_get (v := .ref (b + (t0 + 4))) X ht0 rfl zv_X3 zi_X3 rfl kf_X3_21 rfl rfl dX3_addUse_8 11 rfl ?_
    refine r_iload_n X 1 rfl dX3_addUse_11 12 rfl ?_
    refine r_dup2 X rfl rfl dX3_addUse_12 13 rfl ?_
    obtain ⟨x3, e3, h⟩ := z_bd h
    refine r_iaload X (zk_3_3 ht0) (zn_3_3 ht0) e3 dX3_addUse_13 14 rfl ?_
    refine r_iconst (v := 1) X rfl dX3_addUse_14 15 rfl ?_
    refine r_iadd X dX3_addUse_15 16 rfl ?_
    obtain ⟨M4, e4, h⟩ := z_bd h
    refine r_iastore X (zk_3_3 ht0) (zn_3_3 ht0) e4 dX3_addUse_16 17 rfl ?_
    cases h
    exact r_vret X R dX3_addUse_17
set_option maxRecDepth 100000 in
set_option maxHeartbeats 1000000 in
theorem tX4_set {l : Launch} (hl : l.stackTraces = false) (G : zG) (b : Nat) (t0 : Nat) (ht0 : z_kd t0 = 4) (a1 : Int32) (a2 : Int32) (M : zM) {M9 : zM} (h : fX4_set t0 a1 a2 M = some M9) : z_MN l yX4_set cX4_set 3 none { frames := 0, cells := 0, slots := 0, locals := 0 } G b [.ref (b + t0), .int a1, .int a2] M none M9 := by
  refine z_met (own := RX4) hl (by decide) rfl rfl (fun Γ hΓ X R => ?_)
  subst hΓ
  show GW Γ G b 0 0 M 0 [(0, .ref (b + t0)), (1, .int a1), (2, .int a2)] []
  unfold fX4_set at h
  refine r_iload_n X 1 rfl dX4_set_0 1 rfl ?_
  refine r_if_lt X dX4_set_1 20 (by decide) 4 rfl (fun c1 => ?_) (fun c1 => ?_)
  · have h := z_it c1 h
    cases h
    exact r_vret X R dX4_set_20
  · have h := z_ie c1 h
    refine r_iload_n X 1 rfl dX4_set_4 5 rfl ?_
    refine r_aload_n X 0 rfl dX4_set_5 6 rfl ?_
    refine r_get (v := .ref (b + (t0 + 1))) X ht0 rfl zv_X4 zi_X4 rfl kf_X4_9 rfl rfl dX4_set_6 9 rfl ?_
    refine r_alen (v := 128) X (zk_4_0 ht0) rfl (z_lt rfl (zk_4_0 ht0)) (zn_4_0 ht0) rfl rfl rfl dX4_set_9 10 rfl ?_
    refine r_icmp_ge X dX4_set_10 20 (by decide) 13 rfl (fun c2 => ?_) (fun c2 => ?_)
    · have h := z_it c2 h
      cases h
      exact r_vret X R dX4_set_20
    · have h := z_ie c2 h
      refine r_aload_n X 0 rfl dX4_set_13 14 rfl ?_
      refine r_get (v := .ref (b + (t0 + 1))) X ht0 rfl zv_X4 zi_X4 rfl kf_X4_9 rfl rfl dX4_set_14 17 rfl ?_
      refine r_iload_n X 1 rfl dX4_set_17 18 rfl ?_
      refine r_iload_n X 2 rfl dX4_set_18 19 rfl ?_
      obtain ⟨M3, e3, h⟩ := z_bd h
      refine r_iastore X (zk_4_0 ht0) (zn_4_0 ht0) e3 dX4_set_19 20 rfl ?_
      cases h
      exact r_vret X R dX4_set_20
set_option maxRecDepth 100000 in
set_option maxHeartbeats 1000000 in
theorem tX3_retireUnused {l : Launch} (hl : l.stackTraces = false) (G : zG) (b : Nat) (t0 : Nat) (ht0 : z_kd t0 = 3) (a1 : Int32) (M : zM) {r9 : Int32} {M9 : zM} (h : fX3_retireUnused t0 a1 M = some (r9, M9)) : z_MN l yX3_retireUnused cX3_retireUnused 4 (some .int) { frames := 0, cells := 0, slots := 0, locals := 0 } G b [.ref (b + t0), .int a1] M (some (.int r9)) M9 := by
  refine z_met (own := RX3) hl (by decide) rfl rfl (fun Γ hΓ X R => ?_)
  subst hΓ
  show GW Γ G b 0 0 M 0 [(0, .ref (b + t0)), (1, .int a1)] []
  unfold fX3_retireUnused at h
  refine r_iconst (v := 0) X rfl dX3_retireUnused_0 1 rfl ?_
  refine r_istore_n X dX3_retireUnused_1 2 rfl [(0, .ref (b + t0)), (1, .int a1), (2, .int 0)] (by decide) [1, 2, 0] rfl ?_
  refine r_iconst (v := 0) X rfl dX3_retireUnused_2 3 rfl ?_
  refine r_istore_n X dX3_retireUnused_3 4 rfl [(0, .ref (b + t0)), (1, .int a1), (2, .int 0), (3, .int 0)] (by decide) [1, 2, 3, 0] rfl ?_
  obtain ⟨x4, M5, hL6, h⟩ := z_bd2 h
  have hK6 : GW Γ G b 0 0 M5 60 [(2, .int x4)] [] := by
    refine r_iload_n X 0 rfl dX3_retireUnused_60 61 rfl ?_
    cases h
    exact r_iret X R rfl dX3_retireUnused_61
  clear h
  refine z_loopP (fun (s : (Int32 × Int32 × zM)) => GW Γ G b 0 0 s.2.2 4 [(0, .ref (b + t0)), (1, .int a1), (2, .int s.1), (3, .int s.2.1)] []) (fun s q6 hb hP6 hx6 => ?_) _ _ hL6
  obtain ⟨x1, x2, M3⟩ := s
  have h : fX3_retireUnused_L1 t0 a1 x1 x2 M3 = some q6 := hb
  unfold fX3_retireUnused_L1 at h
  refine r_iload_n X 3 rfl dX3_retireUnused_4 5 rfl ?_
  refine r_sipush (v := 128) X rfl dX3_retireUnused_5 8 rfl ?_
  refine r_icmp_ge X dX3_retireUnused_8 60 (by decide) 11 rfl (fun c7 => ?_) (fun c7 => ?_)
  · have h := z_it c7 h
    refine r_sub [(2, .int x1)] [2] rfl ?_
    have e := hx6 _ (Option.some.inj h).symm
    cases e
    exact hK6
  · have h := z_ie c7 h
    refine r_aload_n X 0 rfl dX3_retireUnused_11 12 rfl ?_
    refine r_get (v := .ref (b + (t0 + 1))) X ht0 rfl zv_X3 zi_X3 rfl kf_X3_9 rfl rfl dX3_retireUnused_12 15 rfl ?_
    refine r_iload_n X 3 rfl dX3_retireUnused_15 16 rfl ?_
    obtain ⟨x8, e8, h⟩ := z_bd h
    refine r_iaload X (zk_3_0 ht0) (zn_3_0 ht0) e8 dX3_retireUnused_16 17 rfl ?_
    refine r_iconst (v := 1) X rfl dX3_retireUnused_17 18 rfl ?_
    refine r_icmp_ne X dX3_retireUnused_18 54 (by decide) 21 rfl (fun c9 => ?_) (fun c9 => ?_)
    · have h := z_ie c9 h
      refine r_iinc X dX3_retireUnused_54 57 rfl [(0, .ref (b + t0)), (1, .int a1), (2, .int x1), (3, .int (x2 + 1))] (by decide) 3 rfl (x2 + 1) rfl [1, 2, 3, 0] rfl ?_
      refine r_goto X dX3_retireUnused_57 4 (by decide) ?_
      exact hP6 (x1, (x2 + 1), M3) (Option.some.inj h).symm
    · have h := z_it c9 h
      refine r_aload_n X 0 rfl dX3_retireUnused_21 22 rfl ?_
      refine r_get (v := .ref (b + (t0 + 4))) X ht0 rfl zv_X3 zi_X3 rfl kf_X3_21 rfl rfl dX3_retireUnused_22 25 rfl ?_
      refine r_iload_n X 3 rfl dX3_retireUnused_25 26 rfl ?_
      obtain ⟨x10, e10, h⟩ := z_bd h
      refine r_iaload X (zk_3_3 ht0) (zn_3_3 ht0) e10 dX3_retireUnused_26 27 rfl ?_
      refine r_if_ne X dX3_retireUnused_27 54 (by decide) 30 rfl (fun c11 => ?_) (fun c11 => ?_)
      · have h := z_ie c11 h
        refine r_iinc X dX3_retireUnused_54 57 rfl [(0, .ref (b + t0)), (1, .int a1), (2, .int x1), (3, .int (x2 + 1))] (by decide) 3 rfl (x2 + 1) rfl [1, 2, 3, 0] rfl ?_
        refine r_goto X dX3_retireUnused_57 4 (by decide) ?_
        exact hP6 (x1, (x2 + 1), M3) (Option.some.inj h).symm
      · have h := z_it c11 h
        refine r_aload_n X 0 rfl dX3_retireUnused_30 31 rfl ?_
        refine r_get (v := .ref (b + (t0 + 1))) X ht0 rfl zv_X3 zi_X3 rfl kf_X3_9 rfl rfl dX3_retireUnused_31 34 rfl ?_
        refine r_iload_n X 3 rfl dX3_retireUnused_34 35 rfl ?_
        refine r_aload_n X 0 rfl dX3_retireUnused_35 36 rfl ?_
        refine r_get (v := .ref (b + (t0 + 3))) X ht0 rfl zv_X3 zi_X3 rfl kf_X3_18 rfl rfl dX3_retireUnused_36 39 rfl ?_
        refine r_iload_n X 3 rfl dX3_retireUnused_39 40 rfl ?_
        obtain ⟨x12, e12, h⟩ := z_bd h
        refine r_iaload X (zk_3_2 ht0) (zn_3_2 ht0) e12 dX3_retireUnused_40 41 rfl ?_
        refine r_iload_n X 1 rfl dX3_retireUnused_41 42 rfl ?_
        refine r_icmp_ne X dX3_retireUnused_42 49 (by decide) 45 rfl (fun c13 => ?_) (fun c13 => ?_)
        · have h := z_ie c13 h
          refine r_iconst (v := 2) X rfl dX3_retireUnused_49 50 rfl ?_
          obtain ⟨M15, e15, h⟩ := z_bd h
          refine r_iastore X (zk_3_0 ht0) (zn_3_0 ht0) e15 dX3_retireUnused_50 51 rfl ?_
          refine r_iinc X dX3_retireUnused_51 54 rfl [(0, .ref (b + t0)), (1, .int a1), (2, .int (x1 + 1)), (3, .int x2)] (by decide) 2 rfl (x1 + 1) rfl [1, 2, 0, 3] rfl ?_
          refine r_iinc X dX3_retireUnused_54 57 rfl [(0, .ref (b + t0)), (1, .int a1), (2, .int (x1 + 1)), (3, .int (x2 + 1))] (by decide) 3 rfl (x2 + 1) rfl [1, 2, 3, 0] rfl ?_
          refine r_goto X dX3_retireUnused_57 4 (by decide) ?_
          exact hP6 ((x1 + 1), (x2 + 1), M15) (Option.some.inj h).symm
        · have h := z_it c13 h
          refine r_iconst (v := 0) X rfl dX3_retireUnused_45 46 rfl ?_
          refine r_goto X dX3_retireUnused_46 50 (by decide) ?_
          obtain ⟨M14, e14, h⟩ := z_bd h
          refine r_iastore X (zk_3_0 ht0) (zn_3_0 ht0) e14 dX3_retireUnused_50 51 rfl ?_
          refine r_iinc X dX3_retireUnused_51 54 rfl [(0, .ref (b + t0)), (1, .int a1), (2, .int (x1 + 1)), (3, .int x2)] (by decide) 2 rfl (x1 + 1) rfl [1, 2, 0, 3] rfl ?_
          refine r_iinc X dX3_retireUnused_54 57 rfl [(0, .ref (b + t0)), (1, .int a1), (2, .int (x1 + 1)), (3, .int (x2 + 1))] (by decide) 3 rfl (x2 + 1) rfl [1, 2, 3, 0] rfl ?_
          refine r_goto X dX3_retireUnused_57 4 (by decide) ?_
          exact hP6 ((x1 + 1), (x2 + 1), M14) (Option.some.inj h).symm
set_option maxRecDepth 100000 in
set_option maxHeartbeats 1000000 in
theorem tX3_valueOf {l : Launch} (hl : l.stackTraces = false) (G : zG) (b : Nat) (t0 : Nat) (ht0 : z_kd t0 = 3) (a1 : Int32) (M : zM) {r9 : Int32} (h : fX3_valueOf t0 a1 M = some r9) : z_MN l yX3_valueOf cX3_valueOf 2 (some .int) { frames := 1, cells := 0, slots := 0, locals := 20 } G b [.ref (b + t0), .int a1] M (some (.int r9)) M := by
  refine z_met (own := RX3) hl (by decide) rfl rfl (fun Γ hΓ X R => ?_)
  subst hΓ
  show GW Γ G b 0 0 M 0 [(0, .ref (b + t0)), (1, .int a1)] []
  unfold fX3_valueOf at h
  refine r_iload_n X 1 rfl dX3_valueOf_0 1 rfl ?_
  obtain ⟨x1, e1, h⟩ := z_bd h
  refine r_callS (rest := []) X (tX3_isBlock hl G b a1 M e1) zy_X3_isBlock zs_X3_isBlock km_X3_24 rfl ⟨rfl, rfl⟩ ⟨rfl, rfl⟩ rfl rfl (Nat.le_of_ble_eq_true rfl) ⟨Nat.zero_le _, Nat.zero_le _⟩ dX3_valueOf_1 4 rfl [.int x1] rfl ?_
  refine r_if_eq X dX3_valueOf_4 16 (by decide) 7 rfl (fun c2 => ?_) (fun c2 => ?_)
  · have h := z_it c2 h
    refine r_iconst (v := 0) X rfl dX3_valueOf_16 17 rfl ?_
    cases h
    exact r_iret X R rfl dX3_valueOf_17
  · have h := z_ie c2 h
    refine r_aload_n X 0 rfl dX3_valueOf_7 8 rfl ?_
    refine r_get (v := .ref (b + (t0 + 2))) X ht0 rfl zv_X3 zi_X3 rfl kf_X3_15 rfl rfl dX3_valueOf_8 11 rfl ?_
    refine r_iload_n X 1 rfl dX3_valueOf_11 12 rfl ?_
    obtain ⟨x3, e3, h⟩ := z_bd h
    refine r_iaload X (zk_3_1 ht0) (zn_3_1 ht0) e3 dX3_valueOf_12 13 rfl ?_
    refine r_goto X dX3_valueOf_13 17 (by decide) ?_
    cases h
    exact r_iret X R rfl dX3_valueOf_17
set_option maxRecDepth 100000 in
set_option maxHeartbeats 1000000 in
theorem tX3_releasePending {l : Launch} (hl : l.stackTraces = false) (G : zG) (b : Nat) (t0 : Nat) (ht0 : z_kd t0 = 3) (M : zM) {M9 : zM} (h : fX3_releasePending t0 M = some M9) : z_MN l yX3_releasePending cX3_releasePending 2 none { frames := 0, cells := 0, slots := 0, locals := 0 } G b [.ref (b + t0)] M none M9 := by
  refine z_met (own := RX3) hl (by decide) rfl rfl (fun Γ hΓ X R => ?_)
  subst hΓ
  show GW Γ G b 0 0 M 0 [(0, .ref (b + t0))] []
  unfold fX3_releasePending at h
  refine r_iconst (v := 0) X rfl dX3_releasePending_0 1 rfl ?_
  refine r_istore_n X dX3_releasePending_1 2 rfl [(0, .ref (b + t0)), (1, .int 0)] (by decide) [1, 0] rfl ?_
  obtain ⟨M3, hL4, h⟩ := z_bd h
  have hK4 : GW Γ G b 0 0 M3 32 [] [] := by
    cases h
    exact r_vret X R dX3_releasePending_32
  clear h
  refine z_loopP (fun (s : (Int32 × zM)) => GW Γ G b 0 0 s.2 2 [(0, .ref (b + t0)), (1, .int s.1)] []) (fun s q4 hb hP4 hx4 => ?_) _ _ hL4
  obtain ⟨x1, M2⟩ := s
  have h : fX3_releasePending_L1 t0 x1 M2 = some q4 := hb
  unfold fX3_releasePending_L1 at h
  refine r_iload_n X 1 rfl dX3_releasePending_2 3 rfl ?_
  refine r_sipush (v := 128) X rfl dX3_releasePending_3 6 rfl ?_
  refine r_icmp_ge X dX3_releasePending_6 32 (by decide) 9 rfl (fun c5 => ?_) (fun c5 => ?_)
  · have h := z_it c5 h
    refine r_sub [] [] rfl ?_
    have e := hx4 _ (Option.some.inj h).symm
    cases e
    exact hK4
  · have h := z_ie c5 h
    refine r_aload_n X 0 rfl dX3_releasePending_9 10 rfl ?_
    refine r_get (v := .ref (b + (t0 + 1))) X ht0 rfl zv_X3 zi_X3 rfl kf_X3_9 rfl rfl dX3_releasePending_10 13 rfl ?_
    refine r_iload_n X 1 rfl dX3_releasePending_13 14 rfl ?_
    obtain ⟨x6, e6, h⟩ := z_bd h
    refine r_iaload X (zk_3_0 ht0) (zn_3_0 ht0) e6 dX3_releasePending_14 15 rfl ?_
    refine r_iconst (v := 2) X rfl dX3_releasePending_15 16 rfl ?_
    refine r_icmp_ne X dX3_releasePending_16 26 (by decide) 19 rfl (fun c7 => ?_) (fun c7 => ?_)
    · have h := z_ie c7 h
      refine r_iinc X dX3_releasePending_26 29 rfl [(0, .ref (b + t0)), (1, .int (x1 + 1))] (by decide) 1 rfl (x1 + 1) rfl [1, 0] rfl ?_
      refine r_goto X dX3_releasePending_29 2 (by decide) ?_
      exact hP4 ((x1 + 1), M2) (Option.some.inj h).symm
    · have h := z_it c7 h
      refine r_aload_n X 0 rfl dX3_releasePending_19 20 rfl ?_
      refine r_get (v := .ref (b + (t0 + 1))) X ht0 rfl zv_X3 zi_X3 rfl kf_X3_9 rfl rfl dX3_releasePending_20 23 rfl ?_
      refine r_iload_n X 1 rfl dX3_releasePending_23 24 rfl ?_
      refine r_iconst (v := 0) X rfl dX3_releasePending_24 25 rfl ?_
      obtain ⟨M8, e8, h⟩ := z_bd h
      refine r_iastore X (zk_3_0 ht0) (zn_3_0 ht0) e8 dX3_releasePending_25 26 rfl ?_
      refine r_iinc X dX3_releasePending_26 29 rfl [(0, .ref (b + t0)), (1, .int (x1 + 1))] (by decide) 1 rfl (x1 + 1) rfl [1, 0] rfl ?_
      refine r_goto X dX3_releasePending_29 2 (by decide) ?_
      exact hP4 ((x1 + 1), M8) (Option.some.inj h).symm
set_option maxRecDepth 100000 in
set_option maxHeartbeats 1000000 in
theorem tX4_copyFrom {l : Launch} (hl : l.stackTraces = false) (G : zG) (b : Nat) (t0 : Nat) (ht0 : z_kd t0 = 4) (a1 : Nat) (ha1 : z_kd a1 = 4) (M : zM) {M9 : zM} (h : fX4_copyFrom t0 a1 M = some M9) : z_MN l yX4_copyFrom cX4_copyFrom 2 none { frames := 1, cells := 0, slots := 0, locals := 40 } G b [.ref (b + t0), .ref (b + a1)] M none M9 := by
  refine z_met (own := RX4) hl (by decide) rfl rfl (fun Γ hΓ X R => ?_)
  subst hΓ
  show GW Γ G b 0 0 M 0 [(0, .ref (b + t0)), (1, .ref (b + a1))] []
  unfold fX4_copyFrom at h
  refine r_aload_n X 1 rfl dX4_copyFrom_0 1 rfl ?_
  refine r_get (v := .ref (b + (a1 + 1))) X ha1 rfl zv_X4 zi_X4 rfl kf_X4_9 rfl rfl dX4_copyFrom_1 4 rfl ?_
  refine r_iconst (v := 0) X rfl dX4_copyFrom_4 5 rfl ?_
  refine r_aload_n X 0 rfl dX4_copyFrom_5 6 rfl ?_
  refine r_get (v := .ref (b + (t0 + 1))) X ht0 rfl zv_X4 zi_X4 rfl kf_X4_9 rfl rfl dX4_copyFrom_6 9 rfl ?_
  refine r_iconst (v := 0) X rfl dX4_copyFrom_9 10 rfl ?_
  refine r_sipush (v := 128) X rfl dX4_copyFrom_10 13 rfl ?_
  obtain ⟨M1, e1, h⟩ := z_bd h
  refine r_copy (n := 128) (nn := 128) X (zk_4_0 ha1) (zn_4_0 ha1) (zk_4_0 ht0) (zn_4_0 ht0) (by decide) (by decide) (by decide) rfl (by decide) kc_X4_21 (Option.some.inj e1) dX4_copyFrom_13 16 rfl ?_
  cases h
  exact r_vret X R dX4_copyFrom_16
set_option maxRecDepth 100000 in
set_option maxHeartbeats 1000000 in
theorem tX0_copyFrom {l : Launch} (hl : l.stackTraces = false) (G : zG) (b : Nat) (t0 : Nat) (ht0 : z_kd t0 = 0) (a1 : Nat) (ha1 : z_kd a1 = 0) (M : zM) {M9 : zM} (h : fX0_copyFrom t0 a1 M = some M9) : z_MN l yX0_copyFrom cX0_copyFrom 2 none { frames := 2, cells := 0, slots := 0, locals := 61 } G b [.ref (b + t0), .ref (b + a1)] M none M9 := by
  refine z_met (own := RX0) hl (by decide) rfl rfl (fun Γ hΓ X R => ?_)
  subst hΓ
  show GW Γ G b 0 0 M 0 [(0, .ref (b + t0)), (1, .ref (b + a1))] []
  unfold fX0_copyFrom at h
  refine r_aload_n X 0 rfl dX0_copyFrom_0 1 rfl ?_
  refine r_get (v := .ref (b + (t0 + 1))) X ht0 rfl zv_X0 zi_X0 rfl kf_X0_12 rfl rfl dX0_copyFrom_1 4 rfl ?_
  refine r_aload_n X 1 rfl dX0_copyFrom_4 5 rfl ?_
  refine r_get (v := .ref (b + (a1 + 1))) X ha1 rfl zv_X0 zi_X0 rfl kf_X0_12 rfl rfl dX0_copyFrom_5 8 rfl ?_
  obtain ⟨M1, e1, h⟩ := z_bd h
  refine r_callVN (rest := []) X (tX4_copyFrom hl G b (t0 + 1) (zk_0_0 ht0) (a1 + 1) (zk_0_0 ha1) M e1) zy_X4_copyFrom zw_X4_copyFrom km_X0_26 (zk_0_0 ht0) rfl zv_X4 rfl ⟨rfl, rfl⟩ ⟨rfl, rfl⟩ rfl rfl (Nat.le_of_ble_eq_true rfl) ⟨Nat.zero_le _, Nat.zero_le _⟩ dX0_copyFrom_8 11 rfl [] rfl ?_
  refine r_aload_n X 0 rfl dX0_copyFrom_11 12 rfl ?_
  refine r_aload_n X 1 rfl dX0_copyFrom_12 13 rfl ?_
  refine r_get (v := .int (M1 a1 1)) X ha1 rfl zv_X0 zi_X0 rfl kf_X0_22 rfl rfl dX0_copyFrom_13 16 rfl ?_
  obtain ⟨M2, e2, h⟩ := z_bd h
  obtain ⟨hn2, hf2, e2⟩ := z_pz_of e2
  refine r_put X ht0 rfl zv_X0 zi_X0 rfl kf_X0_22 rfl tyX0_ok nmX0 rfl rfl hn2 hf2 rfl rfl e2.symm dX0_copyFrom_16 19 rfl ?_
  refine r_aload_n X 0 rfl dX0_copyFrom_19 20 rfl ?_
  refine r_aload_n X 1 rfl dX0_copyFrom_20 21 rfl ?_
  refine r_get (v := .int (M2 a1 2)) X ha1 rfl zv_X0 zi_X0 rfl kf_X0_18 rfl rfl dX0_copyFrom_21 24 rfl ?_
  obtain ⟨M3, e3, h⟩ := z_bd h
  refine r_put X ht0 rfl zv_X0 zi_X0 rfl kf_X0_18 rfl tyX0_ok nmX0 rfl rfl rfl rfl rfl rfl (Option.some.inj e3) dX0_copyFrom_24 27 rfl ?_
  cases h
  exact r_vret X R dX0_copyFrom_27
set_option maxRecDepth 100000 in
set_option maxHeartbeats 1000000 in
theorem tX2_copyFrom {l : Launch} (hl : l.stackTraces = false) (G : zG) (b : Nat) (t0 : Nat) (ht0 : z_kd t0 = 2) (a1 : Nat) (ha1 : z_kd a1 = 2) (M : zM) {M9 : zM} (h : fX2_copyFrom t0 a1 M = some M9) : z_MN l yX2_copyFrom cX2_copyFrom 2 none { frames := 2, cells := 0, slots := 0, locals := 61 } G b [.ref (b + t0), .ref (b + a1)] M none M9 := by
  refine z_met (own := RX2) hl (by decide) rfl rfl (fun Γ hΓ X R => ?_)
  subst hΓ
  show GW Γ G b 0 0 M 0 [(0, .ref (b + t0)), (1, .ref (b + a1))] []
  unfold fX2_copyFrom at h
  refine r_aload_n X 0 rfl dX2_copyFrom_0 1 rfl ?_
  refine r_get (v := .ref (b + (t0 + 1))) X ht0 rfl zv_X2 zi_X2 rfl kf_X2_12 rfl rfl dX2_copyFrom_1 4 rfl ?_
  refine r_aload_n X 1 rfl dX2_copyFrom_4 5 rfl ?_
  refine r_get (v := .ref (b + (a1 + 1))) X ha1 rfl zv_X2 zi_X2 rfl kf_X2_12 rfl rfl dX2_copyFrom_5 8 rfl ?_
  obtain ⟨M1, e1, h⟩ := z_bd h
  refine r_callVN (rest := []) X (tX4_copyFrom hl G b (t0 + 1) (zk_2_0 ht0) (a1 + 1) (zk_2_0 ha1) M e1) zy_X4_copyFrom zw_X4_copyFrom km_X2_35 (zk_2_0 ht0) rfl zv_X4 rfl ⟨rfl, rfl⟩ ⟨rfl, rfl⟩ rfl rfl (Nat.le_of_ble_eq_true rfl) ⟨Nat.zero_le _, Nat.zero_le _⟩ dX2_copyFrom_8 11 rfl [] rfl ?_
  refine r_aload_n X 0 rfl dX2_copyFrom_11 12 rfl ?_
  refine r_aload_n X 1 rfl dX2_copyFrom_12 13 rfl ?_
  refine r_get (v := .int (M1 a1 1)) X ha1 rfl zv_X2 zi_X2 rfl kf_X2_18 rfl rfl dX2_copyFrom_13 16 rfl ?_
  obtain ⟨M2, e2, h⟩ := z_bd h
  obtain ⟨hn2, hf2, e2⟩ := z_pz_of e2
  refine r_put X ht0 rfl zv_X2 zi_X2 rfl kf_X2_18 rfl tyX2_ok nmX2 rfl rfl hn2 hf2 rfl rfl e2.symm dX2_copyFrom_16 19 rfl ?_
  refine r_aload_n X 0 rfl dX2_copyFrom_19 20 rfl ?_
  refine r_aload_n X 1 rfl dX2_copyFrom_20 21 rfl ?_
  refine r_get (v := .int (M2 a1 2)) X ha1 rfl zv_X2 zi_X2 rfl kf_X2_22 rfl rfl dX2_copyFrom_21 24 rfl ?_
  obtain ⟨M3, e3, h⟩ := z_bd h
  refine r_put X ht0 rfl zv_X2 zi_X2 rfl kf_X2_22 rfl tyX2_ok nmX2 rfl rfl rfl rfl rfl rfl (Option.some.inj e3) dX2_copyFrom_24 27 rfl ?_
  refine r_aload_n X 0 rfl dX2_copyFrom_27 28 rfl ?_
  refine r_aload_n X 1 rfl dX2_copyFrom_28 29 rfl ?_
  refine r_get (v := .int (M3 a1 3)) X ha1 rfl zv_X2 zi_X2 rfl kf_X2_26 rfl rfl dX2_copyFrom_29 32 rfl ?_
  obtain ⟨M4, e4, h⟩ := z_bd h
  refine r_put X ht0 rfl zv_X2 zi_X2 rfl kf_X2_26 rfl tyX2_ok nmX2 rfl rfl rfl rfl rfl rfl (Option.some.inj e4) dX2_copyFrom_32 35 rfl ?_
  refine r_aload_n X 0 rfl dX2_copyFrom_35 36 rfl ?_
  refine r_aload_n X 1 rfl dX2_copyFrom_36 37 rfl ?_
  refine r_get (v := .int (M4 a1 4)) X ha1 rfl zv_X2 zi_X2 rfl kf_X2_29 rfl rfl dX2_copyFrom_37 40 rfl ?_
  obtain ⟨M5, e5, h⟩ := z_bd h
  refine r_put X ht0 rfl zv_X2 zi_X2 rfl kf_X2_29 rfl tyX2_ok nmX2 rfl rfl rfl rfl rfl rfl (Option.some.inj e5) dX2_copyFrom_40 43 rfl ?_
  refine r_aload_n X 0 rfl dX2_copyFrom_43 44 rfl ?_
  refine r_aload_n X 1 rfl dX2_copyFrom_44 45 rfl ?_
  refine r_get (v := .int (M5 a1 5)) X ha1 rfl zv_X2 zi_X2 rfl kf_X2_32 rfl rfl dX2_copyFrom_45 48 rfl ?_
  obtain ⟨M6, e6, h⟩ := z_bd h
  refine r_put X ht0 rfl zv_X2 zi_X2 rfl kf_X2_32 rfl tyX2_ok nmX2 rfl rfl rfl rfl rfl rfl (Option.some.inj e6) dX2_copyFrom_48 51 rfl ?_
  cases h
  exact r_vret X R dX2_copyFrom_51
set_option maxRecDepth 100000 in
set_option maxHeartbeats 1000000 in
theorem tX3_copyFrom {l : Launch} (hl : l.stackTraces = false) (G : zG) (b : Nat) (t0 : Nat) (ht0 : z_kd t0 = 3) (a1 : Nat) (ha1 : z_kd a1 = 3) (M : zM) {M9 : zM} (h : fX3_copyFrom t0 a1 M = some M9) : z_MN l yX3_copyFrom cX3_copyFrom 2 none { frames := 1, cells := 0, slots := 0, locals := 40 } G b [.ref (b + t0), .ref (b + a1)] M none M9 := by
  refine z_met (own := RX3) hl (by decide) rfl rfl (fun Γ hΓ X R => ?_)
  subst hΓ
  show GW Γ G b 0 0 M 0 [(0, .ref (b + t0)), (1, .ref (b + a1))] []
  unfold fX3_copyFrom at h
  refine r_aload_n X 1 rfl dX3_copyFrom_0 1 rfl ?_
  refine r_get (v := .ref (b + (a1 + 1))) X ha1 rfl zv_X3 zi_X3 rfl kf_X3_9 rfl rfl dX3_copyFrom_1 4 rfl ?_
  refine r_iconst (v := 0) X rfl dX3_copyFrom_4 5 rfl ?_
  refine r_aload_n X 0 rfl dX3_copyFrom_5 6 rfl ?_
  refine r_get (v := .ref (b + (t0 + 1))) X ht0 rfl zv_X3 zi_X3 rfl kf_X3_9 rfl rfl dX3_copyFrom_6 9 rfl ?_
  refine r_iconst (v := 0) X rfl dX3_copyFrom_9 10 rfl ?_
  refine r_sipush (v := 128) X rfl dX3_copyFrom_10 13 rfl ?_
  obtain ⟨M1, e1, h⟩ := z_bd h
  refine r_copy (n := 128) (nn := 128) X (zk_3_0 ha1) (zn_3_0 ha1) (zk_3_0 ht0) (zn_3_0 ht0) (by decide) (by decide) (by decide) rfl (by decide) kc_X3_43 (Option.some.inj e1) dX3_copyFrom_13 16 rfl ?_
  refine r_aload_n X 1 rfl dX3_copyFrom_16 17 rfl ?_
  refine r_get (v := .ref (b + (a1 + 2))) X ha1 rfl zv_X3 zi_X3 rfl kf_X3_15 rfl rfl dX3_copyFrom_17 20 rfl ?_
  refine r_iconst (v := 0) X rfl dX3_copyFrom_20 21 rfl ?_
  refine r_aload_n X 0 rfl dX3_copyFrom_21 22 rfl ?_
  refine r_get (v := .ref (b + (t0 + 2))) X ht0 rfl zv_X3 zi_X3 rfl kf_X3_15 rfl rfl dX3_copyFrom_22 25 rfl ?_
  refine r_iconst (v := 0) X rfl dX3_copyFrom_25 26 rfl ?_
  refine r_sipush (v := 128) X rfl dX3_copyFrom_26 29 rfl ?_
  obtain ⟨M2, e2, h⟩ := z_bd h
  refine r_copy (n := 128) (nn := 128) X (zk_3_1 ha1) (zn_3_1 ha1) (zk_3_1 ht0) (zn_3_1 ht0) (by decide) (by decide) (by decide) rfl (by decide) kc_X3_43 (Option.some.inj e2) dX3_copyFrom_29 32 rfl ?_
  refine r_aload_n X 1 rfl dX3_copyFrom_32 33 rfl ?_
  refine r_get (v := .ref (b + (a1 + 3))) X ha1 rfl zv_X3 zi_X3 rfl kf_X3_18 rfl rfl dX3_copyFrom_33 36 rfl ?_
  refine r_iconst (v := 0) X rfl dX3_copyFrom_36 37 rfl ?_
  refine r_aload_n X 0 rfl dX3_copyFrom_37 38 rfl ?_
  refine r_get (v := .ref (b + (t0 + 3))) X ht0 rfl zv_X3 zi_X3 rfl kf_X3_18 rfl rfl dX3_copyFrom_38 41 rfl ?_
  refine r_iconst (v := 0) X rfl dX3_copyFrom_41 42 rfl ?_
  refine r_sipush (v := 128) X rfl dX3_copyFrom_42 45 rfl ?_
  obtain ⟨M3, e3, h⟩ := z_bd h
  refine r_copy (n := 128) (nn := 128) X (zk_3_2 ha1) (zn_3_2 ha1) (zk_3_2 ht0) (zn_3_2 ht0) (by decide) (by decide) (by decide) rfl (by decide) kc_X3_43 (Option.some.inj e3) dX3_copyFrom_45 48 rfl ?_
  refine r_aload_n X 1 rfl dX3_copyFrom_48 49 rfl ?_
  refine r_get (v := .ref (b + (a1 + 4))) X ha1 rfl zv_X3 zi_X3 rfl kf_X3_21 rfl rfl dX3_copyFrom_49 52 rfl ?_
  refine r_iconst (v := 0) X rfl dX3_copyFrom_52 53 rfl ?_
  refine r_aload_n X 0 rfl dX3_copyFrom_53 54 rfl ?_
  refine r_get (v := .ref (b + (t0 + 4))) X ht0 rfl zv_X3 zi_X3 rfl kf_X3_21 rfl rfl dX3_copyFrom_54 57 rfl ?_
  refine r_iconst (v := 0) X rfl dX3_copyFrom_57 58 rfl ?_
  refine r_sipush (v := 128) X rfl dX3_copyFrom_58 61 rfl ?_
  obtain ⟨M4, e4, h⟩ := z_bd h
  refine r_copy (n := 128) (nn := 128) X (zk_3_3 ha1) (zn_3_3 ha1) (zk_3_3 ht0) (zn_3_3 ht0) (by decide) (by decide) (by decide) rfl (by decide) kc_X3_43 (Option.some.inj e4) dX3_copyFrom_61 64 rfl ?_
  cases h
  exact r_vret X R dX3_copyFrom_64
set_option maxRecDepth 100000 in
set_option maxHeartbeats 1000000 in
theorem tX2_belongsTo {l : Launch} (hl : l.stackTraces = false) (G : zG) (b : Nat) (t0 : Nat) (ht0 : z_kd t0 = 2) (a1 : Int32) (M : zM) {r9 : Int32} (h : fX2_belongsTo t0 a1 M = some r9) : z_MN l yX2_belongsTo cX2_belongsTo 2 (some .boolean) { frames := 0, cells := 0, slots := 0, locals := 0 } G b [.ref (b + t0), .int a1] M (some (.int r9)) M := by
  refine z_met (own := RX2) hl (by decide) rfl rfl (fun Γ hΓ X R => ?_)
  subst hΓ
  show GW Γ G b 0 0 M 0 [(0, .ref (b + t0)), (1, .int a1)] []
  unfold fX2_belongsTo at h
  refine r_aload_n X 0 rfl dX2_belongsTo_0 1 rfl ?_
  refine r_get (v := .int (M t0 1)) X ht0 rfl zv_X2 zi_X2 rfl kf_X2_18 rfl rfl dX2_belongsTo_1 4 rfl ?_
  refine r_if_eq X dX2_belongsTo_4 19 (by decide) 7 rfl (fun c1 => ?_) (fun c1 => ?_)
  · have h := z_it c1 h
    refine r_iconst (v := 0) X rfl dX2_belongsTo_19 20 rfl ?_
    cases h
    exact r_iret X R rfl dX2_belongsTo_20
  · have h := z_ie c1 h
    refine r_aload_n X 0 rfl dX2_belongsTo_7 8 rfl ?_
    refine r_get (v := .int (M t0 3)) X ht0 rfl zv_X2 zi_X2 rfl kf_X2_26 rfl rfl dX2_belongsTo_8 11 rfl ?_
    refine r_iload_n X 1 rfl dX2_belongsTo_11 12 rfl ?_
    refine r_icmp_ne X dX2_belongsTo_12 19 (by decide) 15 rfl (fun c2 => ?_) (fun c2 => ?_)
    · have h := z_ie c2 h
      refine r_iconst (v := 0) X rfl dX2_belongsTo_19 20 rfl ?_
      cases h
      exact r_iret X R rfl dX2_belongsTo_20
    · have h := z_it c2 h
      refine r_iconst (v := 1) X rfl dX2_belongsTo_15 16 rfl ?_
      refine r_goto X dX2_belongsTo_16 20 (by decide) ?_
      cases h
      exact r_iret X R rfl dX2_belongsTo_20
set_option maxRecDepth 100000 in
set_option maxHeartbeats 1000000 in
theorem tX3_birthOf {l : Launch} (hl : l.stackTraces = false) (G : zG) (b : Nat) (t0 : Nat) (ht0 : z_kd t0 = 3) (a1 : Int32) (M : zM) {r9 : Int32} (h : fX3_birthOf t0 a1 M = some r9) : z_MN l yX3_birthOf cX3_birthOf 2 (some .int) { frames := 1, cells := 0, slots := 0, locals := 20 } G b [.ref (b + t0), .int a1] M (some (.int r9)) M := by
  refine z_met (own := RX3) hl (by decide) rfl rfl (fun Γ hΓ X R => ?_)
  subst hΓ
  show GW Γ G b 0 0 M 0 [(0, .ref (b + t0)), (1, .int a1)] []
  unfold fX3_birthOf at h
  refine r_iload_n X 1 rfl dX3_birthOf_0 1 rfl ?_
  obtain ⟨x1, e1, h⟩ := z_bd h
  refine r_callS (rest := []) X (tX3_isBlock hl G b a1 M e1) zy_X3_isBlock zs_X3_isBlock km_X3_24 rfl ⟨rfl, rfl⟩ ⟨rfl, rfl⟩ rfl rfl (Nat.le_of_ble_eq_true rfl) ⟨Nat.zero_le _, Nat.zero_le _⟩ dX3_birthOf_1 4 rfl [.int x1] rfl ?_
  refine r_if_eq X dX3_birthOf_4 16 (by decide) 7 rfl (fun c2 => ?_) (fun c2 => ?_)
  · have h := z_it c2 h
    refine r_iconst (v := 0) X rfl dX3_birthOf_16 17 rfl ?_
    cases h
    exact r_iret X R rfl dX3_birthOf_17
  · have h := z_ie c2 h
    refine r_aload_n X 0 rfl dX3_birthOf_7 8 rfl ?_
    refine r_get (v := .ref (b + (t0 + 3))) X ht0 rfl zv_X3 zi_X3 rfl kf_X3_18 rfl rfl dX3_birthOf_8 11 rfl ?_
    refine r_iload_n X 1 rfl dX3_birthOf_11 12 rfl ?_
    obtain ⟨x3, e3, h⟩ := z_bd h
    refine r_iaload X (zk_3_2 ht0) (zn_3_2 ht0) e3 dX3_birthOf_12 13 rfl ?_
    refine r_goto X dX3_birthOf_13 17 (by decide) ?_
    cases h
    exact r_iret X R rfl dX3_birthOf_17
