set_option maxRecDepth 100000 in
set_option maxHeartbeats 1000000 in
theorem tL_block {l : Launch} (hl : l.stackTraces = false) (G : zG) (b : Nat) (a0 : Int32) (M : zM) {r9 : Int32} (h : fL_block a0 M = some r9) : z_MN l yL_block cL_block 1 (some .int) { frames := 0, cells := 0, slots := 0, locals := 0 } G b [.int a0] M (some (.int r9)) M := by
  refine z_met (own := RL) hl (by decide) rfl rfl (fun Γ hΓ X R => ?_)
  subst hΓ
  show GW Γ G b 0 0 M 0 [(0, .int a0)] []
  unfold fL_block at h
  refine r_iload_n X 0 rfl dL_block_0 1 rfl ?_
  refine r_bipush (v := 16) X rfl dL_block_1 3 rfl ?_
  refine r_idiv X (by decide) dL_block_3 4 rfl ?_
  refine r_bipush (v := 32) X rfl dL_block_4 6 rfl ?_
  refine r_imul X dL_block_6 7 rfl ?_
  refine r_iload_n X 0 rfl dL_block_7 8 rfl ?_
  refine r_bipush (v := 16) X rfl dL_block_8 10 rfl ?_
  refine r_irem X (by decide) dL_block_10 11 rfl ?_
  refine r_iadd X dL_block_11 12 rfl ?_
  cases h
  exact r_iret X R rfl dL_block_12
set_option maxRecDepth 100000 in
set_option maxHeartbeats 1000000 in
theorem tL_place {l : Launch} (hl : l.stackTraces = false) (G : zG) (b : Nat) (a0 : Int32) (M : zM) {r9 : Int32} (h : fL_place a0 M = some r9) : z_MN l yL_place cL_place 1 (some .int) { frames := 0, cells := 0, slots := 0, locals := 0 } G b [.int a0] M (some (.int r9)) M := by
  refine z_met (own := RL) hl (by decide) rfl rfl (fun Γ hΓ X R => ?_)
  subst hΓ
  show GW Γ G b 0 0 M 0 [(0, .int a0)] []
  unfold fL_place at h
  refine r_iload_n X 0 rfl dL_place_0 1 rfl ?_
  refine r_bipush (v := 32) X rfl dL_place_1 3 rfl ?_
  refine r_idiv X (by decide) dL_place_3 4 rfl ?_
  refine r_bipush (v := 16) X rfl dL_place_4 6 rfl ?_
  refine r_imul X dL_place_6 7 rfl ?_
  refine r_iload_n X 0 rfl dL_place_7 8 rfl ?_
  refine r_bipush (v := 32) X rfl dL_place_8 10 rfl ?_
  refine r_irem X (by decide) dL_place_10 11 rfl ?_
  refine r_iadd X dL_place_11 12 rfl ?_
  cases h
  exact r_iret X R rfl dL_place_12
set_option maxRecDepth 100000 in
set_option maxHeartbeats 1000000 in
theorem tL_has {l : Launch} (hl : l.stackTraces = false) (G : zG) (b : Nat) (a0 : Nat) (ha0 : z_kd a0 = 10) (a1 : Int32) (a2 : Int32) (M : zM) {r9 : Int32} (h : fL_has a0 a1 a2 M = some r9) : z_MN l yL_has cL_has 3 (some .boolean) { frames := 0, cells := 0, slots := 0, locals := 0 } G b [.ref (b + a0), .int a1, .int a2] M (some (.int r9)) M := by
  refine z_met (own := RL) hl (by decide) rfl rfl (fun Γ hΓ X R => ?_)
  subst hΓ
  show GW Γ G b 0 0 M 0 [(0, .ref (b + a0)), (1, .int a1), (2, .int a2)] []
  unfold fL_has at h
  refine r_aload_n X 0 rfl dL_has_0 1 rfl ?_
  refine r_iload_n X 1 rfl dL_has_1 2 rfl ?_
  obtain ⟨x1, e1, h⟩ := z_bd h
  refine r_laload X ha0 (zn_10 ha0) e1 dL_has_2 3 rfl ?_
  refine r_iload_n X 2 rfl dL_has_3 4 rfl ?_
  refine r_lshr X dL_has_4 5 rfl ?_
  refine r_lconst (v := (1 : Int64)) X rfl dL_has_5 6 rfl ?_
  refine r_land X dL_has_6 7 rfl ?_
  refine r_lconst (v := (1 : Int64)) X rfl dL_has_7 8 rfl ?_
  refine r_lcmp X dL_has_8 9 rfl ?_
  refine r_if_ne X dL_has_9 16 (by decide) 12 rfl (fun c2 => ?_) (fun c2 => ?_)
  · have h := z_ie c2 h
    refine r_iconst (v := 0) X rfl dL_has_16 17 rfl ?_
    cases h
    exact r_iret X R rfl dL_has_17
  · have h := z_it c2 h
    refine r_iconst (v := 1) X rfl dL_has_12 13 rfl ?_
    refine r_goto X dL_has_13 17 (by decide) ?_
    cases h
    exact r_iret X R rfl dL_has_17
set_option maxRecDepth 100000 in
set_option maxHeartbeats 1000000 in
theorem tL_with {l : Launch} (hl : l.stackTraces = false) (G : zG) (b : Nat) (a0 : Int64) (a2 : Int32) (a3 : Int32) (M : zM) {r9 : Int64} (h : fL_with a0 a2 a3 M = some r9) : z_MN l yL_with cL_with 4 (some .long) { frames := 0, cells := 0, slots := 0, locals := 0 } G b [.long a0, .int a2, .int a3] M (some (.long r9)) M := by
  refine z_met (own := RL) hl (by decide) rfl rfl (fun Γ hΓ X R => ?_)
  subst hΓ
  show GW Γ G b 0 0 M 0 [(0, .long a0), (2, .int a2), (3, .int a3)] []
  unfold fL_with at h
  refine r_iload_n X 2 rfl dL_with_0 1 rfl ?_
  refine r_if_eq X dL_with_1 12 (by decide) 4 rfl (fun c1 => ?_) (fun c1 => ?_)
  · have h := z_it c1 h
    refine r_lload_n X 0 rfl dL_with_12 13 rfl ?_
    refine r_lconst (v := (1 : Int64)) X rfl dL_with_13 14 rfl ?_
    refine r_iload_n X 1 rfl dL_with_14 15 rfl ?_
    refine r_lshl X dL_with_15 16 rfl ?_
    refine r_ldc2 (v := (-1 : Int64)) X kw_L_9 dL_with_16 19 rfl ?_
    refine r_lxor X dL_with_19 20 rfl ?_
    refine r_land X dL_with_20 21 rfl ?_
    cases h
    exact r_lret X R dL_with_21
  · have h := z_ie c1 h
    refine r_lload_n X 0 rfl dL_with_4 5 rfl ?_
    refine r_lconst (v := (1 : Int64)) X rfl dL_with_5 6 rfl ?_
    refine r_iload_n X 1 rfl dL_with_6 7 rfl ?_
    refine r_lshl X dL_with_7 8 rfl ?_
    refine r_lor X dL_with_8 9 rfl ?_
    refine r_goto X dL_with_9 21 (by decide) ?_
    cases h
    exact r_lret X R dL_with_21
set_option maxRecDepth 100000 in
set_option maxHeartbeats 1000000 in
theorem tL_birth {l : Launch} (hl : l.stackTraces = false) (G : zG) (b : Nat) (a0 : Nat) (ha0 : z_kd a0 = 10) (a1 : Int32) (M : zM) {r9 : Int32} (h : fL_birth a0 a1 M = some r9) : z_MN l yL_birth cL_birth 2 (some .int) { frames := 0, cells := 0, slots := 0, locals := 0 } G b [.ref (b + a0), .int a1] M (some (.int r9)) M := by
  refine z_met (own := RL) hl (by decide) rfl rfl (fun Γ hΓ X R => ?_)
  subst hΓ
  show GW Γ G b 0 0 M 0 [(0, .ref (b + a0)), (1, .int a1)] []
  unfold fL_birth at h
  refine r_aload_n X 0 rfl dL_birth_0 1 rfl ?_
  refine r_iload_n X 1 rfl dL_birth_1 2 rfl ?_
  obtain ⟨x1, e1, h⟩ := z_bd h
  refine r_laload X ha0 (zn_10 ha0) e1 dL_birth_2 3 rfl ?_
  refine r_bipush (v := 32) X rfl dL_birth_3 5 rfl ?_
  refine r_lshr X dL_birth_5 6 rfl ?_
  refine r_ldc2 (v := (16777215 : Int64)) X kw_L_11 dL_birth_6 9 rfl ?_
  refine r_land X dL_birth_9 10 rfl ?_
  refine r_l2i X dL_birth_10 11 rfl ?_
  cases h
  exact r_iret X R rfl dL_birth_11
set_option maxRecDepth 100000 in
set_option maxHeartbeats 1000000 in
theorem tL_count {l : Launch} (hl : l.stackTraces = false) (G : zG) (b : Nat) (a0 : Nat) (ha0 : z_kd a0 = 8) (hna0 : z_ln a0 = 28) (a1 : Int32) (a2 : Int32) (a3 : Int32) (M : zM) {r9 : Int32} (h : fL_count a0 a1 a2 a3 M = some r9) : z_MN l yL_count cL_count 6 (some .int) { frames := 0, cells := 0, slots := 0, locals := 0 } G b [.ref (b + a0), .int a1, .int a2, .int a3] M (some (.int r9)) M := by
  refine z_met (own := RL) hl (by decide) rfl rfl (fun Γ hΓ X R => ?_)
  subst hΓ
  show GW Γ G b 0 0 M 0 [(0, .ref (b + a0)), (1, .int a1), (2, .int a2), (3, .int a3)] []
  unfold fL_count at h
  refine r_iconst (v := 0) X rfl dL_count_0 1 rfl ?_
  refine r_istore X dL_count_1 3 rfl [(0, .ref (b + a0)), (1, .int a1), (2, .int a2), (3, .int a3), (4, .int 0)] (by decide) [1, 2, 3, 4, 0] rfl ?_
  refine r_iload_n X 2 rfl dL_count_3 4 rfl ?_
  refine r_istore X dL_count_4 6 rfl [(0, .ref (b + a0)), (1, .int a1), (3, .int a3), (4, .int 0), (5, .int a2)] (by decide) [1, 2, 4, 5, 0] rfl ?_
  obtain ⟨x3, hL4, h⟩ := z_bd h
  have hK4 : GW Γ G b 0 0 M 38 [(4, .int x3)] [] := by
    refine r_iload X 0 rfl dL_count_38 40 rfl ?_
    cases h
    exact r_iret X R rfl dL_count_40
  clear h
  refine z_loopP (fun (s : (Int32 × Int32)) => GW Γ G b 0 0 M 6 [(0, .ref (b + a0)), (1, .int a1), (3, .int a3), (4, .int s.1), (5, .int s.2)] []) (fun s q4 hb hP4 hx4 => ?_) _ _ hL4
  obtain ⟨x1, x2⟩ := s
  have h : fL_count_L1 a0 a1 a3 M x1 x2 = some q4 := hb
  unfold fL_count_L1 at h
  refine r_iload X 4 rfl dL_count_6 8 rfl ?_
  refine r_iload_n X 2 rfl dL_count_8 9 rfl ?_
  refine r_icmp_ge X dL_count_9 38 (by decide) 12 rfl (fun c5 => ?_) (fun c5 => ?_)
  · have h := z_it c5 h
    refine r_sub [(4, .int x1)] [3] rfl ?_
    have e := hx4 _ (Option.some.inj h).symm
    cases e
    exact hK4
  · have h := z_ie c5 h
    refine r_iload X 3 rfl dL_count_12 14 rfl ?_
    refine r_aload_n X 0 rfl dL_count_14 15 rfl ?_
    refine r_iload X 4 rfl dL_count_15 17 rfl ?_
    obtain ⟨x6, e6, h⟩ := z_bd h
    refine r_iaload X ha0 hna0 e6 dL_count_17 18 rfl ?_
    refine r_iload_n X 1 rfl dL_count_18 19 rfl ?_
    refine r_iconst (v := 1) X rfl dL_count_19 20 rfl ?_
    refine r_iadd X dL_count_20 21 rfl ?_
    refine r_icmp_ne X dL_count_21 28 (by decide) 24 rfl (fun c7 => ?_) (fun c7 => ?_)
    · have h := z_ie c7 h
      refine r_iconst (v := 0) X rfl dL_count_28 29 rfl ?_
      refine r_iadd X dL_count_29 30 rfl ?_
      refine r_istore X dL_count_30 32 rfl [(0, .ref (b + a0)), (1, .int a1), (3, .int a3), (4, .int (x1 + 0)), (5, .int x2)] (by decide) [1, 2, 3, 0, 4] rfl ?_
      refine r_iinc X dL_count_32 35 rfl [(0, .ref (b + a0)), (1, .int a1), (3, .int a3), (4, .int (x1 + 0)), (5, .int (x2 + 1))] (by decide) 4 rfl (x2 + 1) rfl [1, 2, 3, 4, 0] rfl ?_
      refine r_goto X dL_count_35 6 (by decide) ?_
      exact hP4 ((x1 + 0), (x2 + 1)) (Option.some.inj h).symm
    · have h := z_it c7 h
      refine r_iconst (v := 1) X rfl dL_count_24 25 rfl ?_
      refine r_goto X dL_count_25 29 (by decide) ?_
      refine r_iadd X dL_count_29 30 rfl ?_
      refine r_istore X dL_count_30 32 rfl [(0, .ref (b + a0)), (1, .int a1), (3, .int a3), (4, .int (x1 + 1)), (5, .int x2)] (by decide) [1, 2, 3, 0, 4] rfl ?_
      refine r_iinc X dL_count_32 35 rfl [(0, .ref (b + a0)), (1, .int a1), (3, .int a3), (4, .int (x1 + 1)), (5, .int (x2 + 1))] (by decide) 4 rfl (x2 + 1) rfl [1, 2, 3, 4, 0] rfl ?_
      refine r_goto X dL_count_35 6 (by decide) ?_
      exact hP4 ((x1 + 1), (x2 + 1)) (Option.some.inj h).symm
set_option maxRecDepth 100000 in
set_option maxHeartbeats 1000000 in
theorem tL_settle {l : Launch} (hl : l.stackTraces = false) (G : zG) (b : Nat) (a0 : Nat) (ha0 : z_kd a0 = 8) (hna0 : z_ln a0 = 28) (a1 : Nat) (ha1 : z_kd a1 = 10) (a2 : Nat) (ha2 : z_kd a2 = 8) (hna2 : z_ln a2 = 32) (M : zM) {r9 : Int32} {M9 : zM} (h : fL_settle a0 a1 a2 M = some (r9, M9)) : z_MN l yL_settle cL_settle 7 (some .int) { frames := 1, cells := 0, slots := 0, locals := 25 } G b [.ref (b + a0), .ref (b + a1), .ref (b + a2)] M (some (.int r9)) M9 := by
  refine z_met (own := RL) hl (by decide) rfl rfl (fun Γ hΓ X R => ?_)
  subst hΓ
  show GW Γ G b 0 0 M 0 [(0, .ref (b + a0)), (1, .ref (b + a1)), (2, .ref (b + a2))] []
  unfold fL_settle at h
  refine r_iconst (v := 0) X rfl dL_settle_0 1 rfl ?_
  refine r_istore_n X dL_settle_1 2 rfl [(0, .ref (b + a0)), (1, .ref (b + a1)), (2, .ref (b + a2)), (3, .int 0)] (by decide) [1, 2, 3, 0] rfl ?_
  refine r_iconst (v := 0) X rfl dL_settle_2 3 rfl ?_
  refine r_istore X dL_settle_3 5 rfl [(0, .ref (b + a0)), (1, .ref (b + a1)), (2, .ref (b + a2)), (3, .int 0), (4, .int 0)] (by decide) [1, 2, 3, 4, 0] rfl ?_
  obtain ⟨x4, M5, hL6, h⟩ := z_bd2 h
  have hK6 : GW Γ G b 0 0 M5 137 [(3, .int x4)] [] := by
    refine r_iload_n X 0 rfl dL_settle_137 138 rfl ?_
    cases h
    exact r_iret X R rfl dL_settle_138
  clear h
  refine z_loopP (fun (s : (Int32 × Int32 × zM)) => GW Γ G b 0 0 s.2.2 5 [(0, .ref (b + a0)), (1, .ref (b + a1)), (2, .ref (b + a2)), (3, .int s.1), (4, .int s.2.1)] []) (fun s q6 hb hP6 hx6 => ?_) _ _ hL6
  obtain ⟨x1, x2, M3⟩ := s
  have h : fL_settle_L1 a0 a1 a2 x1 x2 M3 = some q6 := hb
  unfold fL_settle_L1 at h
  refine r_iload X 4 rfl dL_settle_5 7 rfl ?_
  refine r_bipush (v := 64) X rfl dL_settle_7 9 rfl ?_
  refine r_icmp_ge X dL_settle_9 137 (by decide) 12 rfl (fun c7 => ?_) (fun c7 => ?_)
  · have h := z_it c7 h
    refine r_sub [(3, .int x1)] [3] rfl ?_
    have e := hx6 _ (Option.some.inj h).symm
    cases e
    exact hK6
  · have h := z_ie c7 h
    refine r_aload_n X 0 rfl dL_settle_12 13 rfl ?_
    refine r_iload X 4 rfl dL_settle_13 15 rfl ?_
    obtain ⟨x8, e8, h⟩ := z_bd h
    refine r_callS (rest := [.ref (b + a0)]) X (tL_block hl G b x2 M3 e8) zy_L_block zs_L_block km_L_13 rfl ⟨rfl, rfl⟩ ⟨rfl, rfl⟩ rfl rfl (Nat.le_of_ble_eq_true rfl) ⟨Nat.zero_le _, Nat.zero_le _⟩ dL_settle_15 18 rfl [.int x8, .ref (b + a0)] rfl ?_
    refine r_iconst (v := 0) X rfl dL_settle_18 19 rfl ?_
    refine r_bipush (v := 28) X rfl dL_settle_19 21 rfl ?_
    obtain ⟨x9, e9, h⟩ := z_bd h
    refine r_callS (rest := []) X (tL_count hl G b a0 ha0 hna0 x8 0 28 M3 e9) zy_L_count zs_L_count km_L_19 rfl ⟨rfl, rfl⟩ ⟨rfl, rfl⟩ rfl rfl (Nat.le_of_ble_eq_true rfl) ⟨Nat.zero_le _, Nat.zero_le _⟩ dL_settle_21 24 rfl [.int x9] rfl ?_
    obtain ⟨j11, hT11, h⟩ := z_bd h
    have hJ11 : GW Γ G b 0 0 M3 32 [(0, .ref (b + a0)), (1, .ref (b + a1)), (2, .ref (b + a2)), (3, .int x1), (4, .int x2)] [.int j11] := by
      refine r_istore X dL_settle_32 34 rfl [(0, .ref (b + a0)), (1, .ref (b + a1)), (2, .ref (b + a2)), (3, .int x1), (4, .int x2), (5, .int j11)] (by decide) [1, 2, 3, 4, 5, 0] rfl ?_
      refine r_iload X 5 rfl dL_settle_34 36 rfl ?_
      obtain ⟨j13, hT13, h⟩ := z_bd h
      have hJ13 : GW Γ G b 0 0 M3 55 [(0, .ref (b + a0)), (1, .ref (b + a1)), (2, .ref (b + a2)), (3, .int x1), (4, .int x2), (5, .int j11)] [.int j13] := by
        refine r_istore X dL_settle_55 57 rfl [(0, .ref (b + a0)), (1, .ref (b + a1)), (2, .ref (b + a2)), (3, .int x1), (4, .int x2), (5, .int j11), (6, .int j13)] (by decide) [1, 2, 3, 4, 5, 6, 0] rfl ?_
        refine r_iload_n X 3 rfl dL_settle_57 58 rfl ?_
        refine r_iload X 6 rfl dL_settle_58 60 rfl ?_
        obtain ⟨j15, hT15, h⟩ := z_bd h
        have hJ15 : GW Γ G b 0 0 M3 68 [(0, .ref (b + a0)), (1, .ref (b + a1)), (2, .ref (b + a2)), (4, .int x2), (5, .int j11), (6, .int j13)] [.int j15, .int x1] := by
          refine r_iadd X dL_settle_68 69 rfl ?_
          refine r_istore_n X dL_settle_69 70 rfl [(0, .ref (b + a0)), (1, .ref (b + a1)), (2, .ref (b + a2)), (3, .int (x1 + j15)), (4, .int x2), (5, .int j11), (6, .int j13)] (by decide) [1, 2, 3, 0, 4, 5, 6] rfl ?_
          refine r_aload_n X 1 rfl dL_settle_70 71 rfl ?_
          refine r_iload X 4 rfl dL_settle_71 73 rfl ?_
          refine r_aload_n X 1 rfl dL_settle_73 74 rfl ?_
          refine r_iload X 4 rfl dL_settle_74 76 rfl ?_
          obtain ⟨x16, e16, h⟩ := z_bd h
          refine r_laload X ha1 (zn_10 ha1) e16 dL_settle_76 77 rfl ?_
          refine r_bipush (v := 60) X rfl dL_settle_77 79 rfl ?_
          refine r_iload X 6 rfl dL_settle_79 81 rfl ?_
          obtain ⟨j18, hT18, h⟩ := z_bd h
          have hJ18 : GW Γ G b 0 0 M3 112 [(0, .ref (b + a0)), (1, .ref (b + a1)), (2, .ref (b + a2)), (3, .int (x1 + j15)), (4, .int x2), (5, .int j11)] [.int j18, .int 60, .long x16, .int x2, .ref (b + a1)] := by
            obtain ⟨x19, e19, h⟩ := z_bd h
            refine r_callS (rest := [.int x2, .ref (b + a1)]) X (tL_with hl G b x16 60 j18 M3 e19) zy_L_with zs_L_with km_L_31 rfl ⟨rfl, rfl⟩ ⟨rfl, rfl⟩ rfl rfl (Nat.le_of_ble_eq_true rfl) ⟨Nat.zero_le _, Nat.zero_le _⟩ dL_settle_112 115 rfl [.long x19, .int x2, .ref (b + a1)] rfl ?_
            obtain ⟨M20, e20, h⟩ := z_bd h
            refine r_lastore X ha1 (zn_10 ha1) e20 dL_settle_115 116 rfl ?_
            refine r_aload_n X 1 rfl dL_settle_116 117 rfl ?_
            refine r_iload X 4 rfl dL_settle_117 119 rfl ?_
            refine r_aload_n X 1 rfl dL_settle_119 120 rfl ?_
            refine r_iload X 4 rfl dL_settle_120 122 rfl ?_
            obtain ⟨x21, e21, h⟩ := z_bd h
            refine r_laload X ha1 (zn_10 ha1) e21 dL_settle_122 123 rfl ?_
            refine r_bipush (v := 62) X rfl dL_settle_123 125 rfl ?_
            refine r_iload X 5 rfl dL_settle_125 127 rfl ?_
            obtain ⟨x22, e22, h⟩ := z_bd h
            refine r_callS (rest := [.int x2, .ref (b + a1)]) X (tL_with hl G b x21 62 j11 M20 e22) zy_L_with zs_L_with km_L_31 rfl ⟨rfl, rfl⟩ ⟨rfl, rfl⟩ rfl rfl (Nat.le_of_ble_eq_true rfl) ⟨Nat.zero_le _, Nat.zero_le _⟩ dL_settle_127 130 rfl [.long x22, .int x2, .ref (b + a1)] rfl ?_
            obtain ⟨M23, e23, h⟩ := z_bd h
            refine r_lastore X ha1 (zn_10 ha1) e23 dL_settle_130 131 rfl ?_
            refine r_iinc X dL_settle_131 134 rfl [(0, .ref (b + a0)), (1, .ref (b + a1)), (2, .ref (b + a2)), (3, .int (x1 + j15)), (4, .int (x2 + 1))] (by decide) 4 rfl (x2 + 1) rfl [1, 2, 3, 4, 0] rfl ?_
            refine r_goto X dL_settle_134 5 (by decide) ?_
            exact hP6 ((x1 + j15), (x2 + 1), M23) (Option.some.inj h).symm
          have h := hT18
          refine r_if_eq X dL_settle_81 104 (by decide) 84 rfl (fun c17 => ?_) (fun c17 => ?_)
          · have h := z_it c17 h
            refine r_aload_n X 1 rfl dL_settle_104 105 rfl ?_
            refine r_iload X 4 rfl dL_settle_105 107 rfl ?_
            refine r_bipush (v := 60) X rfl dL_settle_107 109 rfl ?_
            obtain ⟨x24, e24, h⟩ := z_bd h
            refine r_callS (rest := [.int 60, .long x16, .int x2, .ref (b + a1)]) X (tL_has hl G b a1 ha1 x2 60 M3 e24) zy_L_has zs_L_has km_L_23 rfl ⟨rfl, rfl⟩ ⟨rfl, rfl⟩ rfl rfl (Nat.le_of_ble_eq_true rfl) ⟨Nat.zero_le _, Nat.zero_le _⟩ dL_settle_109 112 rfl [.int x24, .int 60, .long x16, .int x2, .ref (b + a1)] rfl ?_
            refine r_sub [(0, .ref (b + a0)), (1, .ref (b + a1)), (2, .ref (b + a2)), (3, .int (x1 + j15)), (4, .int x2), (5, .int j11)] [0, 1, 2, 3, 4, 5] rfl ?_
            cases h
            exact hJ18
          · have h := z_ie c17 h
            refine r_aload_n X 1 rfl dL_settle_84 85 rfl ?_
            refine r_iload X 4 rfl dL_settle_85 87 rfl ?_
            obtain ⟨x25, e25, h⟩ := z_bd h
            refine r_callS (rest := [.int 60, .long x16, .int x2, .ref (b + a1)]) X (tL_birth hl G b a1 ha1 x2 M3 e25) zy_L_birth zs_L_birth km_L_27 rfl ⟨rfl, rfl⟩ ⟨rfl, rfl⟩ rfl rfl (Nat.le_of_ble_eq_true rfl) ⟨Nat.zero_le _, Nat.zero_le _⟩ dL_settle_87 90 rfl [.int x25, .int 60, .long x16, .int x2, .ref (b + a1)] rfl ?_
            refine r_aload_n X 2 rfl dL_settle_90 91 rfl ?_
            refine r_iconst (v := 0) X rfl dL_settle_91 92 rfl ?_
            obtain ⟨x26, e26, h⟩ := z_bd h
            refine r_iaload X ha2 hna2 e26 dL_settle_92 93 rfl ?_
            refine r_icmp_eq X dL_settle_93 100 (by decide) 96 rfl (fun c27 => ?_) (fun c27 => ?_)
            · have h := z_it c27 h
              refine r_iconst (v := 0) X rfl dL_settle_100 101 rfl ?_
              refine r_goto X dL_settle_101 112 (by decide) ?_
              refine r_sub [(0, .ref (b + a0)), (1, .ref (b + a1)), (2, .ref (b + a2)), (3, .int (x1 + j15)), (4, .int x2), (5, .int j11)] [0, 1, 2, 3, 4, 5] rfl ?_
              cases h
              exact hJ18
            · have h := z_ie c27 h
              refine r_iconst (v := 1) X rfl dL_settle_96 97 rfl ?_
              refine r_goto X dL_settle_97 112 (by decide) ?_
              refine r_sub [(0, .ref (b + a0)), (1, .ref (b + a1)), (2, .ref (b + a2)), (3, .int (x1 + j15)), (4, .int x2), (5, .int j11)] [0, 1, 2, 3, 4, 5] rfl ?_
              cases h
              exact hJ18
        have h := hT15
        refine r_if_eq X dL_settle_60 67 (by decide) 63 rfl (fun c14 => ?_) (fun c14 => ?_)
        · have h := z_it c14 h
          refine r_iconst (v := 0) X rfl dL_settle_67 68 rfl ?_
          refine r_sub [(0, .ref (b + a0)), (1, .ref (b + a1)), (2, .ref (b + a2)), (4, .int x2), (5, .int j11), (6, .int j13)] [0, 1, 2, 4, 5, 6] rfl ?_
          cases h
          exact hJ15
        · have h := z_ie c14 h
          refine r_iconst (v := 1) X rfl dL_settle_63 64 rfl ?_
          refine r_goto X dL_settle_64 68 (by decide) ?_
          refine r_sub [(0, .ref (b + a0)), (1, .ref (b + a1)), (2, .ref (b + a2)), (4, .int x2), (5, .int j11), (6, .int j13)] [0, 1, 2, 4, 5, 6] rfl ?_
          cases h
          exact hJ15
      have h := hT13
      refine r_if_ne X dL_settle_36 54 (by decide) 39 rfl (fun c12 => ?_) (fun c12 => ?_)
      · have h := z_ie c12 h
        refine r_iconst (v := 0) X rfl dL_settle_54 55 rfl ?_
        cases h
        exact hJ13
      · have h := z_it c12 h
        refine r_aload_n X 1 rfl dL_settle_39 40 rfl ?_
        refine r_iload X 4 rfl dL_settle_40 42 rfl ?_
        refine r_bipush (v := 62) X rfl dL_settle_42 44 rfl ?_
        obtain ⟨x28, e28, h⟩ := z_bd h
        refine r_callS (rest := []) X (tL_has hl G b a1 ha1 x2 62 M3 e28) zy_L_has zs_L_has km_L_23 rfl ⟨rfl, rfl⟩ ⟨rfl, rfl⟩ rfl rfl (Nat.le_of_ble_eq_true rfl) ⟨Nat.zero_le _, Nat.zero_le _⟩ dL_settle_44 47 rfl [.int x28] rfl ?_
        refine r_if_eq X dL_settle_47 54 (by decide) 50 rfl (fun c29 => ?_) (fun c29 => ?_)
        · have h := z_it c29 h
          refine r_iconst (v := 0) X rfl dL_settle_54 55 rfl ?_
          cases h
          exact hJ13
        · have h := z_ie c29 h
          refine r_iconst (v := 1) X rfl dL_settle_50 51 rfl ?_
          refine r_goto X dL_settle_51 55 (by decide) ?_
          cases h
          exact hJ13
    have h := hT11
    refine r_if_le X dL_settle_24 31 (by decide) 27 rfl (fun c10 => ?_) (fun c10 => ?_)
    · have h := z_it c10 h
      refine r_iconst (v := 0) X rfl dL_settle_31 32 rfl ?_
      cases h
      exact hJ11
    · have h := z_ie c10 h
      refine r_iconst (v := 1) X rfl dL_settle_27 28 rfl ?_
      refine r_goto X dL_settle_28 32 (by decide) ?_
      cases h
      exact hJ11
set_option maxRecDepth 100000 in
set_option maxHeartbeats 1000000 in
theorem tL_next {l : Launch} (hl : l.stackTraces = false) (G : zG) (b : Nat) (a0 : Nat) (ha0 : z_kd a0 = 10) (M : zM) {r9 : Int32} (h : fL_next a0 M = some r9) : z_MN l yL_next cL_next 8 (some .int) { frames := 1, cells := 0, slots := 0, locals := 22 } G b [.ref (b + a0)] M (some (.int r9)) M := by
  refine z_met (own := RL) hl (by decide) rfl rfl (fun Γ hΓ X R => ?_)
  subst hΓ
  show GW Γ G b 0 0 M 0 [(0, .ref (b + a0))] []
  unfold fL_next at h
  refine r_iconst (v := (-1)) X rfl dL_next_0 1 rfl ?_
  refine r_istore_n X dL_next_1 2 rfl [(0, .ref (b + a0)), (1, .int (-1))] (by decide) [1, 0] rfl ?_
  refine r_bipush (v := 99) X rfl dL_next_2 4 rfl ?_
  refine r_istore_n X dL_next_4 5 rfl [(0, .ref (b + a0)), (1, .int (-1)), (2, .int 99)] (by decide) [1, 2, 0] rfl ?_
  refine r_iconst (v := 0) X rfl dL_next_5 6 rfl ?_
  refine r_istore_n X dL_next_6 7 rfl [(0, .ref (b + a0)), (1, .int (-1)), (2, .int 99), (3, .int 0)] (by decide) [1, 2, 3, 0] rfl ?_
  obtain ⟨x4, hL5, h⟩ := z_bd h
  have hK5 : GW Γ G b 0 0 M 132 [(1, .int x4)] [] := by
    refine r_iload_n X 0 rfl dL_next_132 133 rfl ?_
    cases h
    exact r_iret X R rfl dL_next_133
  clear h
  refine z_loopP (fun (s : (Int32 × Int32 × Int32)) => GW Γ G b 0 0 M 7 [(0, .ref (b + a0)), (1, .int s.1), (2, .int s.2.1), (3, .int s.2.2)] []) (fun s q5 hb hP5 hx5 => ?_) _ _ hL5
  obtain ⟨x1, x2, x3⟩ := s
  have h : fL_next_L1 a0 M x1 x2 x3 = some q5 := hb
  unfold fL_next_L1 at h
  refine r_iload_n X 3 rfl dL_next_7 8 rfl ?_
  refine r_iconst (v := 4) X rfl dL_next_8 9 rfl ?_
  refine r_icmp_ge X dL_next_9 132 (by decide) 12 rfl (fun c6 => ?_) (fun c6 => ?_)
  · have h := z_it c6 h
    refine r_sub [(1, .int x1)] [1] rfl ?_
    have e := hx5 _ (Option.some.inj h).symm
    cases e
    exact hK5
  · have h := z_ie c6 h
    refine r_iconst (v := 0) X rfl dL_next_12 13 rfl ?_
    refine r_istore X dL_next_13 15 rfl [(0, .ref (b + a0)), (1, .int x1), (2, .int x2), (3, .int x3), (4, .int 0)] (by decide) [1, 2, 3, 4, 0] rfl ?_
    refine r_iconst (v := (-1)) X rfl dL_next_15 16 rfl ?_
    refine r_istore X dL_next_16 18 rfl [(0, .ref (b + a0)), (1, .int x1), (2, .int x2), (3, .int x3), (4, .int 0), (5, .int (-1))] (by decide) [1, 2, 3, 4, 5, 0] rfl ?_
    refine r_bipush (v := 16) X rfl dL_next_18 20 rfl ?_
    refine r_iload_n X 3 rfl dL_next_20 21 rfl ?_
    refine r_imul X dL_next_21 22 rfl ?_
    refine r_bipush (v := 15) X rfl dL_next_22 24 rfl ?_
    refine r_iadd X dL_next_24 25 rfl ?_
    refine r_istore X dL_next_25 27 rfl [(0, .ref (b + a0)), (1, .int x1), (2, .int x2), (3, .int x3), (4, .int 0), (5, .int (-1)), (6, .int ((16 * x3) + 15))] (by decide) [1, 2, 3, 4, 5, 6, 0] rfl ?_
    obtain ⟨x10, x11, hL12, h⟩ := z_bd2 h
    have hK12 : GW Γ G b 0 0 M 100 [(0, .ref (b + a0)), (1, .int x1), (2, .int x2), (3, .int x3), (4, .int x10), (5, .int x11)] [] := by
      refine r_iload X 4 rfl dL_next_100 102 rfl ?_
      refine r_iload_n X 2 rfl dL_next_102 103 rfl ?_
      obtain ⟨j14, hT14, h⟩ := z_bd h
      have hJ14 : GW Γ G b 0 0 M 112 [(0, .ref (b + a0)), (2, .int x2), (3, .int x3), (4, .int x10)] [.int j14] := by
        refine r_istore_n X dL_next_112 113 rfl [(0, .ref (b + a0)), (1, .int j14), (2, .int x2), (3, .int x3), (4, .int x10)] (by decide) [1, 0, 2, 3, 4] rfl ?_
        refine r_iload X 4 rfl dL_next_113 115 rfl ?_
        refine r_iload_n X 2 rfl dL_next_115 116 rfl ?_
        refine r_icmp_ge X dL_next_116 124 (by decide) 119 rfl (fun c15 => ?_) (fun c15 => ?_)
        · have h := z_it c15 h
          refine r_iload_n X 2 rfl dL_next_124 125 rfl ?_
          refine r_istore_n X dL_next_125 126 rfl [(0, .ref (b + a0)), (1, .int j14), (2, .int x2), (3, .int x3)] (by decide) [1, 2, 0, 3] rfl ?_
          refine r_iinc X dL_next_126 129 rfl [(0, .ref (b + a0)), (1, .int j14), (2, .int x2), (3, .int (x3 + 1))] (by decide) 3 rfl (x3 + 1) rfl [1, 2, 3, 0] rfl ?_
          refine r_goto X dL_next_129 7 (by decide) ?_
          exact hP5 (j14, x2, (x3 + 1)) (Option.some.inj h).symm
        · have h := z_ie c15 h
          refine r_iload X 4 rfl dL_next_119 121 rfl ?_
          refine r_goto X dL_next_121 125 (by decide) ?_
          refine r_istore_n X dL_next_125 126 rfl [(0, .ref (b + a0)), (1, .int j14), (2, .int x10), (3, .int x3)] (by decide) [1, 2, 0, 3] rfl ?_
          refine r_iinc X dL_next_126 129 rfl [(0, .ref (b + a0)), (1, .int j14), (2, .int x10), (3, .int (x3 + 1))] (by decide) 3 rfl (x3 + 1) rfl [1, 2, 3, 0] rfl ?_
          refine r_goto X dL_next_129 7 (by decide) ?_
          exact hP5 (j14, x10, (x3 + 1)) (Option.some.inj h).symm
      have h := hT14
      refine r_icmp_ge X dL_next_103 111 (by decide) 106 rfl (fun c13 => ?_) (fun c13 => ?_)
      · have h := z_it c13 h
        refine r_iload_n X 1 rfl dL_next_111 112 rfl ?_
        refine r_sub [(0, .ref (b + a0)), (2, .int x2), (3, .int x3), (4, .int x10)] [0, 2, 3, 4] rfl ?_
        cases h
        exact hJ14
      · have h := z_ie c13 h
        refine r_iload X 5 rfl dL_next_106 108 rfl ?_
        refine r_goto X dL_next_108 112 (by decide) ?_
        refine r_sub [(0, .ref (b + a0)), (2, .int x2), (3, .int x3), (4, .int x10)] [0, 2, 3, 4] rfl ?_
        cases h
        exact hJ14
    clear h
    refine z_loopP (fun (s : (Int32 × Int32 × Int32)) => GW Γ G b 0 0 M 27 [(0, .ref (b + a0)), (1, .int x1), (2, .int x2), (3, .int x3), (4, .int s.1), (5, .int s.2.1), (6, .int s.2.2)] []) (fun s q12 hb hP12 hx12 => ?_) _ _ hL12
    obtain ⟨x7, x8, x9⟩ := s
    have h : fL_next_L2 a0 M x3 x7 x8 x9 = some q12 := hb
    unfold fL_next_L2 at h
    refine r_iload X 6 rfl dL_next_27 29 rfl ?_
    refine r_bipush (v := 16) X rfl dL_next_29 31 rfl ?_
    refine r_iload_n X 3 rfl dL_next_31 32 rfl ?_
    refine r_imul X dL_next_32 33 rfl ?_
    refine r_icmp_lt X dL_next_33 100 (by decide) 36 rfl (fun c16 => ?_) (fun c16 => ?_)
    · have h := z_it c16 h
      refine r_sub [(0, .ref (b + a0)), (1, .int x1), (2, .int x2), (3, .int x3), (4, .int x7), (5, .int x8)] [0, 1, 2, 3, 4, 5] rfl ?_
      have e := hx12 _ (Option.some.inj h).symm
      cases e
      exact hK12
    · have h := z_ie c16 h
      refine r_aload_n X 0 rfl dL_next_36 37 rfl ?_
      refine r_iload X 6 rfl dL_next_37 39 rfl ?_
      refine r_bipush (v := 60) X rfl dL_next_39 41 rfl ?_
      obtain ⟨x17, e17, h⟩ := z_bd h
      refine r_callS (rest := []) X (tL_has hl G b a0 ha0 x9 60 M e17) zy_L_has zs_L_has km_L_23 rfl ⟨rfl, rfl⟩ ⟨rfl, rfl⟩ rfl rfl (Nat.le_of_ble_eq_true rfl) ⟨Nat.zero_le _, Nat.zero_le _⟩ dL_next_41 44 rfl [.int x17] rfl ?_
      obtain ⟨j19, hT19, h⟩ := z_bd h
      have hJ19 : GW Γ G b 0 0 M 63 [(0, .ref (b + a0)), (1, .int x1), (2, .int x2), (3, .int x3), (4, .int x7), (5, .int x8), (6, .int x9)] [.int j19] := by
        refine r_istore X dL_next_63 65 rfl [(0, .ref (b + a0)), (1, .int x1), (2, .int x2), (3, .int x3), (4, .int x7), (5, .int x8), (6, .int x9), (7, .int j19)] (by decide) [1, 2, 3, 4, 5, 6, 7, 0] rfl ?_
        refine r_iload X 4 rfl dL_next_65 67 rfl ?_
        refine r_iload X 7 rfl dL_next_67 69 rfl ?_
        obtain ⟨j21, hT21, h⟩ := z_bd h
        have hJ21 : GW Γ G b 0 0 M 77 [(0, .ref (b + a0)), (1, .int x1), (2, .int x2), (3, .int x3), (5, .int x8), (6, .int x9), (7, .int j19)] [.int j21, .int x7] := by
          refine r_iadd X dL_next_77 78 rfl ?_
          refine r_istore X dL_next_78 80 rfl [(0, .ref (b + a0)), (1, .int x1), (2, .int x2), (3, .int x3), (4, .int (x7 + j21)), (5, .int x8), (6, .int x9), (7, .int j19)] (by decide) [1, 2, 3, 4, 0, 5, 6, 7] rfl ?_
          refine r_iload X 7 rfl dL_next_80 82 rfl ?_
          refine r_if_eq X dL_next_82 90 (by decide) 85 rfl (fun c22 => ?_) (fun c22 => ?_)
          · have h := z_it c22 h
            refine r_iload X 6 rfl dL_next_90 92 rfl ?_
            refine r_istore X dL_next_92 94 rfl [(0, .ref (b + a0)), (1, .int x1), (2, .int x2), (3, .int x3), (4, .int (x7 + j21)), (5, .int x9), (6, .int x9)] (by decide) [1, 2, 3, 4, 5, 0, 6] rfl ?_
            refine r_iinc X dL_next_94 97 rfl [(0, .ref (b + a0)), (1, .int x1), (2, .int x2), (3, .int x3), (4, .int (x7 + j21)), (5, .int x9), (6, .int (x9 + (-1)))] (by decide) 6 rfl (x9 + (-1)) rfl [1, 2, 3, 4, 5, 6, 0] rfl ?_
            refine r_goto X dL_next_97 27 (by decide) ?_
            exact hP12 ((x7 + j21), x9, (x9 + (-1))) (Option.some.inj h).symm
          · have h := z_ie c22 h
            refine r_iload X 5 rfl dL_next_85 87 rfl ?_
            refine r_goto X dL_next_87 92 (by decide) ?_
            refine r_istore X dL_next_92 94 rfl [(0, .ref (b + a0)), (1, .int x1), (2, .int x2), (3, .int x3), (4, .int (x7 + j21)), (5, .int x8), (6, .int x9)] (by decide) [1, 2, 3, 4, 5, 0, 6] rfl ?_
            refine r_iinc X dL_next_94 97 rfl [(0, .ref (b + a0)), (1, .int x1), (2, .int x2), (3, .int x3), (4, .int (x7 + j21)), (5, .int x8), (6, .int (x9 + (-1)))] (by decide) 6 rfl (x9 + (-1)) rfl [1, 2, 3, 4, 5, 6, 0] rfl ?_
            refine r_goto X dL_next_97 27 (by decide) ?_
            exact hP12 ((x7 + j21), x8, (x9 + (-1))) (Option.some.inj h).symm
        have h := hT21
        refine r_if_eq X dL_next_69 76 (by decide) 72 rfl (fun c20 => ?_) (fun c20 => ?_)
        · have h := z_it c20 h
          refine r_iconst (v := 0) X rfl dL_next_76 77 rfl ?_
          refine r_sub [(0, .ref (b + a0)), (1, .int x1), (2, .int x2), (3, .int x3), (5, .int x8), (6, .int x9), (7, .int j19)] [0, 1, 2, 3, 5, 6, 7] rfl ?_
          cases h
          exact hJ21
        · have h := z_ie c20 h
          refine r_iconst (v := 1) X rfl dL_next_72 73 rfl ?_
          refine r_goto X dL_next_73 77 (by decide) ?_
          refine r_sub [(0, .ref (b + a0)), (1, .int x1), (2, .int x2), (3, .int x3), (5, .int x8), (6, .int x9), (7, .int j19)] [0, 1, 2, 3, 5, 6, 7] rfl ?_
          cases h
          exact hJ21
      have h := hT19
      refine r_if_ne X dL_next_44 58 (by decide) 47 rfl (fun c18 => ?_) (fun c18 => ?_)
      · have h := z_ie c18 h
        refine r_iconst (v := 1) X rfl dL_next_58 59 rfl ?_
        refine r_goto X dL_next_59 63 (by decide) ?_
        cases h
        exact hJ19
      · have h := z_it c18 h
        refine r_aload_n X 0 rfl dL_next_47 48 rfl ?_
        refine r_iload X 6 rfl dL_next_48 50 rfl ?_
        refine r_bipush (v := 62) X rfl dL_next_50 52 rfl ?_
        obtain ⟨x23, e23, h⟩ := z_bd h
        refine r_callS (rest := []) X (tL_has hl G b a0 ha0 x9 62 M e23) zy_L_has zs_L_has km_L_23 rfl ⟨rfl, rfl⟩ ⟨rfl, rfl⟩ rfl rfl (Nat.le_of_ble_eq_true rfl) ⟨Nat.zero_le _, Nat.zero_le _⟩ dL_next_52 55 rfl [.int x23] rfl ?_
        refine r_if_eq X dL_next_55 62 (by decide) 58 rfl (fun c24 => ?_) (fun c24 => ?_)
        · have h := z_it c24 h
          refine r_iconst (v := 0) X rfl dL_next_62 63 rfl ?_
          cases h
          exact hJ19
        · have h := z_ie c24 h
          refine r_iconst (v := 1) X rfl dL_next_58 59 rfl ?_
          refine r_goto X dL_next_59 63 (by decide) ?_
          cases h
          exact hJ19
set_option maxRecDepth 100000 in
set_option maxHeartbeats 1000000 in
theorem tL_slot {l : Launch} (hl : l.stackTraces = false) (G : zG) (b : Nat) (a0 : Nat) (ha0 : z_kd a0 = 8) (hna0 : z_ln a0 = 32) (a1 : Int32) (M : zM) {r9 : Int32} (h : fL_slot a0 a1 M = some r9) : z_MN l yL_slot cL_slot 3 (some .int) { frames := 0, cells := 0, slots := 0, locals := 0 } G b [.ref (b + a0), .int a1] M (some (.int r9)) M := by
  refine z_met (own := RL) hl (by decide) rfl rfl (fun Γ hΓ X R => ?_)
  subst hΓ
  show GW Γ G b 0 0 M 0 [(0, .ref (b + a0)), (1, .int a1)] []
  unfold fL_slot at h
  refine r_iconst (v := 0) X rfl dL_slot_0 1 rfl ?_
  refine r_istore_n X dL_slot_1 2 rfl [(0, .ref (b + a0)), (1, .int a1), (2, .int 0)] (by decide) [1, 2, 0] rfl ?_
  obtain ⟨z2, hL2, h⟩ := z_bd h
  have hK2 : z2 = .inl () → GW Γ G b 0 0 M 27 [] [] := by
    intro e
    subst e
    have h := z_scl h
    refine r_iconst (v := (-1)) X rfl dL_slot_27 28 rfl ?_
    cases h
    exact r_iret X R rfl dL_slot_28
  have hR2 : ∀ u9, z2 = .inr u9 → some u9 = some r9 := by
    intro u9 e
    subst e
    exact z_scr h
  clear h
  refine z_loopP (fun (s : Int32) => GW Γ G b 0 0 M 2 [(0, .ref (b + a0)), (1, .int a1), (2, .int s)] []) (fun s q2 hb hP2 hx2 => ?_) _ _ hL2
  obtain ⟨x1, rfl⟩ : ∃ y, y = s := ⟨s, rfl⟩
  have h : fL_slot_L1 a0 a1 M x1 = some q2 := hb
  unfold fL_slot_L1 at h
  refine r_iload_n X 2 rfl dL_slot_2 3 rfl ?_
  refine r_iconst (v := 4) X rfl dL_slot_3 4 rfl ?_
  refine r_icmp_ge X dL_slot_4 27 (by decide) 7 rfl (fun c3 => ?_) (fun c3 => ?_)
  · have h := z_it c3 h
    refine r_sub [] [] rfl ?_
    exact hK2  (hx2 _ (Option.some.inj h).symm).symm
  · have h := z_ie c3 h
    refine r_aload_n X 0 rfl dL_slot_7 8 rfl ?_
    refine r_bipush (v := 12) X rfl dL_slot_8 10 rfl ?_
    refine r_iload_n X 2 rfl dL_slot_10 11 rfl ?_
    refine r_iadd X dL_slot_11 12 rfl ?_
    obtain ⟨x4, e4, h⟩ := z_bd h
    refine r_iaload X ha0 hna0 e4 dL_slot_12 13 rfl ?_
    refine r_iload_n X 1 rfl dL_slot_13 14 rfl ?_
    refine r_iconst (v := 1) X rfl dL_slot_14 15 rfl ?_
    refine r_iadd X dL_slot_15 16 rfl ?_
    refine r_icmp_ne X dL_slot_16 21 (by decide) 19 rfl (fun c5 => ?_) (fun c5 => ?_)
    · have h := z_ie c5 h
      refine r_iinc X dL_slot_21 24 rfl [(0, .ref (b + a0)), (1, .int a1), (2, .int (x1 + 1))] (by decide) 2 rfl (x1 + 1) rfl [1, 2, 0] rfl ?_
      refine r_goto X dL_slot_24 2 (by decide) ?_
      exact hP2 (x1 + 1) (Option.some.inj h).symm
    · have h := z_it c5 h
      refine r_iload_n X 2 rfl dL_slot_19 20 rfl ?_
      have h := hR2 _ (hx2 _ (Option.some.inj h).symm).symm
      cases h
      exact r_iret X R rfl dL_slot_20
set_option maxRecDepth 100000 in
set_option maxHeartbeats 1000000 in
theorem tL_isOrigin {l : Launch} (hl : l.stackTraces = false) (G : zG) (b : Nat) (a0 : Nat) (ha0 : z_kd a0 = 8) (hna0 : z_ln a0 = 32) (a1 : Int32) (M : zM) {r9 : Int32} (h : fL_isOrigin a0 a1 M = some r9) : z_MN l yL_isOrigin cL_isOrigin 4 (some .boolean) { frames := 0, cells := 0, slots := 0, locals := 0 } G b [.ref (b + a0), .int a1] M (some (.int r9)) M := by
  refine z_met (own := RL) hl (by decide) rfl rfl (fun Γ hΓ X R => ?_)
  subst hΓ
  show GW Γ G b 0 0 M 0 [(0, .ref (b + a0)), (1, .int a1)] []
  unfold fL_isOrigin at h
  refine r_iconst (v := 0) X rfl dL_isOrigin_0 1 rfl ?_
  refine r_istore_n X dL_isOrigin_1 2 rfl [(0, .ref (b + a0)), (1, .int a1), (2, .int 0)] (by decide) [1, 2, 0] rfl ?_
  refine r_iconst (v := 0) X rfl dL_isOrigin_2 3 rfl ?_
  refine r_istore_n X dL_isOrigin_3 4 rfl [(0, .ref (b + a0)), (1, .int a1), (2, .int 0), (3, .int 0)] (by decide) [1, 2, 3, 0] rfl ?_
  obtain ⟨x3, hL4, h⟩ := z_bd h
  have hK4 : GW Γ G b 0 0 M 49 [(2, .int x3)] [] := by
    refine r_iload_n X 0 rfl dL_isOrigin_49 50 rfl ?_
    obtain ⟨hz, h⟩ := z_bz_of h
    cases h
    exact r_iret X R hz dL_isOrigin_50
  clear h
  refine z_loopP (fun (s : (Int32 × Int32)) => GW Γ G b 0 0 M 4 [(0, .ref (b + a0)), (1, .int a1), (2, .int s.1), (3, .int s.2)] []) (fun s q4 hb hP4 hx4 => ?_) _ _ hL4
  obtain ⟨x1, x2⟩ := s
  have h : fL_isOrigin_L1 a0 a1 M x1 x2 = some q4 := hb
  unfold fL_isOrigin_L1 at h
  refine r_iload_n X 3 rfl dL_isOrigin_4 5 rfl ?_
  refine r_iconst (v := 3) X rfl dL_isOrigin_5 6 rfl ?_
  refine r_icmp_ge X dL_isOrigin_6 49 (by decide) 9 rfl (fun c5 => ?_) (fun c5 => ?_)
  · have h := z_it c5 h
    refine r_sub [(2, .int x1)] [2] rfl ?_
    have e := hx4 _ (Option.some.inj h).symm
    cases e
    exact hK4
  · have h := z_ie c5 h
    refine r_iload_n X 2 rfl dL_isOrigin_9 10 rfl ?_
    refine r_if_ne X dL_isOrigin_10 37 (by decide) 13 rfl (fun c6 => ?_) (fun c6 => ?_)
    · have h := z_ie c6 h
      refine r_iconst (v := 1) X rfl dL_isOrigin_37 38 rfl ?_
      refine r_goto X dL_isOrigin_38 42 (by decide) ?_
      refine r_istore_n X dL_isOrigin_42 43 rfl [(0, .ref (b + a0)), (1, .int a1), (2, .int 1), (3, .int x2)] (by decide) [1, 2, 0, 3] rfl ?_
      refine r_iinc X dL_isOrigin_43 46 rfl [(0, .ref (b + a0)), (1, .int a1), (2, .int 1), (3, .int (x2 + 1))] (by decide) 3 rfl (x2 + 1) rfl [1, 2, 3, 0] rfl ?_
      refine r_goto X dL_isOrigin_46 4 (by decide) ?_
      exact hP4 (1, (x2 + 1)) (Option.some.inj h).symm
    · have h := z_it c6 h
      refine r_aload_n X 0 rfl dL_isOrigin_13 14 rfl ?_
      refine r_iconst (v := 4) X rfl dL_isOrigin_14 15 rfl ?_
      refine r_iload_n X 3 rfl dL_isOrigin_15 16 rfl ?_
      refine r_iadd X dL_isOrigin_16 17 rfl ?_
      obtain ⟨x7, e7, h⟩ := z_bd h
      refine r_iaload X ha0 hna0 e7 dL_isOrigin_17 18 rfl ?_
      refine r_iconst (v := 1) X rfl dL_isOrigin_18 19 rfl ?_
      refine r_icmp_ne X dL_isOrigin_19 41 (by decide) 22 rfl (fun c8 => ?_) (fun c8 => ?_)
      · have h := z_ie c8 h
        refine r_iconst (v := 0) X rfl dL_isOrigin_41 42 rfl ?_
        refine r_istore_n X dL_isOrigin_42 43 rfl [(0, .ref (b + a0)), (1, .int a1), (2, .int 0), (3, .int x2)] (by decide) [1, 2, 0, 3] rfl ?_
        refine r_iinc X dL_isOrigin_43 46 rfl [(0, .ref (b + a0)), (1, .int a1), (2, .int 0), (3, .int (x2 + 1))] (by decide) 3 rfl (x2 + 1) rfl [1, 2, 3, 0] rfl ?_
        refine r_goto X dL_isOrigin_46 4 (by decide) ?_
        exact hP4 (0, (x2 + 1)) (Option.some.inj h).symm
      · have h := z_it c8 h
        refine r_aload_n X 0 rfl dL_isOrigin_22 23 rfl ?_
        refine r_bipush (v := 8) X rfl dL_isOrigin_23 25 rfl ?_
        refine r_iload_n X 3 rfl dL_isOrigin_25 26 rfl ?_
        refine r_iadd X dL_isOrigin_26 27 rfl ?_
        obtain ⟨x9, e9, h⟩ := z_bd h
        refine r_iaload X ha0 hna0 e9 dL_isOrigin_27 28 rfl ?_
        refine r_aload_n X 0 rfl dL_isOrigin_28 29 rfl ?_
        refine r_bipush (v := 12) X rfl dL_isOrigin_29 31 rfl ?_
        refine r_iload_n X 1 rfl dL_isOrigin_31 32 rfl ?_
        refine r_iadd X dL_isOrigin_32 33 rfl ?_
        obtain ⟨x10, e10, h⟩ := z_bd h
        refine r_iaload X ha0 hna0 e10 dL_isOrigin_33 34 rfl ?_
        refine r_icmp_ne X dL_isOrigin_34 41 (by decide) 37 rfl (fun c11 => ?_) (fun c11 => ?_)
        · have h := z_ie c11 h
          refine r_iconst (v := 0) X rfl dL_isOrigin_41 42 rfl ?_
          refine r_istore_n X dL_isOrigin_42 43 rfl [(0, .ref (b + a0)), (1, .int a1), (2, .int 0), (3, .int x2)] (by decide) [1, 2, 0, 3] rfl ?_
          refine r_iinc X dL_isOrigin_43 46 rfl [(0, .ref (b + a0)), (1, .int a1), (2, .int 0), (3, .int (x2 + 1))] (by decide) 3 rfl (x2 + 1) rfl [1, 2, 3, 0] rfl ?_
          refine r_goto X dL_isOrigin_46 4 (by decide) ?_
          exact hP4 (0, (x2 + 1)) (Option.some.inj h).symm
        · have h := z_it c11 h
          refine r_iconst (v := 1) X rfl dL_isOrigin_37 38 rfl ?_
          refine r_goto X dL_isOrigin_38 42 (by decide) ?_
          refine r_istore_n X dL_isOrigin_42 43 rfl [(0, .ref (b + a0)), (1, .int a1), (2, .int 1), (3, .int x2)] (by decide) [1, 2, 0, 3] rfl ?_
          refine r_iinc X dL_isOrigin_43 46 rfl [(0, .ref (b + a0)), (1, .int a1), (2, .int 1), (3, .int (x2 + 1))] (by decide) 3 rfl (x2 + 1) rfl [1, 2, 3, 0] rfl ?_
          refine r_goto X dL_isOrigin_46 4 (by decide) ?_
          exact hP4 (1, (x2 + 1)) (Option.some.inj h).symm
set_option maxRecDepth 100000 in
set_option maxHeartbeats 1000000 in
theorem tL_drop {l : Launch} (hl : l.stackTraces = false) (G : zG) (b : Nat) (a0 : Nat) (ha0 : z_kd a0 = 8) (hna0 : z_ln a0 = 28) (a1 : Nat) (ha1 : z_kd a1 = 8) (hna1 : z_ln a1 = 32) (a2 : Int32) (M : zM) {M9 : zM} (h : fL_drop a0 a1 a2 M = some M9) : z_MN l yL_drop cL_drop 4 none { frames := 0, cells := 0, slots := 0, locals := 0 } G b [.ref (b + a0), .ref (b + a1), .int a2] M none M9 := by
  refine z_met (own := RL) hl (by decide) rfl rfl (fun Γ hΓ X R => ?_)
  subst hΓ
  show GW Γ G b 0 0 M 0 [(0, .ref (b + a0)), (1, .ref (b + a1)), (2, .int a2)] []
  unfold fL_drop at h
  refine r_aload_n X 1 rfl dL_drop_0 1 rfl ?_
  refine r_bipush (v := 12) X rfl dL_drop_1 3 rfl ?_
  refine r_iload_n X 2 rfl dL_drop_3 4 rfl ?_
  refine r_iadd X dL_drop_4 5 rfl ?_
  refine r_iconst (v := 0) X rfl dL_drop_5 6 rfl ?_
  obtain ⟨M1, e1, h⟩ := z_bd h
  refine r_iastore X ha1 hna1 e1 dL_drop_6 7 rfl ?_
  refine r_iconst (v := 0) X rfl dL_drop_7 8 rfl ?_
  refine r_istore_n X dL_drop_8 9 rfl [(0, .ref (b + a0)), (2, .int a2), (3, .int 0)] (by decide) [1, 3, 0] rfl ?_
  obtain ⟨M4, hL5, h⟩ := z_bd h
  have hK5 : GW Γ G b 0 0 M4 31 [] [] := by
    cases h
    exact r_vret X R dL_drop_31
  clear h
  refine z_loopP (fun (s : (Int32 × zM)) => GW Γ G b 0 0 s.2 9 [(0, .ref (b + a0)), (2, .int a2), (3, .int s.1)] []) (fun s q5 hb hP5 hx5 => ?_) _ _ hL5
  obtain ⟨x2, M3⟩ := s
  have h : fL_drop_L1 a0 a2 x2 M3 = some q5 := hb
  unfold fL_drop_L1 at h
  refine r_iload_n X 2 rfl dL_drop_9 10 rfl ?_
  refine r_iconst (v := 4) X rfl dL_drop_10 11 rfl ?_
  refine r_icmp_ge X dL_drop_11 31 (by decide) 14 rfl (fun c6 => ?_) (fun c6 => ?_)
  · have h := z_it c6 h
    refine r_sub [] [] rfl ?_
    have e := hx5 _ (Option.some.inj h).symm
    cases e
    exact hK5
  · have h := z_ie c6 h
    refine r_aload_n X 0 rfl dL_drop_14 15 rfl ?_
    refine r_bipush (v := 12) X rfl dL_drop_15 17 rfl ?_
    refine r_iconst (v := 4) X rfl dL_drop_17 18 rfl ?_
    refine r_iload_n X 1 rfl dL_drop_18 19 rfl ?_
    refine r_imul X dL_drop_19 20 rfl ?_
    refine r_iadd X dL_drop_20 21 rfl ?_
    refine r_iload_n X 2 rfl dL_drop_21 22 rfl ?_
    refine r_iadd X dL_drop_22 23 rfl ?_
    refine r_iconst (v := 0) X rfl dL_drop_23 24 rfl ?_
    obtain ⟨M7, e7, h⟩ := z_bd h
    refine r_iastore X ha0 hna0 e7 dL_drop_24 25 rfl ?_
    refine r_iinc X dL_drop_25 28 rfl [(0, .ref (b + a0)), (2, .int a2), (3, .int (x2 + 1))] (by decide) 2 rfl (x2 + 1) rfl [1, 2, 0] rfl ?_
    refine r_goto X dL_drop_28 9 (by decide) ?_
    exact hP5 ((x2 + 1), M7) (Option.some.inj h).symm
set_option maxRecDepth 100000 in
set_option maxHeartbeats 1000000 in
theorem tL_numberAt {l : Launch} (hl : l.stackTraces = false) (G : zG) (b : Nat) (a0 : Nat) (ha0 : z_kd a0 = 8) (hna0 : z_ln a0 = 32) (a1 : Int32) (a2 : Int32) (M : zM) {r9 : Int32} (h : fL_numberAt a0 a1 a2 M = some r9) : z_MN l yL_numberAt cL_numberAt 7 (some .int) { frames := 1, cells := 0, slots := 0, locals := 22 } G b [.ref (b + a0), .int a1, .int a2] M (some (.int r9)) M := by
  refine z_met (own := RL) hl (by decide) rfl rfl (fun Γ hΓ X R => ?_)
  subst hΓ
  show GW Γ G b 0 0 M 0 [(0, .ref (b + a0)), (1, .int a1), (2, .int a2)] []
  unfold fL_numberAt at h
  refine r_iload_n X 2 rfl dL_numberAt_0 1 rfl ?_
  refine r_istore_n X dL_numberAt_1 2 rfl [(0, .ref (b + a0)), (1, .int a1), (3, .int a2)] (by decide) [1, 2, 0] rfl ?_
  refine r_iconst (v := 0) X rfl dL_numberAt_2 3 rfl ?_
  refine r_istore X dL_numberAt_3 5 rfl [(0, .ref (b + a0)), (1, .int a1), (3, .int a2), (4, .int 0)] (by decide) [1, 2, 3, 0] rfl ?_
  obtain ⟨z3, hL3, h⟩ := z_bd h
  have hK3 : z3 = .inl () → GW Γ G b 0 0 M 75 [] [] := by
    intro e
    subst e
    have h := z_scl h
    refine r_iconst (v := (-1)) X rfl dL_numberAt_75 76 rfl ?_
    cases h
    exact r_iret X R rfl dL_numberAt_76
  have hR3 : ∀ u9, z3 = .inr u9 → some u9 = some r9 := by
    intro u9 e
    subst e
    exact z_scr h
  clear h
  refine z_loopP (fun (s : (Int32 × Int32)) => GW Γ G b 0 0 M 5 [(0, .ref (b + a0)), (1, .int a1), (3, .int s.1), (4, .int s.2)] []) (fun s q3 hb hP3 hx3 => ?_) _ _ hL3
  obtain ⟨x1, x2⟩ := s
  have h : fL_numberAt_L1 a0 a1 M x1 x2 = some q3 := hb
  unfold fL_numberAt_L1 at h
  refine r_iload X 3 rfl dL_numberAt_5 7 rfl ?_
  refine r_aload_n X 0 rfl dL_numberAt_7 8 rfl ?_
  refine r_iconst (v := 1) X rfl dL_numberAt_8 9 rfl ?_
  obtain ⟨x4, e4, h⟩ := z_bd h
  refine r_iaload X ha0 hna0 e4 dL_numberAt_9 10 rfl ?_
  refine r_icmp_ge X dL_numberAt_10 75 (by decide) 13 rfl (fun c5 => ?_) (fun c5 => ?_)
  · have h := z_it c5 h
    refine r_sub [] [] rfl ?_
    exact hK3  (hx3 _ (Option.some.inj h).symm).symm
  · have h := z_ie c5 h
    refine r_aload_n X 0 rfl dL_numberAt_13 14 rfl ?_
    refine r_iload X 3 rfl dL_numberAt_14 16 rfl ?_
    obtain ⟨x6, e6, h⟩ := z_bd h
    refine r_callS (rest := []) X (tL_slot hl G b a0 ha0 hna0 x2 M e6) zy_L_slot zs_L_slot km_L_35 rfl ⟨rfl, rfl⟩ ⟨rfl, rfl⟩ rfl rfl (Nat.le_of_ble_eq_true rfl) ⟨Nat.zero_le _, Nat.zero_le _⟩ dL_numberAt_16 19 rfl [.int x6] rfl ?_
    refine r_istore X dL_numberAt_19 21 rfl [(0, .ref (b + a0)), (1, .int a1), (3, .int x1), (4, .int x2), (5, .int x6)] (by decide) [1, 2, 3, 4, 0] rfl ?_
    refine r_iload X 4 rfl dL_numberAt_21 23 rfl ?_
    obtain ⟨j8, hT8, h⟩ := z_bd h
    have hJ8 : GW Γ G b 0 0 M 42 [(0, .ref (b + a0)), (1, .int a1), (3, .int x1), (4, .int x2)] [.int j8] := by
      refine r_istore X dL_numberAt_42 44 rfl [(0, .ref (b + a0)), (1, .int a1), (3, .int x1), (4, .int x2), (6, .int j8)] (by decide) [1, 2, 3, 4, 0] rfl ?_
      refine r_iload X 4 rfl dL_numberAt_44 46 rfl ?_
      refine r_if_eq X dL_numberAt_46 56 (by decide) 49 rfl (fun c9 => ?_) (fun c9 => ?_)
      · have h := z_it c9 h
        refine r_iload_n X 2 rfl dL_numberAt_56 57 rfl ?_
        refine r_iload X 4 rfl dL_numberAt_57 59 rfl ?_
        refine r_if_eq X dL_numberAt_59 66 (by decide) 62 rfl (fun c10 => ?_) (fun c10 => ?_)
        · have h := z_it c10 h
          refine r_iconst (v := 0) X rfl dL_numberAt_66 67 rfl ?_
          refine r_isub X dL_numberAt_67 68 rfl ?_
          refine r_istore_n X dL_numberAt_68 69 rfl [(0, .ref (b + a0)), (1, .int a1), (3, .int (x1 - 0)), (4, .int x2)] (by decide) [1, 2, 0, 3] rfl ?_
          refine r_iinc X dL_numberAt_69 72 rfl [(0, .ref (b + a0)), (1, .int a1), (3, .int (x1 - 0)), (4, .int (x2 + 1))] (by decide) 3 rfl (x2 + 1) rfl [1, 2, 3, 0] rfl ?_
          refine r_goto X dL_numberAt_72 5 (by decide) ?_
          exact hP3 ((x1 - 0), (x2 + 1)) (Option.some.inj h).symm
        · have h := z_ie c10 h
          refine r_iconst (v := 1) X rfl dL_numberAt_62 63 rfl ?_
          refine r_goto X dL_numberAt_63 67 (by decide) ?_
          refine r_isub X dL_numberAt_67 68 rfl ?_
          refine r_istore_n X dL_numberAt_68 69 rfl [(0, .ref (b + a0)), (1, .int a1), (3, .int (x1 - 1)), (4, .int x2)] (by decide) [1, 2, 0, 3] rfl ?_
          refine r_iinc X dL_numberAt_69 72 rfl [(0, .ref (b + a0)), (1, .int a1), (3, .int (x1 - 1)), (4, .int (x2 + 1))] (by decide) 3 rfl (x2 + 1) rfl [1, 2, 3, 0] rfl ?_
          refine r_goto X dL_numberAt_72 5 (by decide) ?_
          exact hP3 ((x1 - 1), (x2 + 1)) (Option.some.inj h).symm
      · have h := z_ie c9 h
        refine r_iload_n X 2 rfl dL_numberAt_49 50 rfl ?_
        refine r_if_ne X dL_numberAt_50 56 (by decide) 53 rfl (fun c11 => ?_) (fun c11 => ?_)
        · have h := z_ie c11 h
          refine r_iload_n X 2 rfl dL_numberAt_56 57 rfl ?_
          refine r_iload X 4 rfl dL_numberAt_57 59 rfl ?_
          refine r_if_eq X dL_numberAt_59 66 (by decide) 62 rfl (fun c12 => ?_) (fun c12 => ?_)
          · have h := z_it c12 h
            refine r_iconst (v := 0) X rfl dL_numberAt_66 67 rfl ?_
            refine r_isub X dL_numberAt_67 68 rfl ?_
            refine r_istore_n X dL_numberAt_68 69 rfl [(0, .ref (b + a0)), (1, .int a1), (3, .int (x1 - 0)), (4, .int x2)] (by decide) [1, 2, 0, 3] rfl ?_
            refine r_iinc X dL_numberAt_69 72 rfl [(0, .ref (b + a0)), (1, .int a1), (3, .int (x1 - 0)), (4, .int (x2 + 1))] (by decide) 3 rfl (x2 + 1) rfl [1, 2, 3, 0] rfl ?_
            refine r_goto X dL_numberAt_72 5 (by decide) ?_
            exact hP3 ((x1 - 0), (x2 + 1)) (Option.some.inj h).symm
          · have h := z_ie c12 h
            refine r_iconst (v := 1) X rfl dL_numberAt_62 63 rfl ?_
            refine r_goto X dL_numberAt_63 67 (by decide) ?_
            refine r_isub X dL_numberAt_67 68 rfl ?_
            refine r_istore_n X dL_numberAt_68 69 rfl [(0, .ref (b + a0)), (1, .int a1), (3, .int (x1 - 1)), (4, .int x2)] (by decide) [1, 2, 0, 3] rfl ?_
            refine r_iinc X dL_numberAt_69 72 rfl [(0, .ref (b + a0)), (1, .int a1), (3, .int (x1 - 1)), (4, .int (x2 + 1))] (by decide) 3 rfl (x2 + 1) rfl [1, 2, 3, 0] rfl ?_
            refine r_goto X dL_numberAt_72 5 (by decide) ?_
            exact hP3 ((x1 - 1), (x2 + 1)) (Option.some.inj h).symm
        · have h := z_it c11 h
          refine r_iload X 3 rfl dL_numberAt_53 55 rfl ?_
          have h := hR3 _ (hx3 _ (Option.some.inj h).symm).symm
          cases h
          exact r_iret X R rfl dL_numberAt_55
    have h := hT8
    refine r_if_lt X dL_numberAt_23 41 (by decide) 26 rfl (fun c7 => ?_) (fun c7 => ?_)
    · have h := z_it c7 h
      refine r_iconst (v := 0) X rfl dL_numberAt_41 42 rfl ?_
      refine r_sub [(0, .ref (b + a0)), (1, .int a1), (3, .int x1), (4, .int x2)] [0, 1, 2, 3] rfl ?_
      cases h
      exact hJ8
    · have h := z_ie c7 h
      refine r_aload_n X 0 rfl dL_numberAt_26 27 rfl ?_
      refine r_bipush (v := 16) X rfl dL_numberAt_27 29 rfl ?_
      refine r_iload X 4 rfl dL_numberAt_29 31 rfl ?_
      refine r_iadd X dL_numberAt_31 32 rfl ?_
      obtain ⟨x13, e13, h⟩ := z_bd h
      refine r_iaload X ha0 hna0 e13 dL_numberAt_32 33 rfl ?_
      refine r_iload_n X 1 rfl dL_numberAt_33 34 rfl ?_
      refine r_icmp_ne X dL_numberAt_34 41 (by decide) 37 rfl (fun c14 => ?_) (fun c14 => ?_)
      · have h := z_ie c14 h
        refine r_iconst (v := 0) X rfl dL_numberAt_41 42 rfl ?_
        refine r_sub [(0, .ref (b + a0)), (1, .int a1), (3, .int x1), (4, .int x2)] [0, 1, 2, 3] rfl ?_
        cases h
        exact hJ8
      · have h := z_it c14 h
        refine r_iconst (v := 1) X rfl dL_numberAt_37 38 rfl ?_
        refine r_goto X dL_numberAt_38 42 (by decide) ?_
        refine r_sub [(0, .ref (b + a0)), (1, .int a1), (3, .int x1), (4, .int x2)] [0, 1, 2, 3] rfl ?_
        cases h
        exact hJ8
set_option maxRecDepth 100000 in
set_option maxHeartbeats 1000000 in
theorem tL_isKind {l : Launch} (hl : l.stackTraces = false) (G : zG) (b : Nat) (a0 : Nat) (ha0 : z_kd a0 = 10) (a1 : Int32) (a2 : Int32) (M : zM) {r9 : Int32} (h : fL_isKind a0 a1 a2 M = some r9) : z_MN l yL_isKind cL_isKind 3 (some .boolean) { frames := 1, cells := 0, slots := 0, locals := 22 } G b [.ref (b + a0), .int a1, .int a2] M (some (.int r9)) M := by
  refine z_met (own := RL) hl (by decide) rfl rfl (fun Γ hΓ X R => ?_)
  subst hΓ
  show GW Γ G b 0 0 M 0 [(0, .ref (b + a0)), (1, .int a1), (2, .int a2)] []
  unfold fL_isKind at h
  refine r_iload_n X 2 rfl dL_isKind_0 1 rfl ?_
  refine r_iconst (v := 2) X rfl dL_isKind_1 2 rfl ?_
  refine r_icmp_ne X dL_isKind_2 15 (by decide) 5 rfl (fun c1 => ?_) (fun c1 => ?_)
  · have h := z_ie c1 h
    refine r_iload_n X 2 rfl dL_isKind_15 16 rfl ?_
    refine r_iconst (v := 1) X rfl dL_isKind_16 17 rfl ?_
    refine r_icmp_ne X dL_isKind_17 48 (by decide) 20 rfl (fun c3 => ?_) (fun c3 => ?_)
    · have h := z_ie c3 h
      refine r_aload_n X 0 rfl dL_isKind_48 49 rfl ?_
      refine r_iload_n X 1 rfl dL_isKind_49 50 rfl ?_
      refine r_bipush (v := 62) X rfl dL_isKind_50 52 rfl ?_
      obtain ⟨x8, e8, h⟩ := z_bd h
      refine r_callS (rest := []) X (tL_has hl G b a0 ha0 a1 62 M e8) zy_L_has zs_L_has km_L_23 rfl ⟨rfl, rfl⟩ ⟨rfl, rfl⟩ rfl rfl (Nat.le_of_ble_eq_true rfl) ⟨Nat.zero_le _, Nat.zero_le _⟩ dL_isKind_52 55 rfl [.int x8] rfl ?_
      refine r_if_ne X dL_isKind_55 72 (by decide) 58 rfl (fun c9 => ?_) (fun c9 => ?_)
      · have h := z_ie c9 h
        refine r_iconst (v := 0) X rfl dL_isKind_72 73 rfl ?_
        cases h
        exact r_iret X R rfl dL_isKind_73
      · have h := z_it c9 h
        refine r_aload_n X 0 rfl dL_isKind_58 59 rfl ?_
        refine r_iload_n X 1 rfl dL_isKind_59 60 rfl ?_
        refine r_bipush (v := 61) X rfl dL_isKind_60 62 rfl ?_
        obtain ⟨x10, e10, h⟩ := z_bd h
        refine r_callS (rest := []) X (tL_has hl G b a0 ha0 a1 61 M e10) zy_L_has zs_L_has km_L_23 rfl ⟨rfl, rfl⟩ ⟨rfl, rfl⟩ rfl rfl (Nat.le_of_ble_eq_true rfl) ⟨Nat.zero_le _, Nat.zero_le _⟩ dL_isKind_62 65 rfl [.int x10] rfl ?_
        refine r_if_eq X dL_isKind_65 72 (by decide) 68 rfl (fun c11 => ?_) (fun c11 => ?_)
        · have h := z_it c11 h
          refine r_iconst (v := 0) X rfl dL_isKind_72 73 rfl ?_
          cases h
          exact r_iret X R rfl dL_isKind_73
        · have h := z_ie c11 h
          refine r_iconst (v := 1) X rfl dL_isKind_68 69 rfl ?_
          refine r_goto X dL_isKind_69 73 (by decide) ?_
          cases h
          exact r_iret X R rfl dL_isKind_73
    · have h := z_it c3 h
      refine r_aload_n X 0 rfl dL_isKind_20 21 rfl ?_
      refine r_iload_n X 1 rfl dL_isKind_21 22 rfl ?_
      refine r_bipush (v := 62) X rfl dL_isKind_22 24 rfl ?_
      obtain ⟨x4, e4, h⟩ := z_bd h
      refine r_callS (rest := []) X (tL_has hl G b a0 ha0 a1 62 M e4) zy_L_has zs_L_has km_L_23 rfl ⟨rfl, rfl⟩ ⟨rfl, rfl⟩ rfl rfl (Nat.le_of_ble_eq_true rfl) ⟨Nat.zero_le _, Nat.zero_le _⟩ dL_isKind_24 27 rfl [.int x4] rfl ?_
      refine r_if_eq X dL_isKind_27 44 (by decide) 30 rfl (fun c5 => ?_) (fun c5 => ?_)
      · have h := z_it c5 h
        refine r_iconst (v := 0) X rfl dL_isKind_44 45 rfl ?_
        refine r_goto X dL_isKind_45 73 (by decide) ?_
        cases h
        exact r_iret X R rfl dL_isKind_73
      · have h := z_ie c5 h
        refine r_aload_n X 0 rfl dL_isKind_30 31 rfl ?_
        refine r_iload_n X 1 rfl dL_isKind_31 32 rfl ?_
        refine r_bipush (v := 61) X rfl dL_isKind_32 34 rfl ?_
        obtain ⟨x6, e6, h⟩ := z_bd h
        refine r_callS (rest := []) X (tL_has hl G b a0 ha0 a1 61 M e6) zy_L_has zs_L_has km_L_23 rfl ⟨rfl, rfl⟩ ⟨rfl, rfl⟩ rfl rfl (Nat.le_of_ble_eq_true rfl) ⟨Nat.zero_le _, Nat.zero_le _⟩ dL_isKind_34 37 rfl [.int x6] rfl ?_
        refine r_if_ne X dL_isKind_37 44 (by decide) 40 rfl (fun c7 => ?_) (fun c7 => ?_)
        · have h := z_ie c7 h
          refine r_iconst (v := 0) X rfl dL_isKind_44 45 rfl ?_
          refine r_goto X dL_isKind_45 73 (by decide) ?_
          cases h
          exact r_iret X R rfl dL_isKind_73
        · have h := z_it c7 h
          refine r_iconst (v := 1) X rfl dL_isKind_40 41 rfl ?_
          refine r_goto X dL_isKind_41 73 (by decide) ?_
          cases h
          exact r_iret X R rfl dL_isKind_73
  · have h := z_it c1 h
    refine r_aload_n X 0 rfl dL_isKind_5 6 rfl ?_
    refine r_iload_n X 1 rfl dL_isKind_6 7 rfl ?_
    refine r_bipush (v := 62) X rfl dL_isKind_7 9 rfl ?_
    obtain ⟨x2, e2, h⟩ := z_bd h
    refine r_callS (rest := []) X (tL_has hl G b a0 ha0 a1 62 M e2) zy_L_has zs_L_has km_L_23 rfl ⟨rfl, rfl⟩ ⟨rfl, rfl⟩ rfl rfl (Nat.le_of_ble_eq_true rfl) ⟨Nat.zero_le _, Nat.zero_le _⟩ dL_isKind_9 12 rfl [.int x2] rfl ?_
    refine r_goto X dL_isKind_12 73 (by decide) ?_
    obtain ⟨hz, h⟩ := z_bz_of h
    cases h
    exact r_iret X R hz dL_isKind_73
set_option maxRecDepth 100000 in
set_option maxHeartbeats 1000000 in
theorem tL_runs {l : Launch} (hl : l.stackTraces = false) (G : zG) (b : Nat) (a0 : Nat) (ha0 : z_kd a0 = 6) (a1 : Nat) (ha1 : z_kd a1 = 10) (a2 : Int32) (a3 : Int32) (a4 : Int32) (M : zM) {r9 : Int32} (h : fL_runs a0 a1 a2 a3 a4 M = some r9) : z_MN l yL_runs cL_runs 9 (some .int) { frames := 9, cells := 0, slots := 0, locals := 157 } G b [.ref (b + a0), .ref (b + a1), .int a2, .int a3, .int a4] M (some (.int r9)) M := by
  refine z_met (own := RL) hl (by decide) rfl rfl (fun Γ hΓ X R => ?_)
  subst hΓ
  show GW Γ G b 0 0 M 0 [(0, .ref (b + a0)), (1, .ref (b + a1)), (2, .int a2), (3, .int a3), (4, .int a4)] []
  unfold fL_runs at h
  refine r_iconst (v := 0) X rfl dL_runs_0 1 rfl ?_
  refine r_istore X dL_runs_1 3 rfl [(0, .ref (b + a0)), (1, .ref (b + a1)), (2, .int a2), (3, .int a3), (4, .int a4), (5, .int 0)] (by decide) [1, 2, 3, 4, 5, 0] rfl ?_
  refine r_bipush (v := 16) X rfl dL_runs_3 5 rfl ?_
  refine r_iload_n X 2 rfl dL_runs_5 6 rfl ?_
  refine r_imul X dL_runs_6 7 rfl ?_
  refine r_istore X dL_runs_7 9 rfl [(0, .ref (b + a0)), (1, .ref (b + a1)), (2, .int a2), (3, .int a3), (4, .int a4), (5, .int 0), (6, .int (16 * a2))] (by decide) [1, 2, 3, 4, 5, 6, 0] rfl ?_
  obtain ⟨z3, hL3, h⟩ := z_bd h
  have hK3 : z3 = .inl () → GW Γ G b 0 0 M 156 [] [] := by
    intro e
    subst e
    have h := z_scl h
    refine r_bipush (v := (-99)) X rfl dL_runs_156 158 rfl ?_
    cases h
    exact r_iret X R rfl dL_runs_158
  have hR3 : ∀ u9, z3 = .inr u9 → some u9 = some r9 := by
    intro u9 e
    subst e
    exact z_scr h
  clear h
  refine z_loopP (fun (s : (Int32 × Int32)) => GW Γ G b 0 0 M 9 [(0, .ref (b + a0)), (1, .ref (b + a1)), (2, .int a2), (3, .int a3), (4, .int a4), (5, .int s.1), (6, .int s.2)] []) (fun s q3 hb hP3 hx3 => ?_) _ _ hL3
  obtain ⟨x1, x2⟩ := s
  have h : fL_runs_L1 a0 a1 a2 a3 a4 M x1 x2 = some q3 := hb
  unfold fL_runs_L1 at h
  refine r_iload X 6 rfl dL_runs_9 11 rfl ?_
  refine r_bipush (v := 16) X rfl dL_runs_11 13 rfl ?_
  refine r_iload_n X 2 rfl dL_runs_13 14 rfl ?_
  refine r_imul X dL_runs_14 15 rfl ?_
  refine r_bipush (v := 16) X rfl dL_runs_15 17 rfl ?_
  refine r_iadd X dL_runs_17 18 rfl ?_
  refine r_icmp_ge X dL_runs_18 180 (by decide) 21 rfl (fun c4 => ?_) (fun c4 => ?_)
  · have h := z_it c4 h
    refine r_iload X 5 rfl dL_runs_180 182 rfl ?_
    have h := hR3 _ (hx3 _ (Option.some.inj h).symm).symm
    cases h
    exact r_iret X R rfl dL_runs_182
  · have h := z_ie c4 h
    refine r_aload_n X 1 rfl dL_runs_21 22 rfl ?_
    refine r_iload X 6 rfl dL_runs_22 24 rfl ?_
    refine r_iload_n X 3 rfl dL_runs_24 25 rfl ?_
    obtain ⟨x5, e5, h⟩ := z_bd h
    refine r_callS (rest := []) X (tL_isKind hl G b a1 ha1 x2 a3 M e5) zy_L_isKind zs_L_isKind km_L_39 rfl ⟨rfl, rfl⟩ ⟨rfl, rfl⟩ rfl rfl (Nat.le_of_ble_eq_true rfl) ⟨Nat.zero_le _, Nat.zero_le _⟩ dL_runs_25 28 rfl [.int x5] rfl ?_
    obtain ⟨j7, hT7, h⟩ := z_bd h
    have hJ7 : GW Γ G b 0 0 M 56 [(0, .ref (b + a0)), (1, .ref (b + a1)), (2, .int a2), (3, .int a3), (4, .int a4), (5, .int x1), (6, .int x2)] [.int j7] := by
      refine r_istore X dL_runs_56 58 rfl [(0, .ref (b + a0)), (1, .ref (b + a1)), (2, .int a2), (3, .int a3), (4, .int a4), (5, .int x1), (6, .int x2), (7, .int j7)] (by decide) [1, 2, 3, 4, 5, 6, 7, 0] rfl ?_
      refine r_iconst (v := 0) X rfl dL_runs_58 59 rfl ?_
      refine r_istore X dL_runs_59 61 rfl [(0, .ref (b + a0)), (1, .ref (b + a1)), (2, .int a2), (3, .int a3), (4, .int a4), (5, .int x1), (6, .int x2), (7, .int j7), (8, .int 0)] (by decide) [1, 2, 3, 4, 5, 6, 7, 8, 0] rfl ?_
      obtain ⟨x9, hL10, h⟩ := z_bd h
      have hK10 : GW Γ G b 0 0 M 100 [(0, .ref (b + a0)), (1, .ref (b + a1)), (2, .int a2), (3, .int a3), (4, .int a4), (5, .int x1), (6, .int x2), (7, .int j7), (8, .int x9)] [] := by
        refine r_iload X 7 rfl dL_runs_100 102 rfl ?_
        refine r_if_eq X dL_runs_102 159 (by decide) 105 rfl (fun c11 => ?_) (fun c11 => ?_)
        · have h := z_it c11 h
          refine r_iload X 5 rfl dL_runs_159 161 rfl ?_
          refine r_iload X 7 rfl dL_runs_161 163 rfl ?_
          refine r_if_eq X dL_runs_163 170 (by decide) 166 rfl (fun c12 => ?_) (fun c12 => ?_)
          · have h := z_it c12 h
            refine r_iconst (v := 0) X rfl dL_runs_170 171 rfl ?_
            refine r_iadd X dL_runs_171 172 rfl ?_
            refine r_istore X dL_runs_172 174 rfl [(0, .ref (b + a0)), (1, .ref (b + a1)), (2, .int a2), (3, .int a3), (4, .int a4), (5, .int (x1 + 0)), (6, .int x2)] (by decide) [1, 2, 3, 4, 5, 0, 6] rfl ?_
            refine r_iinc X dL_runs_174 177 rfl [(0, .ref (b + a0)), (1, .ref (b + a1)), (2, .int a2), (3, .int a3), (4, .int a4), (5, .int (x1 + 0)), (6, .int (x2 + 1))] (by decide) 6 rfl (x2 + 1) rfl [1, 2, 3, 4, 5, 6, 0] rfl ?_
            refine r_goto X dL_runs_177 9 (by decide) ?_
            exact hP3 ((x1 + 0), (x2 + 1)) (Option.some.inj h).symm
          · have h := z_ie c12 h
            refine r_iconst (v := 1) X rfl dL_runs_166 167 rfl ?_
            refine r_goto X dL_runs_167 171 (by decide) ?_
            refine r_iadd X dL_runs_171 172 rfl ?_
            refine r_istore X dL_runs_172 174 rfl [(0, .ref (b + a0)), (1, .ref (b + a1)), (2, .int a2), (3, .int a3), (4, .int a4), (5, .int (x1 + 1)), (6, .int x2)] (by decide) [1, 2, 3, 4, 5, 0, 6] rfl ?_
            refine r_iinc X dL_runs_174 177 rfl [(0, .ref (b + a0)), (1, .ref (b + a1)), (2, .int a2), (3, .int a3), (4, .int a4), (5, .int (x1 + 1)), (6, .int (x2 + 1))] (by decide) 6 rfl (x2 + 1) rfl [1, 2, 3, 4, 5, 6, 0] rfl ?_
            refine r_goto X dL_runs_177 9 (by decide) ?_
            exact hP3 ((x1 + 1), (x2 + 1)) (Option.some.inj h).symm
        · have h := z_ie c11 h
          refine r_iload X 4 rfl dL_runs_105 107 rfl ?_
          refine r_if_lt X dL_runs_107 159 (by decide) 110 rfl (fun c13 => ?_) (fun c13 => ?_)
          · have h := z_it c13 h
            refine r_iload X 5 rfl dL_runs_159 161 rfl ?_
            refine r_iload X 7 rfl dL_runs_161 163 rfl ?_
            refine r_if_eq X dL_runs_163 170 (by decide) 166 rfl (fun c14 => ?_) (fun c14 => ?_)
            · have h := z_it c14 h
              refine r_iconst (v := 0) X rfl dL_runs_170 171 rfl ?_
              refine r_iadd X dL_runs_171 172 rfl ?_
              refine r_istore X dL_runs_172 174 rfl [(0, .ref (b + a0)), (1, .ref (b + a1)), (2, .int a2), (3, .int a3), (4, .int a4), (5, .int (x1 + 0)), (6, .int x2)] (by decide) [1, 2, 3, 4, 5, 0, 6] rfl ?_
              refine r_iinc X dL_runs_174 177 rfl [(0, .ref (b + a0)), (1, .ref (b + a1)), (2, .int a2), (3, .int a3), (4, .int a4), (5, .int (x1 + 0)), (6, .int (x2 + 1))] (by decide) 6 rfl (x2 + 1) rfl [1, 2, 3, 4, 5, 6, 0] rfl ?_
              refine r_goto X dL_runs_177 9 (by decide) ?_
              exact hP3 ((x1 + 0), (x2 + 1)) (Option.some.inj h).symm
            · have h := z_ie c14 h
              refine r_iconst (v := 1) X rfl dL_runs_166 167 rfl ?_
              refine r_goto X dL_runs_167 171 (by decide) ?_
              refine r_iadd X dL_runs_171 172 rfl ?_
              refine r_istore X dL_runs_172 174 rfl [(0, .ref (b + a0)), (1, .ref (b + a1)), (2, .int a2), (3, .int a3), (4, .int a4), (5, .int (x1 + 1)), (6, .int x2)] (by decide) [1, 2, 3, 4, 5, 0, 6] rfl ?_
              refine r_iinc X dL_runs_174 177 rfl [(0, .ref (b + a0)), (1, .ref (b + a1)), (2, .int a2), (3, .int a3), (4, .int a4), (5, .int (x1 + 1)), (6, .int (x2 + 1))] (by decide) 6 rfl (x2 + 1) rfl [1, 2, 3, 4, 5, 6, 0] rfl ?_
              refine r_goto X dL_runs_177 9 (by decide) ?_
              exact hP3 ((x1 + 1), (x2 + 1)) (Option.some.inj h).symm
          · have h := z_ie c13 h
            refine r_aload_n X 0 rfl dL_runs_110 111 rfl ?_
            refine r_iload_n X 2 rfl dL_runs_111 112 rfl ?_
            refine r_iload X 4 rfl dL_runs_112 114 rfl ?_
            refine r_iload X 5 rfl dL_runs_114 116 rfl ?_
            refine r_iadd X dL_runs_116 117 rfl ?_
            obtain ⟨x15, e15, h⟩ := z_bd h
            have e15 := z_nt_of e15
            refine r_callV (rest := []) X (z_MX_ret (tX6_runAt hl G b a0 ha0 a2 (a4 + x1) M (r9 := .inr x15) e15)) zy_X6_runAt zw_X6_runAt km_L_42 ha0 rfl zv_X6 rfl ⟨rfl, rfl⟩ ⟨rfl, rfl⟩ rfl rfl (Nat.le_of_ble_eq_true rfl) ⟨Nat.zero_le _, Nat.zero_le _⟩ dL_runs_117 120 rfl [.int x15] rfl ?_
            refine r_bipush (v := 100) X rfl dL_runs_120 122 rfl ?_
            refine r_iload X 6 rfl dL_runs_122 124 rfl ?_
            obtain ⟨x16, e16, h⟩ := z_bd h
            refine r_callS (rest := [.int 100, .int x15]) X (tL_block hl G b x2 M e16) zy_L_block zs_L_block km_L_13 rfl ⟨rfl, rfl⟩ ⟨rfl, rfl⟩ rfl rfl (Nat.le_of_ble_eq_true rfl) ⟨Nat.zero_le _, Nat.zero_le _⟩ dL_runs_124 127 rfl [.int x16, .int 100, .int x15] rfl ?_
            refine r_imul X dL_runs_127 128 rfl ?_
            refine r_iload X 8 rfl dL_runs_128 130 rfl ?_
            refine r_iadd X dL_runs_130 131 rfl ?_
            refine r_icmp_ne X dL_runs_131 156 (by decide) 134 rfl (fun c17 => ?_) (fun c17 => ?_)
            · have h := z_ie c17 h
              refine r_sub [] [] rfl ?_
              exact hK3  (hx3 _ (Option.some.inj h).symm).symm
            · have h := z_it c17 h
              refine r_aload_n X 0 rfl dL_runs_134 135 rfl ?_
              refine r_iload_n X 2 rfl dL_runs_135 136 rfl ?_
              refine r_iload X 4 rfl dL_runs_136 138 rfl ?_
              refine r_iload X 5 rfl dL_runs_138 140 rfl ?_
              refine r_iadd X dL_runs_140 141 rfl ?_
              obtain ⟨x18, e18, h⟩ := z_bd h
              have e18 := z_nt_of e18
              refine r_callV (rest := []) X (z_MX_ret (tX6_allocates hl G b a0 ha0 a2 (a4 + x1) M (r9 := .inr x18) e18)) zy_X6_allocates zw_X6_allocates km_L_48 ha0 rfl zv_X6 rfl ⟨rfl, rfl⟩ ⟨rfl, rfl⟩ rfl rfl (Nat.le_of_ble_eq_true rfl) ⟨Nat.zero_le _, Nat.zero_le _⟩ dL_runs_141 144 rfl [.int x18] rfl ?_
              refine r_iload_n X 3 rfl dL_runs_144 145 rfl ?_
              obtain ⟨j20, hT20, h⟩ := z_bd h
              have hJ20 : GW Γ G b 0 0 M 153 [(0, .ref (b + a0)), (1, .ref (b + a1)), (2, .int a2), (3, .int a3), (4, .int a4), (5, .int x1), (6, .int x2), (7, .int j7)] [.int j20, .int x18] := by
                refine r_icmp_eq X dL_runs_153 159 (by decide) 156 rfl (fun c21 => ?_) (fun c21 => ?_)
                · have h := z_it c21 h
                  refine r_iload X 5 rfl dL_runs_159 161 rfl ?_
                  refine r_iload X 7 rfl dL_runs_161 163 rfl ?_
                  refine r_if_eq X dL_runs_163 170 (by decide) 166 rfl (fun c22 => ?_) (fun c22 => ?_)
                  · have h := z_it c22 h
                    refine r_iconst (v := 0) X rfl dL_runs_170 171 rfl ?_
                    refine r_iadd X dL_runs_171 172 rfl ?_
                    refine r_istore X dL_runs_172 174 rfl [(0, .ref (b + a0)), (1, .ref (b + a1)), (2, .int a2), (3, .int a3), (4, .int a4), (5, .int (x1 + 0)), (6, .int x2)] (by decide) [1, 2, 3, 4, 5, 0, 6] rfl ?_
                    refine r_iinc X dL_runs_174 177 rfl [(0, .ref (b + a0)), (1, .ref (b + a1)), (2, .int a2), (3, .int a3), (4, .int a4), (5, .int (x1 + 0)), (6, .int (x2 + 1))] (by decide) 6 rfl (x2 + 1) rfl [1, 2, 3, 4, 5, 6, 0] rfl ?_
                    refine r_goto X dL_runs_177 9 (by decide) ?_
                    exact hP3 ((x1 + 0), (x2 + 1)) (Option.some.inj h).symm
                  · have h := z_ie c22 h
                    refine r_iconst (v := 1) X rfl dL_runs_166 167 rfl ?_
                    refine r_goto X dL_runs_167 171 (by decide) ?_
                    refine r_iadd X dL_runs_171 172 rfl ?_
                    refine r_istore X dL_runs_172 174 rfl [(0, .ref (b + a0)), (1, .ref (b + a1)), (2, .int a2), (3, .int a3), (4, .int a4), (5, .int (x1 + 1)), (6, .int x2)] (by decide) [1, 2, 3, 4, 5, 0, 6] rfl ?_
                    refine r_iinc X dL_runs_174 177 rfl [(0, .ref (b + a0)), (1, .ref (b + a1)), (2, .int a2), (3, .int a3), (4, .int a4), (5, .int (x1 + 1)), (6, .int (x2 + 1))] (by decide) 6 rfl (x2 + 1) rfl [1, 2, 3, 4, 5, 6, 0] rfl ?_
                    refine r_goto X dL_runs_177 9 (by decide) ?_
                    exact hP3 ((x1 + 1), (x2 + 1)) (Option.some.inj h).symm
                · have h := z_ie c21 h
                  refine r_sub [] [] rfl ?_
                  exact hK3  (hx3 _ (Option.some.inj h).symm).symm
              have h := hT20
              refine r_if_le X dL_runs_145 152 (by decide) 148 rfl (fun c19 => ?_) (fun c19 => ?_)
              · have h := z_it c19 h
                refine r_iconst (v := 0) X rfl dL_runs_152 153 rfl ?_
                refine r_sub [(0, .ref (b + a0)), (1, .ref (b + a1)), (2, .int a2), (3, .int a3), (4, .int a4), (5, .int x1), (6, .int x2), (7, .int j7)] [0, 1, 2, 3, 4, 5, 6, 7] rfl ?_
                cases h
                exact hJ20
              · have h := z_ie c19 h
                refine r_iconst (v := 1) X rfl dL_runs_148 149 rfl ?_
                refine r_goto X dL_runs_149 153 (by decide) ?_
                refine r_sub [(0, .ref (b + a0)), (1, .ref (b + a1)), (2, .int a2), (3, .int a3), (4, .int a4), (5, .int x1), (6, .int x2), (7, .int j7)] [0, 1, 2, 3, 4, 5, 6, 7] rfl ?_
                cases h
                exact hJ20
      clear h
      refine z_loopP (fun (s : Int32) => GW Γ G b 0 0 M 61 [(0, .ref (b + a0)), (1, .ref (b + a1)), (2, .int a2), (3, .int a3), (4, .int a4), (5, .int x1), (6, .int x2), (7, .int j7), (8, .int s)] []) (fun s q10 hb hP10 hx10 => ?_) _ _ hL10
      obtain ⟨x8, rfl⟩ : ∃ y, y = s := ⟨s, rfl⟩
      have h : fL_runs_L2 a1 a2 a3 M x2 j7 x8 = some q10 := hb
      unfold fL_runs_L2 at h
      refine r_iload X 7 rfl dL_runs_61 63 rfl ?_
      refine r_if_eq X dL_runs_63 100 (by decide) 66 rfl (fun c23 => ?_) (fun c23 => ?_)
      · have h := z_it c23 h
        have e := hx10 _ (Option.some.inj h).symm
        cases e
        exact hK10
      · have h := z_ie c23 h
        refine r_iload X 6 rfl dL_runs_66 68 rfl ?_
        refine r_iload X 8 rfl dL_runs_68 70 rfl ?_
        refine r_iadd X dL_runs_70 71 rfl ?_
        refine r_bipush (v := 16) X rfl dL_runs_71 73 rfl ?_
        refine r_iload_n X 2 rfl dL_runs_73 74 rfl ?_
        refine r_imul X dL_runs_74 75 rfl ?_
        refine r_bipush (v := 16) X rfl dL_runs_75 77 rfl ?_
        refine r_iadd X dL_runs_77 78 rfl ?_
        refine r_icmp_ge X dL_runs_78 100 (by decide) 81 rfl (fun c24 => ?_) (fun c24 => ?_)
        · have h := z_it c24 h
          have e := hx10 _ (Option.some.inj h).symm
          cases e
          exact hK10
        · have h := z_ie c24 h
          refine r_aload_n X 1 rfl dL_runs_81 82 rfl ?_
          refine r_iload X 6 rfl dL_runs_82 84 rfl ?_
          refine r_iload X 8 rfl dL_runs_84 86 rfl ?_
          refine r_iadd X dL_runs_86 87 rfl ?_
          refine r_iload_n X 3 rfl dL_runs_87 88 rfl ?_
          obtain ⟨x25, e25, h⟩ := z_bd h
          refine r_callS (rest := []) X (tL_isKind hl G b a1 ha1 (x2 + x8) a3 M e25) zy_L_isKind zs_L_isKind km_L_39 rfl ⟨rfl, rfl⟩ ⟨rfl, rfl⟩ rfl rfl (Nat.le_of_ble_eq_true rfl) ⟨Nat.zero_le _, Nat.zero_le _⟩ dL_runs_88 91 rfl [.int x25] rfl ?_
          refine r_if_eq X dL_runs_91 100 (by decide) 94 rfl (fun c26 => ?_) (fun c26 => ?_)
          · have h := z_it c26 h
            have e := hx10 _ (Option.some.inj h).symm
            cases e
            exact hK10
          · have h := z_ie c26 h
            refine r_iinc X dL_runs_94 97 rfl [(0, .ref (b + a0)), (1, .ref (b + a1)), (2, .int a2), (3, .int a3), (4, .int a4), (5, .int x1), (6, .int x2), (7, .int j7), (8, .int (x8 + 1))] (by decide) 8 rfl (x8 + 1) rfl [1, 2, 3, 4, 5, 6, 7, 8, 0] rfl ?_
            refine r_goto X dL_runs_97 61 (by decide) ?_
            exact hP10 (x8 + 1) (Option.some.inj h).symm
    have h := hT7
    refine r_if_eq X dL_runs_28 55 (by decide) 31 rfl (fun c6 => ?_) (fun c6 => ?_)
    · have h := z_it c6 h
      refine r_iconst (v := 0) X rfl dL_runs_55 56 rfl ?_
      cases h
      exact hJ7
    · have h := z_ie c6 h
      refine r_iload X 6 rfl dL_runs_31 33 rfl ?_
      refine r_bipush (v := 16) X rfl dL_runs_33 35 rfl ?_
      refine r_irem X (by decide) dL_runs_35 36 rfl ?_
      refine r_if_eq X dL_runs_36 51 (by decide) 39 rfl (fun c27 => ?_) (fun c27 => ?_)
      · have h := z_it c27 h
        refine r_iconst (v := 1) X rfl dL_runs_51 52 rfl ?_
        refine r_goto X dL_runs_52 56 (by decide) ?_
        cases h
        exact hJ7
      · have h := z_ie c27 h
        refine r_aload_n X 1 rfl dL_runs_39 40 rfl ?_
        refine r_iload X 6 rfl dL_runs_40 42 rfl ?_
        refine r_iconst (v := 1) X rfl dL_runs_42 43 rfl ?_
        refine r_isub X dL_runs_43 44 rfl ?_
        refine r_iload_n X 3 rfl dL_runs_44 45 rfl ?_
        obtain ⟨x28, e28, h⟩ := z_bd h
        refine r_callS (rest := []) X (tL_isKind hl G b a1 ha1 (x2 - 1) a3 M e28) zy_L_isKind zs_L_isKind km_L_39 rfl ⟨rfl, rfl⟩ ⟨rfl, rfl⟩ rfl rfl (Nat.le_of_ble_eq_true rfl) ⟨Nat.zero_le _, Nat.zero_le _⟩ dL_runs_45 48 rfl [.int x28] rfl ?_
        refine r_if_ne X dL_runs_48 55 (by decide) 51 rfl (fun c29 => ?_) (fun c29 => ?_)
        · have h := z_ie c29 h
          refine r_iconst (v := 0) X rfl dL_runs_55 56 rfl ?_
          cases h
          exact hJ7
        · have h := z_it c29 h
          refine r_iconst (v := 1) X rfl dL_runs_51 52 rfl ?_
          refine r_goto X dL_runs_52 56 (by decide) ?_
          cases h
          exact hJ7
set_option maxRecDepth 100000 in
set_option maxHeartbeats 1000000 in
theorem tL_keep {l : Launch} (hl : l.stackTraces = false) (G : zG) (b : Nat) (a0 : Nat) (ha0 : z_kd a0 = 8) (hna0 : z_ln a0 = 28) (a1 : Nat) (ha1 : z_kd a1 = 10) (a2 : Nat) (ha2 : z_kd a2 = 8) (hna2 : z_ln a2 = 32) (a3 : Nat) (ha3 : z_kd a3 = 8) (hna3 : z_ln a3 = 28) (a4 : Nat) (ha4 : z_kd a4 = 10) (a5 : Nat) (ha5 : z_kd a5 = 8) (hna5 : z_ln a5 = 32) (M : zM) {M9 : zM} (h : fL_keep a0 a1 a2 a3 a4 a5 M = some M9) : z_MN l yL_keep cL_keep 7 none { frames := 0, cells := 0, slots := 0, locals := 0 } G b [.ref (b + a0), .ref (b + a1), .ref (b + a2), .ref (b + a3), .ref (b + a4), .ref (b + a5)] M none M9 := by
  refine z_met (own := RL) hl (by decide) rfl rfl (fun Γ hΓ X R => ?_)
  subst hΓ
  show GW Γ G b 0 0 M 0 [(0, .ref (b + a0)), (1, .ref (b + a1)), (2, .ref (b + a2)), (3, .ref (b + a3)), (4, .ref (b + a4)), (5, .ref (b + a5))] []
  unfold fL_keep at h
  refine r_iconst (v := 0) X rfl dL_keep_0 1 rfl ?_
  refine r_istore X dL_keep_1 3 rfl [(0, .ref (b + a0)), (1, .ref (b + a1)), (2, .ref (b + a2)), (3, .ref (b + a3)), (4, .ref (b + a4)), (5, .ref (b + a5)), (6, .int 0)] (by decide) [1, 2, 3, 4, 5, 6, 0] rfl ?_
  obtain ⟨M3, hL4, h⟩ := z_bd h
  have hK4 : GW Γ G b 0 0 M3 54 [] [] := by
    cases h
    exact r_vret X R dL_keep_54
  clear h
  refine z_loopP (fun (s : (Int32 × zM)) => GW Γ G b 0 0 s.2 3 [(0, .ref (b + a0)), (1, .ref (b + a1)), (2, .ref (b + a2)), (3, .ref (b + a3)), (4, .ref (b + a4)), (5, .ref (b + a5)), (6, .int s.1)] []) (fun s q4 hb hP4 hx4 => ?_) _ _ hL4
  obtain ⟨x1, M2⟩ := s
  have h : fL_keep_L1 a0 a1 a2 a3 a4 a5 x1 M2 = some q4 := hb
  unfold fL_keep_L1 at h
  refine r_iload X 6 rfl dL_keep_3 5 rfl ?_
  refine r_bipush (v := 64) X rfl dL_keep_5 7 rfl ?_
  refine r_icmp_ge X dL_keep_7 54 (by decide) 10 rfl (fun c5 => ?_) (fun c5 => ?_)
  · have h := z_it c5 h
    refine r_sub [] [] rfl ?_
    have e := hx4 _ (Option.some.inj h).symm
    cases e
    exact hK4
  · have h := z_ie c5 h
    refine r_aload_n X 3 rfl dL_keep_10 11 rfl ?_
    refine r_iload X 6 rfl dL_keep_11 13 rfl ?_
    refine r_bipush (v := 28) X rfl dL_keep_13 15 rfl ?_
    refine r_irem X (by decide) dL_keep_15 16 rfl ?_
    refine r_aload_n X 0 rfl dL_keep_16 17 rfl ?_
    refine r_iload X 6 rfl dL_keep_17 19 rfl ?_
    refine r_bipush (v := 28) X rfl dL_keep_19 21 rfl ?_
    refine r_irem X (by decide) dL_keep_21 22 rfl ?_
    obtain ⟨x6, e6, h⟩ := z_bd h
    refine r_iaload X ha0 hna0 e6 dL_keep_22 23 rfl ?_
    obtain ⟨M7, e7, h⟩ := z_bd h
    refine r_iastore X ha3 hna3 e7 dL_keep_23 24 rfl ?_
    refine r_aload X 4 rfl dL_keep_24 26 rfl ?_
    refine r_iload X 6 rfl dL_keep_26 28 rfl ?_
    refine r_aload_n X 1 rfl dL_keep_28 29 rfl ?_
    refine r_iload X 6 rfl dL_keep_29 31 rfl ?_
    obtain ⟨x8, e8, h⟩ := z_bd h
    refine r_laload X ha1 (zn_10 ha1) e8 dL_keep_31 32 rfl ?_
    obtain ⟨M9, e9, h⟩ := z_bd h
    refine r_lastore X ha4 (zn_10 ha4) e9 dL_keep_32 33 rfl ?_
    refine r_aload X 5 rfl dL_keep_33 35 rfl ?_
    refine r_iload X 6 rfl dL_keep_35 37 rfl ?_
    refine r_bipush (v := 32) X rfl dL_keep_37 39 rfl ?_
    refine r_irem X (by decide) dL_keep_39 40 rfl ?_
    refine r_aload_n X 2 rfl dL_keep_40 41 rfl ?_
    refine r_iload X 6 rfl dL_keep_41 43 rfl ?_
    refine r_bipush (v := 32) X rfl dL_keep_43 45 rfl ?_
    refine r_irem X (by decide) dL_keep_45 46 rfl ?_
    obtain ⟨x10, e10, h⟩ := z_bd h
    refine r_iaload X ha2 hna2 e10 dL_keep_46 47 rfl ?_
    obtain ⟨M11, e11, h⟩ := z_bd h
    refine r_iastore X ha5 hna5 e11 dL_keep_47 48 rfl ?_
    refine r_iinc X dL_keep_48 51 rfl [(0, .ref (b + a0)), (1, .ref (b + a1)), (2, .ref (b + a2)), (3, .ref (b + a3)), (4, .ref (b + a4)), (5, .ref (b + a5)), (6, .int (x1 + 1))] (by decide) 6 rfl (x1 + 1) rfl [1, 2, 3, 4, 5, 6, 0] rfl ?_
    refine r_goto X dL_keep_51 3 (by decide) ?_
    exact hP4 ((x1 + 1), M11) (Option.some.inj h).symm
set_option maxRecDepth 100000 in
set_option maxHeartbeats 1000000 in
theorem tL_value {l : Launch} (hl : l.stackTraces = false) (G : zG) (b : Nat) (a0 : Nat) (ha0 : z_kd a0 = 10) (a1 : Int32) (M : zM) {r9 : Int32} (h : fL_value a0 a1 M = some r9) : z_MN l yL_value cL_value 2 (some .int) { frames := 1, cells := 0, slots := 0, locals := 20 } G b [.ref (b + a0), .int a1] M (some (.int r9)) M := by
  refine z_met (own := RL) hl (by decide) rfl rfl (fun Γ hΓ X R => ?_)
  subst hΓ
  show GW Γ G b 0 0 M 0 [(0, .ref (b + a0)), (1, .int a1)] []
  unfold fL_value at h
  refine r_iload_n X 1 rfl dL_value_0 1 rfl ?_
  refine r_if_ne X dL_value_1 8 (by decide) 4 rfl (fun c1 => ?_) (fun c1 => ?_)
  · have h := z_ie c1 h
    refine r_aload_n X 0 rfl dL_value_8 9 rfl ?_
    refine r_iload_n X 1 rfl dL_value_9 10 rfl ?_
    refine r_iconst (v := 1) X rfl dL_value_10 11 rfl ?_
    refine r_isub X dL_value_11 12 rfl ?_
    obtain ⟨x2, e2, h⟩ := z_bd h
    refine r_callS (rest := [.ref (b + a0)]) X (tL_place hl G b (a1 - 1) M e2) zy_L_place zs_L_place km_L_83 rfl ⟨rfl, rfl⟩ ⟨rfl, rfl⟩ rfl rfl (Nat.le_of_ble_eq_true rfl) ⟨Nat.zero_le _, Nat.zero_le _⟩ dL_value_12 15 rfl [.int x2, .ref (b + a0)] rfl ?_
    obtain ⟨x3, e3, h⟩ := z_bd h
    refine r_laload X ha0 (zn_10 ha0) e3 dL_value_15 16 rfl ?_
    refine r_l2i X dL_value_16 17 rfl ?_
    cases h
    exact r_iret X R rfl dL_value_17
  · have h := z_it c1 h
    refine r_iconst (v := 0) X rfl dL_value_4 5 rfl ?_
    refine r_goto X dL_value_5 17 (by decide) ?_
    cases h
    exact r_iret X R rfl dL_value_17
set_option maxRecDepth 100000 in
set_option maxHeartbeats 1000000 in
theorem tL_blocks {l : Launch} (hl : l.stackTraces = false) (G : zG) (b : Nat) (a0 : Nat) (ha0 : z_kd a0 = 8) (hna0 : z_ln a0 = 28) (a1 : Int32) (a2 : Int32) (M : zM) {r9 : Int32} (h : fL_blocks a0 a1 a2 M = some r9) : z_MN l yL_blocks cL_blocks 6 (some .int) { frames := 1, cells := 0, slots := 0, locals := 25 } G b [.ref (b + a0), .int a1, .int a2] M (some (.int r9)) M := by
  refine z_met (own := RL) hl (by decide) rfl rfl (fun Γ hΓ X R => ?_)
  subst hΓ
  show GW Γ G b 0 0 M 0 [(0, .ref (b + a0)), (1, .int a1), (2, .int a2)] []
  unfold fL_blocks at h
  refine r_iconst (v := 0) X rfl dL_blocks_0 1 rfl ?_
  refine r_istore_n X dL_blocks_1 2 rfl [(0, .ref (b + a0)), (1, .int a1), (2, .int a2), (3, .int 0)] (by decide) [1, 2, 3, 0] rfl ?_
  refine r_iload_n X 1 rfl dL_blocks_2 3 rfl ?_
  refine r_istore X dL_blocks_3 5 rfl [(0, .ref (b + a0)), (1, .int a1), (2, .int a2), (3, .int 0), (4, .int a1)] (by decide) [1, 2, 3, 4, 0] rfl ?_
  obtain ⟨x3, hL4, h⟩ := z_bd h
  have hK4 : GW Γ G b 0 0 M 96 [(3, .int x3)] [] := by
    refine r_iload_n X 0 rfl dL_blocks_96 97 rfl ?_
    cases h
    exact r_iret X R rfl dL_blocks_97
  clear h
  refine z_loopP (fun (s : (Int32 × Int32)) => GW Γ G b 0 0 M 5 [(0, .ref (b + a0)), (1, .int a1), (2, .int a2), (3, .int s.1), (4, .int s.2)] []) (fun s q4 hb hP4 hx4 => ?_) _ _ hL4
  obtain ⟨x1, x2⟩ := s
  have h : fL_blocks_L1 a0 a1 a2 M x1 x2 = some q4 := hb
  unfold fL_blocks_L1 at h
  refine r_iload X 4 rfl dL_blocks_5 7 rfl ?_
  refine r_iload_n X 1 rfl dL_blocks_7 8 rfl ?_
  refine r_iconst (v := 4) X rfl dL_blocks_8 9 rfl ?_
  refine r_iadd X dL_blocks_9 10 rfl ?_
  refine r_icmp_ge X dL_blocks_10 96 (by decide) 13 rfl (fun c5 => ?_) (fun c5 => ?_)
  · have h := z_it c5 h
    refine r_sub [(3, .int x1)] [3] rfl ?_
    have e := hx4 _ (Option.some.inj h).symm
    cases e
    exact hK4
  · have h := z_ie c5 h
    refine r_aload_n X 0 rfl dL_blocks_13 14 rfl ?_
    refine r_iload X 4 rfl dL_blocks_14 16 rfl ?_
    obtain ⟨x6, e6, h⟩ := z_bd h
    refine r_iaload X ha0 hna0 e6 dL_blocks_16 17 rfl ?_
    obtain ⟨j8, hT8, h⟩ := z_bd h
    have hJ8 : GW Γ G b 0 0 M 41 [(0, .ref (b + a0)), (1, .int a1), (2, .int a2), (3, .int x1), (4, .int x2)] [.int j8] := by
      refine r_istore X dL_blocks_41 43 rfl [(0, .ref (b + a0)), (1, .int a1), (2, .int a2), (3, .int x1), (4, .int x2), (5, .int j8)] (by decide) [1, 2, 3, 4, 5, 0] rfl ?_
      refine r_iload_n X 3 rfl dL_blocks_43 44 rfl ?_
      refine r_iload X 5 rfl dL_blocks_44 46 rfl ?_
      refine r_if_eq X dL_blocks_46 87 (by decide) 49 rfl (fun c9 => ?_) (fun c9 => ?_)
      · have h := z_it c9 h
        refine r_iconst (v := 0) X rfl dL_blocks_87 88 rfl ?_
        refine r_iadd X dL_blocks_88 89 rfl ?_
        refine r_istore_n X dL_blocks_89 90 rfl [(0, .ref (b + a0)), (1, .int a1), (2, .int a2), (3, .int (x1 + 0)), (4, .int x2)] (by decide) [1, 2, 3, 0, 4] rfl ?_
        refine r_iinc X dL_blocks_90 93 rfl [(0, .ref (b + a0)), (1, .int a1), (2, .int a2), (3, .int (x1 + 0)), (4, .int (x2 + 1))] (by decide) 4 rfl (x2 + 1) rfl [1, 2, 3, 4, 0] rfl ?_
        refine r_goto X dL_blocks_93 5 (by decide) ?_
        exact hP4 ((x1 + 0), (x2 + 1)) (Option.some.inj h).symm
      · have h := z_ie c9 h
        refine r_iload_n X 2 rfl dL_blocks_49 50 rfl ?_
        refine r_if_eq X dL_blocks_50 83 (by decide) 53 rfl (fun c10 => ?_) (fun c10 => ?_)
        · have h := z_it c10 h
          refine r_iconst (v := 1) X rfl dL_blocks_83 84 rfl ?_
          refine r_goto X dL_blocks_84 88 (by decide) ?_
          refine r_iadd X dL_blocks_88 89 rfl ?_
          refine r_istore_n X dL_blocks_89 90 rfl [(0, .ref (b + a0)), (1, .int a1), (2, .int a2), (3, .int (x1 + 1)), (4, .int x2)] (by decide) [1, 2, 3, 0, 4] rfl ?_
          refine r_iinc X dL_blocks_90 93 rfl [(0, .ref (b + a0)), (1, .int a1), (2, .int a2), (3, .int (x1 + 1)), (4, .int (x2 + 1))] (by decide) 4 rfl (x2 + 1) rfl [1, 2, 3, 4, 0] rfl ?_
          refine r_goto X dL_blocks_93 5 (by decide) ?_
          exact hP4 ((x1 + 1), (x2 + 1)) (Option.some.inj h).symm
        · have h := z_ie c10 h
          refine r_aload_n X 0 rfl dL_blocks_53 54 rfl ?_
          refine r_aload_n X 0 rfl dL_blocks_54 55 rfl ?_
          refine r_iload X 4 rfl dL_blocks_55 57 rfl ?_
          obtain ⟨x11, e11, h⟩ := z_bd h
          refine r_iaload X ha0 hna0 e11 dL_blocks_57 58 rfl ?_
          refine r_iconst (v := 1) X rfl dL_blocks_58 59 rfl ?_
          refine r_isub X dL_blocks_59 60 rfl ?_
          refine r_iconst (v := 0) X rfl dL_blocks_60 61 rfl ?_
          refine r_bipush (v := 28) X rfl dL_blocks_61 63 rfl ?_
          obtain ⟨x12, e12, h⟩ := z_bd h
          refine r_callS (rest := [.int x1]) X (tL_count hl G b a0 ha0 hna0 (x11 - 1) 0 28 M e12) zy_L_count zs_L_count km_L_19 rfl ⟨rfl, rfl⟩ ⟨rfl, rfl⟩ rfl rfl (Nat.le_of_ble_eq_true rfl) ⟨Nat.zero_le _, Nat.zero_le _⟩ dL_blocks_63 66 rfl [.int x12, .int x1] rfl ?_
          refine r_aload_n X 0 rfl dL_blocks_66 67 rfl ?_
          refine r_aload_n X 0 rfl dL_blocks_67 68 rfl ?_
          refine r_iload X 4 rfl dL_blocks_68 70 rfl ?_
          obtain ⟨x13, e13, h⟩ := z_bd h
          refine r_iaload X ha0 hna0 e13 dL_blocks_70 71 rfl ?_
          refine r_iconst (v := 1) X rfl dL_blocks_71 72 rfl ?_
          refine r_isub X dL_blocks_72 73 rfl ?_
          refine r_iload_n X 1 rfl dL_blocks_73 74 rfl ?_
          refine r_iload_n X 1 rfl dL_blocks_74 75 rfl ?_
          refine r_iconst (v := 4) X rfl dL_blocks_75 76 rfl ?_
          refine r_iadd X dL_blocks_76 77 rfl ?_
          obtain ⟨x14, e14, h⟩ := z_bd h
          refine r_callS (rest := [.int x12, .int x1]) X (tL_count hl G b a0 ha0 hna0 (x13 - 1) a1 (a1 + 4) M e14) zy_L_count zs_L_count km_L_19 rfl ⟨rfl, rfl⟩ ⟨rfl, rfl⟩ rfl rfl (Nat.le_of_ble_eq_true rfl) ⟨Nat.zero_le _, Nat.zero_le _⟩ dL_blocks_77 80 rfl [.int x14, .int x12, .int x1] rfl ?_
          refine r_icmp_ne X dL_blocks_80 87 (by decide) 83 rfl (fun c15 => ?_) (fun c15 => ?_)
          · have h := z_ie c15 h
            refine r_iconst (v := 0) X rfl dL_blocks_87 88 rfl ?_
            refine r_iadd X dL_blocks_88 89 rfl ?_
            refine r_istore_n X dL_blocks_89 90 rfl [(0, .ref (b + a0)), (1, .int a1), (2, .int a2), (3, .int (x1 + 0)), (4, .int x2)] (by decide) [1, 2, 3, 0, 4] rfl ?_
            refine r_iinc X dL_blocks_90 93 rfl [(0, .ref (b + a0)), (1, .int a1), (2, .int a2), (3, .int (x1 + 0)), (4, .int (x2 + 1))] (by decide) 4 rfl (x2 + 1) rfl [1, 2, 3, 4, 0] rfl ?_
            refine r_goto X dL_blocks_93 5 (by decide) ?_
            exact hP4 ((x1 + 0), (x2 + 1)) (Option.some.inj h).symm
          · have h := z_it c15 h
            refine r_iconst (v := 1) X rfl dL_blocks_83 84 rfl ?_
            refine r_goto X dL_blocks_84 88 (by decide) ?_
            refine r_iadd X dL_blocks_88 89 rfl ?_
            refine r_istore_n X dL_blocks_89 90 rfl [(0, .ref (b + a0)), (1, .int a1), (2, .int a2), (3, .int (x1 + 1)), (4, .int x2)] (by decide) [1, 2, 3, 0, 4] rfl ?_
            refine r_iinc X dL_blocks_90 93 rfl [(0, .ref (b + a0)), (1, .int a1), (2, .int a2), (3, .int (x1 + 1)), (4, .int (x2 + 1))] (by decide) 4 rfl (x2 + 1) rfl [1, 2, 3, 4, 0] rfl ?_
            refine r_goto X dL_blocks_93 5 (by decide) ?_
            exact hP4 ((x1 + 1), (x2 + 1)) (Option.some.inj h).symm
    have h := hT8
    refine r_if_le X dL_blocks_17 40 (by decide) 20 rfl (fun c7 => ?_) (fun c7 => ?_)
    · have h := z_it c7 h
      refine r_iconst (v := 0) X rfl dL_blocks_40 41 rfl ?_
      cases h
      exact hJ8
    · have h := z_ie c7 h
      refine r_aload_n X 0 rfl dL_blocks_20 21 rfl ?_
      refine r_aload_n X 0 rfl dL_blocks_21 22 rfl ?_
      refine r_iload X 4 rfl dL_blocks_22 24 rfl ?_
      obtain ⟨x16, e16, h⟩ := z_bd h
      refine r_iaload X ha0 hna0 e16 dL_blocks_24 25 rfl ?_
      refine r_iconst (v := 1) X rfl dL_blocks_25 26 rfl ?_
      refine r_isub X dL_blocks_26 27 rfl ?_
      refine r_iload_n X 1 rfl dL_blocks_27 28 rfl ?_
      refine r_iload X 4 rfl dL_blocks_28 30 rfl ?_
      obtain ⟨x17, e17, h⟩ := z_bd h
      refine r_callS (rest := []) X (tL_count hl G b a0 ha0 hna0 (x16 - 1) a1 x2 M e17) zy_L_count zs_L_count km_L_19 rfl ⟨rfl, rfl⟩ ⟨rfl, rfl⟩ rfl rfl (Nat.le_of_ble_eq_true rfl) ⟨Nat.zero_le _, Nat.zero_le _⟩ dL_blocks_30 33 rfl [.int x17] rfl ?_
      refine r_if_ne X dL_blocks_33 40 (by decide) 36 rfl (fun c18 => ?_) (fun c18 => ?_)
      · have h := z_ie c18 h
        refine r_iconst (v := 0) X rfl dL_blocks_40 41 rfl ?_
        cases h
        exact hJ8
      · have h := z_it c18 h
        refine r_iconst (v := 1) X rfl dL_blocks_36 37 rfl ?_
        refine r_goto X dL_blocks_37 41 (by decide) ?_
        cases h
        exact hJ8
set_option maxRecDepth 100000 in
set_option maxHeartbeats 1000000 in
theorem tL_destroyed {l : Launch} (hl : l.stackTraces = false) (G : zG) (b : Nat) (a0 : Nat) (ha0 : z_kd a0 = 6) (a1 : Int32) (M : zM) {r9 : Int32} {M9 : zM} (h : fL_destroyed a0 a1 M = some (r9, M9)) : z_MH l yL_destroyed cL_destroyed 3 (some .int) [(0, 5, 6, 184)] 8 134 G b [.ref (b + a0), .int a1] M (some (.int r9)) M9 := by
  refine z_meth (own := RL) hl (by decide) rfl rfl (fun Γ hΓ X R => ?_)
  subst hΓ
  show GW Γ G b 0 0 M 0 [(0, .ref (b + a0)), (1, .int a1)] []
  unfold fL_destroyed at h
  refine r_aload_n X 0 rfl dL_destroyed_0 1 rfl ?_
  refine r_iload_n X 1 rfl dL_destroyed_1 2 rfl ?_
  obtain ⟨o1, M3, e1, h⟩ := z_bd2 h
  cases o1 with
  | inl E9 =>
    have h := z_oxl h
    by_cases c1_0 : E9 = "java/lang/IllegalStateException"
    · have h := z_it c1_0 h
      subst c1_0
      refine r_hcatch (rest := []) (pre := []) (x := (0, 5, 6, 184)) (suf := []) (name := "java/lang/IllegalStateException") X R (tX6_destroySnapshot hl G b a0 ha0 a1 M (r9 := .inl "java/lang/IllegalStateException") e1) zy_X6_destroySnapshot zw_X6_destroySnapshot km_L_181 ha0 rfl zv_X6 rfl ⟨rfl, rfl⟩ rfl rfl (Nat.le_of_ble_eq_true rfl) rfl (fun _ h => absurd h List.not_mem_nil) rfl (by decide) kl_L_184 kcast_is dL_destroyed_2 (fun q9 => ?_)
      refine r_astore_n X dL_destroyed_6 7 rfl [] (by decide) [] rfl ?_
      refine r_bipush (v := (-2)) X rfl dL_destroyed_7 9 rfl ?_
      cases h
      exact r_hret X R (by decide) (by decide) rfl dL_destroyed_9
    · have h := z_ie c1_0 h
      cases h
  | inr x2 =>
    have h := z_oxr h
    refine r_callV (rest := []) X (z_MX_ret (tX6_destroySnapshot hl G b a0 ha0 a1 M (r9 := .inr x2) e1)) zy_X6_destroySnapshot zw_X6_destroySnapshot km_L_181 ha0 rfl zv_X6 rfl ⟨rfl, rfl⟩ ⟨rfl, rfl⟩ rfl rfl (Nat.le_of_ble_eq_true rfl) ⟨Nat.zero_le _, Nat.zero_le _⟩ dL_destroyed_2 5 rfl [.int x2] rfl ?_
    cases h
    exact r_hret X R (by decide) (by decide) rfl dL_destroyed_5
set_option maxRecDepth 100000 in
set_option maxHeartbeats 1000000 in
theorem tL_rolled {l : Launch} (hl : l.stackTraces = false) (G : zG) (b : Nat) (a0 : Nat) (ha0 : z_kd a0 = 6) (a1 : Int32) (a2 : Int32) (M : zM) {r9 : Int32} {M9 : zM} (h : fL_rolled a0 a1 a2 M = some (r9, M9)) : z_MH l yL_rolled cL_rolled 4 (some .int) [(0, 6, 7, 184)] 8 156 G b [.ref (b + a0), .int a1, .int a2] M (some (.int r9)) M9 := by
  refine z_meth (own := RL) hl (by decide) rfl rfl (fun Γ hΓ X R => ?_)
  subst hΓ
  show GW Γ G b 0 0 M 0 [(0, .ref (b + a0)), (1, .int a1), (2, .int a2)] []
  unfold fL_rolled at h
  refine r_aload_n X 0 rfl dL_rolled_0 1 rfl ?_
  refine r_iload_n X 1 rfl dL_rolled_1 2 rfl ?_
  refine r_iload_n X 2 rfl dL_rolled_2 3 rfl ?_
  obtain ⟨o1, M3, e1, h⟩ := z_bd2 h
  cases o1 with
  | inl E9 =>
    have h := z_oxl h
    by_cases c1_0 : E9 = "java/lang/IllegalStateException"
    · have h := z_it c1_0 h
      subst c1_0
      refine r_hcatch (rest := []) (pre := []) (x := (0, 6, 7, 184)) (suf := []) (name := "java/lang/IllegalStateException") X R (tX6_rollback hl G b a0 ha0 a1 a2 M (r9 := .inl "java/lang/IllegalStateException") e1) zy_X6_rollback zw_X6_rollback km_L_186 ha0 rfl zv_X6 rfl ⟨rfl, rfl⟩ rfl rfl (Nat.le_of_ble_eq_true rfl) rfl (fun _ h => absurd h List.not_mem_nil) rfl (by decide) kl_L_184 kcast_is dL_rolled_3 (fun q9 => ?_)
      refine r_astore_n X dL_rolled_7 8 rfl [] (by decide) [] rfl ?_
      refine r_bipush (v := (-2)) X rfl dL_rolled_8 10 rfl ?_
      cases h
      exact r_hret X R (by decide) (by decide) rfl dL_rolled_10
    · have h := z_ie c1_0 h
      cases h
  | inr x2 =>
    have h := z_oxr h
    refine r_callV (rest := []) X (z_MX_ret (tX6_rollback hl G b a0 ha0 a1 a2 M (r9 := .inr x2) e1)) zy_X6_rollback zw_X6_rollback km_L_186 ha0 rfl zv_X6 rfl ⟨rfl, rfl⟩ ⟨rfl, rfl⟩ rfl rfl (Nat.le_of_ble_eq_true rfl) ⟨Nat.zero_le _, Nat.zero_le _⟩ dL_rolled_3 6 rfl [.int x2] rfl ?_
    cases h
    exact r_hret X R (by decide) (by decide) rfl dL_rolled_6
set_option maxRecDepth 100000 in
set_option maxHeartbeats 1000000 in
theorem tL_removed {l : Launch} (hl : l.stackTraces = false) (G : zG) (b : Nat) (a0 : Nat) (ha0 : z_kd a0 = 6) (a1 : Int32) (M : zM) {r9 : Int32} {M9 : zM} (h : fL_removed a0 a1 M = some (r9, M9)) : z_MH l yL_removed cL_removed 3 (some .int) [(0, 5, 6, 184)] 8 134 G b [.ref (b + a0), .int a1] M (some (.int r9)) M9 := by
  refine z_meth (own := RL) hl (by decide) rfl rfl (fun Γ hΓ X R => ?_)
  subst hΓ
  show GW Γ G b 0 0 M 0 [(0, .ref (b + a0)), (1, .int a1)] []
  unfold fL_removed at h
  refine r_aload_n X 0 rfl dL_removed_0 1 rfl ?_
  refine r_iload_n X 1 rfl dL_removed_1 2 rfl ?_
  obtain ⟨o1, M3, e1, h⟩ := z_bd2 h
  cases o1 with
  | inl E9 =>
    have h := z_oxl h
    by_cases c1_0 : E9 = "java/lang/IllegalStateException"
    · have h := z_it c1_0 h
      subst c1_0
      refine r_hcatch (rest := []) (pre := []) (x := (0, 5, 6, 184)) (suf := []) (name := "java/lang/IllegalStateException") X R (tX6_destroy hl G b a0 ha0 a1 M (r9 := .inl "java/lang/IllegalStateException") e1) zy_X6_destroy zw_X6_destroy km_L_189 ha0 rfl zv_X6 rfl ⟨rfl, rfl⟩ rfl rfl (Nat.le_of_ble_eq_true rfl) rfl (fun _ h => absurd h List.not_mem_nil) rfl (by decide) kl_L_184 kcast_is dL_removed_2 (fun q9 => ?_)
      refine r_astore_n X dL_removed_6 7 rfl [] (by decide) [] rfl ?_
      refine r_bipush (v := (-2)) X rfl dL_removed_7 9 rfl ?_
      cases h
      exact r_hret X R (by decide) (by decide) rfl dL_removed_9
    · have h := z_ie c1_0 h
      cases h
  | inr x2 =>
    have h := z_oxr h
    refine r_callV (rest := []) X (z_MX_ret (tX6_destroy hl G b a0 ha0 a1 M (r9 := .inr x2) e1)) zy_X6_destroy zw_X6_destroy km_L_189 ha0 rfl zv_X6 rfl ⟨rfl, rfl⟩ ⟨rfl, rfl⟩ rfl rfl (Nat.le_of_ble_eq_true rfl) ⟨Nat.zero_le _, Nat.zero_le _⟩ dL_removed_2 5 rfl [.int x2] rfl ?_
    cases h
    exact r_hret X R (by decide) (by decide) rfl dL_removed_5
