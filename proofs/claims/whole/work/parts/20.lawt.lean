set_option maxRecDepth 100000 in
set_option maxHeartbeats 1000000 in
theorem tL_write {l : Launch} (hl : l.stackTraces = false) (G : zG) (b : Nat) (a0 : Nat) (ha0 : z_kd a0 = 6) (a1 : Int32) (a2 : Int32) (a3 : Int32) (a4 : Int32) (a5 : Nat) (ha5 : z_kd a5 = 10) (M : zM) {r9 : Int32} {M9 : zM} (h : fL_write a0 a1 a2 a3 a4 a5 M = some (r9, M9)) : z_MH l yL_write cL_write 7 (some .int) [(0, 14, 17, 13), (0, 14, 21, 15)] 8 141 G b [.ref (b + a0), .int a1, .int a2, .int a3, .int a4, .ref (b + a5)] M (some (.int r9)) M9 := by
  refine z_meth (own := RL) hl (by decide) rfl rfl (fun Γ hΓ X R => ?_)
  subst hΓ
  show GW Γ G b 0 0 M 0 [(0, .ref (b + a0)), (1, .int a1), (2, .int a2), (3, .int a3), (4, .int a4), (5, .ref (b + a5))] []
  unfold fL_write at h
  refine r_aload X 5 rfl dL_write_0 2 rfl ?_
  refine r_iconst (v := 0) X rfl dL_write_2 3 rfl ?_
  refine r_aload_n X 0 rfl dL_write_3 4 rfl ?_
  refine r_iload_n X 1 rfl dL_write_4 5 rfl ?_
  refine r_iload_n X 2 rfl dL_write_5 6 rfl ?_
  refine r_iload_n X 3 rfl dL_write_6 7 rfl ?_
  refine r_iload X 4 rfl dL_write_7 9 rfl ?_
  obtain ⟨o1, M3, e1, h⟩ := z_bd2 h
  cases o1 with
  | inl E9 =>
    have h := z_oxl h
    by_cases c1_0 : E9 = "java/lang/IndexOutOfBoundsException"
    · have h := z_it c1_0 h
      subst c1_0
      refine r_hcatch (rest := [.int 0, .ref (b + a5)]) (pre := []) (x := (0, 14, 17, 13)) (suf := [(0, 14, 21, 15)]) (name := "java/lang/IndexOutOfBoundsException") X R (tX6_write hl G b a0 ha0 a1 a2 a3 a4 M (r9 := .inl "java/lang/IndexOutOfBoundsException") e1) zy_X6_write zw_X6_write km_L_7 ha0 rfl zv_X6 rfl ⟨rfl, rfl⟩ rfl rfl (Nat.le_of_ble_eq_true rfl) rfl (fun _ h => absurd h List.not_mem_nil) rfl (by decide) kl_L_13 kcast_io dL_write_9 (fun q9 => ?_)
      refine r_astore X dL_write_17 19 rfl [] (by decide) [] rfl ?_
      refine r_iconst (v := 1) X rfl dL_write_19 20 rfl ?_
      cases h
      exact r_hret X R (by decide) (by decide) rfl dL_write_20
    · have h := z_ie c1_0 h
      by_cases c1_1 : E9 = "java/lang/IllegalStateException"
      · have h := z_it c1_1 h
        subst c1_1
        refine r_hcatch (rest := [.int 0, .ref (b + a5)]) (pre := [(0, 14, 17, 13)]) (x := (0, 14, 21, 15)) (suf := []) (name := "java/lang/IllegalStateException") X R (tX6_write hl G b a0 ha0 a1 a2 a3 a4 M (r9 := .inl "java/lang/IllegalStateException") e1) zy_X6_write zw_X6_write km_L_7 ha0 rfl zv_X6 rfl ⟨rfl, rfl⟩ rfl rfl (Nat.le_of_ble_eq_true rfl) rfl (List.forall_mem_cons.mpr ⟨⟨by decide, _, kl_L_13, List.mem_of_getElem? (i := 0) rfl⟩, (fun _ h => absurd h List.not_mem_nil)⟩) rfl (by decide) kl_L_15 kcast_is dL_write_9 (fun q9 => ?_)
        refine r_astore X dL_write_21 23 rfl [] (by decide) [] rfl ?_
        refine r_iconst (v := 2) X rfl dL_write_23 24 rfl ?_
        cases h
        exact r_hret X R (by decide) (by decide) rfl dL_write_24
      · have h := z_ie c1_1 h
        cases h
  | inr x2 =>
    have h := z_oxr h
    refine r_callV (rest := [.int 0, .ref (b + a5)]) X (z_MX_ret (tX6_write hl G b a0 ha0 a1 a2 a3 a4 M (r9 := .inr x2) e1)) zy_X6_write zw_X6_write km_L_7 ha0 rfl zv_X6 rfl ⟨rfl, rfl⟩ ⟨rfl, rfl⟩ rfl rfl (Nat.le_of_ble_eq_true rfl) ⟨Nat.zero_le _, Nat.zero_le _⟩ dL_write_9 12 rfl [.int x2, .int 0, .ref (b + a5)] rfl ?_
    refine r_i2l X dL_write_12 13 rfl ?_
    obtain ⟨M4, e4, h⟩ := z_bd h
    refine r_lastore X ha5 (zn_10 ha5) e4 dL_write_13 14 rfl ?_
    refine r_goto X dL_write_14 25 (by decide) ?_
    refine r_iconst (v := 0) X rfl dL_write_25 26 rfl ?_
    cases h
    exact r_hret X R (by decide) (by decide) rfl dL_write_26
set_option maxRecDepth 100000 in
set_option maxHeartbeats 1000000 in
theorem tL_read {l : Launch} (hl : l.stackTraces = false) (G : zG) (b : Nat) (a0 : Nat) (ha0 : z_kd a0 = 6) (a1 : Int32) (a2 : Int32) (a3 : Int32) (a4 : Nat) (ha4 : z_kd a4 = 10) (M : zM) {r9 : Int32} {M9 : zM} (h : fL_read a0 a1 a2 a3 a4 M = some (r9, M9)) : z_MH l yL_read cL_read 6 (some .int) [(0, 12, 15, 13)] 8 135 G b [.ref (b + a0), .int a1, .int a2, .int a3, .ref (b + a4)] M (some (.int r9)) M9 := by
  refine z_meth (own := RL) hl (by decide) rfl rfl (fun Γ hΓ X R => ?_)
  subst hΓ
  show GW Γ G b 0 0 M 0 [(0, .ref (b + a0)), (1, .int a1), (2, .int a2), (3, .int a3), (4, .ref (b + a4))] []
  unfold fL_read at h
  refine r_aload X 4 rfl dL_read_0 2 rfl ?_
  refine r_iconst (v := 0) X rfl dL_read_2 3 rfl ?_
  refine r_aload_n X 0 rfl dL_read_3 4 rfl ?_
  refine r_iload_n X 1 rfl dL_read_4 5 rfl ?_
  refine r_iload_n X 2 rfl dL_read_5 6 rfl ?_
  refine r_iload_n X 3 rfl dL_read_6 7 rfl ?_
  obtain ⟨o1, e1, h⟩ := z_bd h
  cases o1 with
  | inl E9 =>
    have h := z_oxl h
    by_cases c1_0 : E9 = "java/lang/IndexOutOfBoundsException"
    · have h := z_it c1_0 h
      subst c1_0
      refine r_hcatch (rest := [.int 0, .ref (b + a4)]) (pre := []) (x := (0, 12, 15, 13)) (suf := []) (name := "java/lang/IndexOutOfBoundsException") X R (tX6_read hl G b a0 ha0 a1 a2 a3 M (r9 := .inl "java/lang/IndexOutOfBoundsException") e1) zy_X6_read zw_X6_read km_L_17 ha0 rfl zv_X6 rfl ⟨rfl, rfl⟩ rfl rfl (Nat.le_of_ble_eq_true rfl) rfl (fun _ h => absurd h List.not_mem_nil) rfl (by decide) kl_L_13 kcast_io dL_read_7 (fun q9 => ?_)
      refine r_astore X dL_read_15 17 rfl [] (by decide) [] rfl ?_
      refine r_iconst (v := 1) X rfl dL_read_17 18 rfl ?_
      cases h
      exact r_hret X R (by decide) (by decide) rfl dL_read_18
    · have h := z_ie c1_0 h
      cases h
  | inr x2 =>
    have h := z_oxr h
    refine r_callV (rest := [.int 0, .ref (b + a4)]) X (z_MX_ret (tX6_read hl G b a0 ha0 a1 a2 a3 M (r9 := .inr x2) e1)) zy_X6_read zw_X6_read km_L_17 ha0 rfl zv_X6 rfl ⟨rfl, rfl⟩ ⟨rfl, rfl⟩ rfl rfl (Nat.le_of_ble_eq_true rfl) ⟨Nat.zero_le _, Nat.zero_le _⟩ dL_read_7 10 rfl [.int x2, .int 0, .ref (b + a4)] rfl ?_
    refine r_i2l X dL_read_10 11 rfl ?_
    obtain ⟨M3, e3, h⟩ := z_bd h
    refine r_lastore X ha4 (zn_10 ha4) e3 dL_read_11 12 rfl ?_
    refine r_goto X dL_read_12 19 (by decide) ?_
    refine r_iconst (v := 0) X rfl dL_read_19 20 rfl ?_
    cases h
    exact r_hret X R (by decide) (by decide) rfl dL_read_20
set_option maxRecDepth 100000 in
set_option maxHeartbeats 1000000 in
theorem tL_blockAt {l : Launch} (hl : l.stackTraces = false) (G : zG) (b : Nat) (a0 : Nat) (ha0 : z_kd a0 = 6) (a1 : Int32) (a2 : Int32) (a3 : Int32) (a4 : Nat) (ha4 : z_kd a4 = 10) (M : zM) {r9 : Int32} {M9 : zM} (h : fL_blockAt a0 a1 a2 a3 a4 M = some (r9, M9)) : z_MH l yL_blockAt cL_blockAt 6 (some .int) [(0, 12, 15, 13)] 8 135 G b [.ref (b + a0), .int a1, .int a2, .int a3, .ref (b + a4)] M (some (.int r9)) M9 := by
  refine z_meth (own := RL) hl (by decide) rfl rfl (fun Γ hΓ X R => ?_)
  subst hΓ
  show GW Γ G b 0 0 M 0 [(0, .ref (b + a0)), (1, .int a1), (2, .int a2), (3, .int a3), (4, .ref (b + a4))] []
  unfold fL_blockAt at h
  refine r_aload X 4 rfl dL_blockAt_0 2 rfl ?_
  refine r_iconst (v := 0) X rfl dL_blockAt_2 3 rfl ?_
  refine r_aload_n X 0 rfl dL_blockAt_3 4 rfl ?_
  refine r_iload_n X 1 rfl dL_blockAt_4 5 rfl ?_
  refine r_iload_n X 2 rfl dL_blockAt_5 6 rfl ?_
  refine r_iload_n X 3 rfl dL_blockAt_6 7 rfl ?_
  obtain ⟨o1, e1, h⟩ := z_bd h
  cases o1 with
  | inl E9 =>
    have h := z_oxl h
    by_cases c1_0 : E9 = "java/lang/IndexOutOfBoundsException"
    · have h := z_it c1_0 h
      subst c1_0
      refine r_hcatch (rest := [.int 0, .ref (b + a4)]) (pre := []) (x := (0, 12, 15, 13)) (suf := []) (name := "java/lang/IndexOutOfBoundsException") X R (tX6_blockAt hl G b a0 ha0 a1 a2 a3 M (r9 := .inl "java/lang/IndexOutOfBoundsException") e1) zy_X6_blockAt zw_X6_blockAt km_L_21 ha0 rfl zv_X6 rfl ⟨rfl, rfl⟩ rfl rfl (Nat.le_of_ble_eq_true rfl) rfl (fun _ h => absurd h List.not_mem_nil) rfl (by decide) kl_L_13 kcast_io dL_blockAt_7 (fun q9 => ?_)
      refine r_astore X dL_blockAt_15 17 rfl [] (by decide) [] rfl ?_
      refine r_iconst (v := 1) X rfl dL_blockAt_17 18 rfl ?_
      cases h
      exact r_hret X R (by decide) (by decide) rfl dL_blockAt_18
    · have h := z_ie c1_0 h
      cases h
  | inr x2 =>
    have h := z_oxr h
    refine r_callV (rest := [.int 0, .ref (b + a4)]) X (z_MX_ret (tX6_blockAt hl G b a0 ha0 a1 a2 a3 M (r9 := .inr x2) e1)) zy_X6_blockAt zw_X6_blockAt km_L_21 ha0 rfl zv_X6 rfl ⟨rfl, rfl⟩ ⟨rfl, rfl⟩ rfl rfl (Nat.le_of_ble_eq_true rfl) ⟨Nat.zero_le _, Nat.zero_le _⟩ dL_blockAt_7 10 rfl [.int x2, .int 0, .ref (b + a4)] rfl ?_
    refine r_i2l X dL_blockAt_10 11 rfl ?_
    obtain ⟨M3, e3, h⟩ := z_bd h
    refine r_lastore X ha4 (zn_10 ha4) e3 dL_blockAt_11 12 rfl ?_
    refine r_goto X dL_blockAt_12 19 (by decide) ?_
    refine r_iconst (v := 0) X rfl dL_blockAt_19 20 rfl ?_
    cases h
    exact r_hret X R (by decide) (by decide) rfl dL_blockAt_20
set_option maxRecDepth 100000 in
set_option maxHeartbeats 1000000 in
theorem tL_length {l : Launch} (hl : l.stackTraces = false) (G : zG) (b : Nat) (a0 : Nat) (ha0 : z_kd a0 = 6) (a1 : Int32) (a2 : Int32) (a3 : Nat) (ha3 : z_kd a3 = 10) (M : zM) {r9 : Int32} {M9 : zM} (h : fL_length a0 a1 a2 a3 M = some (r9, M9)) : z_MH l yL_length cL_length 5 (some .int) [(0, 10, 13, 13)] 8 138 G b [.ref (b + a0), .int a1, .int a2, .ref (b + a3)] M (some (.int r9)) M9 := by
  refine z_meth (own := RL) hl (by decide) rfl rfl (fun Γ hΓ X R => ?_)
  subst hΓ
  show GW Γ G b 0 0 M 0 [(0, .ref (b + a0)), (1, .int a1), (2, .int a2), (3, .ref (b + a3))] []
  unfold fL_length at h
  refine r_aload_n X 3 rfl dL_length_0 1 rfl ?_
  refine r_iconst (v := 0) X rfl dL_length_1 2 rfl ?_
  refine r_aload_n X 0 rfl dL_length_2 3 rfl ?_
  refine r_iload_n X 1 rfl dL_length_3 4 rfl ?_
  refine r_iload_n X 2 rfl dL_length_4 5 rfl ?_
  obtain ⟨o1, e1, h⟩ := z_bd h
  cases o1 with
  | inl E9 =>
    have h := z_oxl h
    by_cases c1_0 : E9 = "java/lang/IndexOutOfBoundsException"
    · have h := z_it c1_0 h
      subst c1_0
      refine r_hcatch (rest := [.int 0, .ref (b + a3)]) (pre := []) (x := (0, 10, 13, 13)) (suf := []) (name := "java/lang/IndexOutOfBoundsException") X R (tX6_length hl G b a0 ha0 a1 a2 M (r9 := .inl "java/lang/IndexOutOfBoundsException") e1) zy_X6_length zw_X6_length km_L_24 ha0 rfl zv_X6 rfl ⟨rfl, rfl⟩ rfl rfl (Nat.le_of_ble_eq_true rfl) rfl (fun _ h => absurd h List.not_mem_nil) rfl (by decide) kl_L_13 kcast_io dL_length_5 (fun q9 => ?_)
      refine r_astore X dL_length_13 15 rfl [] (by decide) [] rfl ?_
      refine r_iconst (v := 1) X rfl dL_length_15 16 rfl ?_
      cases h
      exact r_hret X R (by decide) (by decide) rfl dL_length_16
    · have h := z_ie c1_0 h
      cases h
  | inr x2 =>
    have h := z_oxr h
    refine r_callV (rest := [.int 0, .ref (b + a3)]) X (z_MX_ret (tX6_length hl G b a0 ha0 a1 a2 M (r9 := .inr x2) e1)) zy_X6_length zw_X6_length km_L_24 ha0 rfl zv_X6 rfl ⟨rfl, rfl⟩ ⟨rfl, rfl⟩ rfl rfl (Nat.le_of_ble_eq_true rfl) ⟨Nat.zero_le _, Nat.zero_le _⟩ dL_length_5 8 rfl [.int x2, .int 0, .ref (b + a3)] rfl ?_
    refine r_i2l X dL_length_8 9 rfl ?_
    obtain ⟨M3, e3, h⟩ := z_bd h
    refine r_lastore X ha3 (zn_10 ha3) e3 dL_length_9 10 rfl ?_
    refine r_goto X dL_length_10 17 (by decide) ?_
    refine r_iconst (v := 0) X rfl dL_length_17 18 rfl ?_
    cases h
    exact r_hret X R (by decide) (by decide) rfl dL_length_18
set_option maxRecDepth 100000 in
set_option maxHeartbeats 1000000 in
theorem tL_punch {l : Launch} (hl : l.stackTraces = false) (G : zG) (b : Nat) (a0 : Nat) (ha0 : z_kd a0 = 6) (a1 : Int32) (a2 : Int32) (a3 : Int32) (a4 : Int32) (a5 : Nat) (ha5 : z_kd a5 = 10) (M : zM) {r9 : Int32} {M9 : zM} (h : fL_punch a0 a1 a2 a3 a4 a5 M = some (r9, M9)) : z_MH l yL_punch cL_punch 7 (some .int) [(0, 14, 17, 13), (0, 14, 21, 31)] 8 140 G b [.ref (b + a0), .int a1, .int a2, .int a3, .int a4, .ref (b + a5)] M (some (.int r9)) M9 := by
  refine z_meth (own := RL) hl (by decide) rfl rfl (fun Γ hΓ X R => ?_)
  subst hΓ
  show GW Γ G b 0 0 M 0 [(0, .ref (b + a0)), (1, .int a1), (2, .int a2), (3, .int a3), (4, .int a4), (5, .ref (b + a5))] []
  unfold fL_punch at h
  refine r_aload X 5 rfl dL_punch_0 2 rfl ?_
  refine r_iconst (v := 0) X rfl dL_punch_2 3 rfl ?_
  refine r_aload_n X 0 rfl dL_punch_3 4 rfl ?_
  refine r_iload_n X 1 rfl dL_punch_4 5 rfl ?_
  refine r_iload_n X 2 rfl dL_punch_5 6 rfl ?_
  refine r_iload_n X 3 rfl dL_punch_6 7 rfl ?_
  refine r_iload X 4 rfl dL_punch_7 9 rfl ?_
  obtain ⟨o1, M3, e1, h⟩ := z_bd2 h
  cases o1 with
  | inl E9 =>
    have h := z_oxl h
    by_cases c1_0 : E9 = "java/lang/IndexOutOfBoundsException"
    · have h := z_it c1_0 h
      subst c1_0
      refine r_hcatch (rest := [.int 0, .ref (b + a5)]) (pre := []) (x := (0, 14, 17, 13)) (suf := [(0, 14, 21, 31)]) (name := "java/lang/IndexOutOfBoundsException") X R (tX6_punch hl G b a0 ha0 a1 a2 a3 a4 M (r9 := .inl "java/lang/IndexOutOfBoundsException") e1) zy_X6_punch zw_X6_punch km_L_28 ha0 rfl zv_X6 rfl ⟨rfl, rfl⟩ rfl rfl (Nat.le_of_ble_eq_true rfl) rfl (fun _ h => absurd h List.not_mem_nil) rfl (by decide) kl_L_13 kcast_io dL_punch_9 (fun q9 => ?_)
      refine r_astore X dL_punch_17 19 rfl [] (by decide) [] rfl ?_
      refine r_iconst (v := 1) X rfl dL_punch_19 20 rfl ?_
      cases h
      exact r_hret X R (by decide) (by decide) rfl dL_punch_20
    · have h := z_ie c1_0 h
      by_cases c1_1 : E9 = "java/lang/IllegalArgumentException"
      · have h := z_it c1_1 h
        subst c1_1
        refine r_hcatch (rest := [.int 0, .ref (b + a5)]) (pre := [(0, 14, 17, 13)]) (x := (0, 14, 21, 31)) (suf := []) (name := "java/lang/IllegalArgumentException") X R (tX6_punch hl G b a0 ha0 a1 a2 a3 a4 M (r9 := .inl "java/lang/IllegalArgumentException") e1) zy_X6_punch zw_X6_punch km_L_28 ha0 rfl zv_X6 rfl ⟨rfl, rfl⟩ rfl rfl (Nat.le_of_ble_eq_true rfl) rfl (List.forall_mem_cons.mpr ⟨⟨by decide, _, kl_L_13, List.mem_of_getElem? (i := 1) rfl⟩, (fun _ h => absurd h List.not_mem_nil)⟩) rfl (by decide) kl_L_31 kcast_ia dL_punch_9 (fun q9 => ?_)
        refine r_astore X dL_punch_21 23 rfl [] (by decide) [] rfl ?_
        refine r_iconst (v := 2) X rfl dL_punch_23 24 rfl ?_
        cases h
        exact r_hret X R (by decide) (by decide) rfl dL_punch_24
      · have h := z_ie c1_1 h
        cases h
  | inr x2 =>
    have h := z_oxr h
    refine r_callV (rest := [.int 0, .ref (b + a5)]) X (z_MX_ret (tX6_punch hl G b a0 ha0 a1 a2 a3 a4 M (r9 := .inr x2) e1)) zy_X6_punch zw_X6_punch km_L_28 ha0 rfl zv_X6 rfl ⟨rfl, rfl⟩ ⟨rfl, rfl⟩ rfl rfl (Nat.le_of_ble_eq_true rfl) ⟨Nat.zero_le _, Nat.zero_le _⟩ dL_punch_9 12 rfl [.int x2, .int 0, .ref (b + a5)] rfl ?_
    refine r_i2l X dL_punch_12 13 rfl ?_
    obtain ⟨M4, e4, h⟩ := z_bd h
    refine r_lastore X ha5 (zn_10 ha5) e4 dL_punch_13 14 rfl ?_
    refine r_goto X dL_punch_14 25 (by decide) ?_
    refine r_iconst (v := 0) X rfl dL_punch_25 26 rfl ?_
    cases h
    exact r_hret X R (by decide) (by decide) rfl dL_punch_26
set_option maxRecDepth 100000 in
set_option maxHeartbeats 1000000 in
theorem tL_reflink {l : Launch} (hl : l.stackTraces = false) (G : zG) (b : Nat) (a0 : Nat) (ha0 : z_kd a0 = 6) (a1 : Int32) (a2 : Int32) (a3 : Int32) (a4 : Int32) (a5 : Int32) (a6 : Int32) (a7 : Nat) (ha7 : z_kd a7 = 10) (M : zM) {r9 : Int32} {M9 : zM} (h : fL_reflink a0 a1 a2 a3 a4 a5 a6 a7 M = some (r9, M9)) : z_MH l yL_reflink cL_reflink 9 (some .int) [(0, 18, 21, 13), (0, 18, 25, 31)] 8 143 G b [.ref (b + a0), .int a1, .int a2, .int a3, .int a4, .int a5, .int a6, .ref (b + a7)] M (some (.int r9)) M9 := by
  refine z_meth (own := RL) hl (by decide) rfl rfl (fun Γ hΓ X R => ?_)
  subst hΓ
  show GW Γ G b 0 0 M 0 [(0, .ref (b + a0)), (1, .int a1), (2, .int a2), (3, .int a3), (4, .int a4), (5, .int a5), (6, .int a6), (7, .ref (b + a7))] []
  unfold fL_reflink at h
  refine r_aload X 7 rfl dL_reflink_0 2 rfl ?_
  refine r_iconst (v := 0) X rfl dL_reflink_2 3 rfl ?_
  refine r_aload_n X 0 rfl dL_reflink_3 4 rfl ?_
  refine r_iload_n X 1 rfl dL_reflink_4 5 rfl ?_
  refine r_iload_n X 2 rfl dL_reflink_5 6 rfl ?_
  refine r_iload_n X 3 rfl dL_reflink_6 7 rfl ?_
  refine r_iload X 4 rfl dL_reflink_7 9 rfl ?_
  refine r_iload X 5 rfl dL_reflink_9 11 rfl ?_
  refine r_iload X 6 rfl dL_reflink_11 13 rfl ?_
  obtain ⟨o1, M3, e1, h⟩ := z_bd2 h
  cases o1 with
  | inl E9 =>
    have h := z_oxl h
    by_cases c1_0 : E9 = "java/lang/IndexOutOfBoundsException"
    · have h := z_it c1_0 h
      subst c1_0
      refine r_hcatch (rest := [.int 0, .ref (b + a7)]) (pre := []) (x := (0, 18, 21, 13)) (suf := [(0, 18, 25, 31)]) (name := "java/lang/IndexOutOfBoundsException") X R (tX6_reflink hl G b a0 ha0 a1 a2 a3 a4 a5 a6 M (r9 := .inl "java/lang/IndexOutOfBoundsException") e1) zy_X6_reflink zw_X6_reflink km_L_33 ha0 rfl zv_X6 rfl ⟨rfl, rfl⟩ rfl rfl (Nat.le_of_ble_eq_true rfl) rfl (fun _ h => absurd h List.not_mem_nil) rfl (by decide) kl_L_13 kcast_io dL_reflink_13 (fun q9 => ?_)
      refine r_astore X dL_reflink_21 23 rfl [] (by decide) [] rfl ?_
      refine r_iconst (v := 1) X rfl dL_reflink_23 24 rfl ?_
      cases h
      exact r_hret X R (by decide) (by decide) rfl dL_reflink_24
    · have h := z_ie c1_0 h
      by_cases c1_1 : E9 = "java/lang/IllegalArgumentException"
      · have h := z_it c1_1 h
        subst c1_1
        refine r_hcatch (rest := [.int 0, .ref (b + a7)]) (pre := [(0, 18, 21, 13)]) (x := (0, 18, 25, 31)) (suf := []) (name := "java/lang/IllegalArgumentException") X R (tX6_reflink hl G b a0 ha0 a1 a2 a3 a4 a5 a6 M (r9 := .inl "java/lang/IllegalArgumentException") e1) zy_X6_reflink zw_X6_reflink km_L_33 ha0 rfl zv_X6 rfl ⟨rfl, rfl⟩ rfl rfl (Nat.le_of_ble_eq_true rfl) rfl (List.forall_mem_cons.mpr ⟨⟨by decide, _, kl_L_13, List.mem_of_getElem? (i := 1) rfl⟩, (fun _ h => absurd h List.not_mem_nil)⟩) rfl (by decide) kl_L_31 kcast_ia dL_reflink_13 (fun q9 => ?_)
        refine r_astore X dL_reflink_25 27 rfl [] (by decide) [] rfl ?_
        refine r_iconst (v := 2) X rfl dL_reflink_27 28 rfl ?_
        cases h
        exact r_hret X R (by decide) (by decide) rfl dL_reflink_28
      · have h := z_ie c1_1 h
        cases h
  | inr x2 =>
    have h := z_oxr h
    refine r_callV (rest := [.int 0, .ref (b + a7)]) X (z_MX_ret (tX6_reflink hl G b a0 ha0 a1 a2 a3 a4 a5 a6 M (r9 := .inr x2) e1)) zy_X6_reflink zw_X6_reflink km_L_33 ha0 rfl zv_X6 rfl ⟨rfl, rfl⟩ ⟨rfl, rfl⟩ rfl rfl (Nat.le_of_ble_eq_true rfl) ⟨Nat.zero_le _, Nat.zero_le _⟩ dL_reflink_13 16 rfl [.int x2, .int 0, .ref (b + a7)] rfl ?_
    refine r_i2l X dL_reflink_16 17 rfl ?_
    obtain ⟨M4, e4, h⟩ := z_bd h
    refine r_lastore X ha7 (zn_10 ha7) e4 dL_reflink_17 18 rfl ?_
    refine r_goto X dL_reflink_18 29 (by decide) ?_
    refine r_iconst (v := 0) X rfl dL_reflink_29 30 rfl ?_
    cases h
    exact r_hret X R (by decide) (by decide) rfl dL_reflink_30
set_option maxRecDepth 100000 in
set_option maxHeartbeats 1000000 in
theorem tL_snapshot {l : Launch} (hl : l.stackTraces = false) (G : zG) (b : Nat) (a0 : Nat) (ha0 : z_kd a0 = 6) (a1 : Int32) (a2 : Nat) (ha2 : z_kd a2 = 10) (M : zM) {r9 : Int32} {M9 : zM} (h : fL_snapshot a0 a1 a2 M = some (r9, M9)) : z_MH l yL_snapshot cL_snapshot 4 (some .int) [(0, 9, 12, 13), (0, 9, 15, 15)] 8 149 G b [.ref (b + a0), .int a1, .ref (b + a2)] M (some (.int r9)) M9 := by
  refine z_meth (own := RL) hl (by decide) rfl rfl (fun Γ hΓ X R => ?_)
  subst hΓ
  show GW Γ G b 0 0 M 0 [(0, .ref (b + a0)), (1, .int a1), (2, .ref (b + a2))] []
  unfold fL_snapshot at h
  refine r_aload_n X 2 rfl dL_snapshot_0 1 rfl ?_
  refine r_iconst (v := 0) X rfl dL_snapshot_1 2 rfl ?_
  refine r_aload_n X 0 rfl dL_snapshot_2 3 rfl ?_
  refine r_iload_n X 1 rfl dL_snapshot_3 4 rfl ?_
  obtain ⟨o1, M3, e1, h⟩ := z_bd2 h
  cases o1 with
  | inl E9 =>
    have h := z_oxl h
    by_cases c1_0 : E9 = "java/lang/IndexOutOfBoundsException"
    · have h := z_it c1_0 h
      subst c1_0
      refine r_hcatch (rest := [.int 0, .ref (b + a2)]) (pre := []) (x := (0, 9, 12, 13)) (suf := [(0, 9, 15, 15)]) (name := "java/lang/IndexOutOfBoundsException") X R (tX6_snapshot hl G b a0 ha0 a1 M (r9 := .inl "java/lang/IndexOutOfBoundsException") e1) zy_X6_snapshot zw_X6_snapshot km_L_37 ha0 rfl zv_X6 rfl ⟨rfl, rfl⟩ rfl rfl (Nat.le_of_ble_eq_true rfl) rfl (fun _ h => absurd h List.not_mem_nil) rfl (by decide) kl_L_13 kcast_io dL_snapshot_4 (fun q9 => ?_)
      refine r_astore_n X dL_snapshot_12 13 rfl [] (by decide) [] rfl ?_
      refine r_iconst (v := 1) X rfl dL_snapshot_13 14 rfl ?_
      cases h
      exact r_hret X R (by decide) (by decide) rfl dL_snapshot_14
    · have h := z_ie c1_0 h
      by_cases c1_1 : E9 = "java/lang/IllegalStateException"
      · have h := z_it c1_1 h
        subst c1_1
        refine r_hcatch (rest := [.int 0, .ref (b + a2)]) (pre := [(0, 9, 12, 13)]) (x := (0, 9, 15, 15)) (suf := []) (name := "java/lang/IllegalStateException") X R (tX6_snapshot hl G b a0 ha0 a1 M (r9 := .inl "java/lang/IllegalStateException") e1) zy_X6_snapshot zw_X6_snapshot km_L_37 ha0 rfl zv_X6 rfl ⟨rfl, rfl⟩ rfl rfl (Nat.le_of_ble_eq_true rfl) rfl (List.forall_mem_cons.mpr ⟨⟨by decide, _, kl_L_13, List.mem_of_getElem? (i := 0) rfl⟩, (fun _ h => absurd h List.not_mem_nil)⟩) rfl (by decide) kl_L_15 kcast_is dL_snapshot_4 (fun q9 => ?_)
        refine r_astore_n X dL_snapshot_15 16 rfl [] (by decide) [] rfl ?_
        refine r_iconst (v := 2) X rfl dL_snapshot_16 17 rfl ?_
        cases h
        exact r_hret X R (by decide) (by decide) rfl dL_snapshot_17
      · have h := z_ie c1_1 h
        cases h
  | inr x2 =>
    have h := z_oxr h
    refine r_callV (rest := [.int 0, .ref (b + a2)]) X (z_MX_ret (tX6_snapshot hl G b a0 ha0 a1 M (r9 := .inr x2) e1)) zy_X6_snapshot zw_X6_snapshot km_L_37 ha0 rfl zv_X6 rfl ⟨rfl, rfl⟩ ⟨rfl, rfl⟩ rfl rfl (Nat.le_of_ble_eq_true rfl) ⟨Nat.zero_le _, Nat.zero_le _⟩ dL_snapshot_4 7 rfl [.int x2, .int 0, .ref (b + a2)] rfl ?_
    refine r_i2l X dL_snapshot_7 8 rfl ?_
    obtain ⟨M4, e4, h⟩ := z_bd h
    refine r_lastore X ha2 (zn_10 ha2) e4 dL_snapshot_8 9 rfl ?_
    refine r_goto X dL_snapshot_9 18 (by decide) ?_
    refine r_iconst (v := 0) X rfl dL_snapshot_18 19 rfl ?_
    cases h
    exact r_hret X R (by decide) (by decide) rfl dL_snapshot_19
set_option maxRecDepth 100000 in
set_option maxHeartbeats 1000000 in
theorem tL_readSnapshot {l : Launch} (hl : l.stackTraces = false) (G : zG) (b : Nat) (a0 : Nat) (ha0 : z_kd a0 = 6) (a1 : Int32) (a2 : Int32) (a3 : Int32) (a4 : Nat) (ha4 : z_kd a4 = 10) (M : zM) {r9 : Int32} {M9 : zM} (h : fL_readSnapshot a0 a1 a2 a3 a4 M = some (r9, M9)) : z_MH l yL_readSnapshot cL_readSnapshot 6 (some .int) [(0, 12, 15, 13)] 8 135 G b [.ref (b + a0), .int a1, .int a2, .int a3, .ref (b + a4)] M (some (.int r9)) M9 := by
  refine z_meth (own := RL) hl (by decide) rfl rfl (fun Γ hΓ X R => ?_)
  subst hΓ
  show GW Γ G b 0 0 M 0 [(0, .ref (b + a0)), (1, .int a1), (2, .int a2), (3, .int a3), (4, .ref (b + a4))] []
  unfold fL_readSnapshot at h
  refine r_aload X 4 rfl dL_readSnapshot_0 2 rfl ?_
  refine r_iconst (v := 0) X rfl dL_readSnapshot_2 3 rfl ?_
  refine r_aload_n X 0 rfl dL_readSnapshot_3 4 rfl ?_
  refine r_iload_n X 1 rfl dL_readSnapshot_4 5 rfl ?_
  refine r_iload_n X 2 rfl dL_readSnapshot_5 6 rfl ?_
  refine r_iload_n X 3 rfl dL_readSnapshot_6 7 rfl ?_
  obtain ⟨o1, e1, h⟩ := z_bd h
  cases o1 with
  | inl E9 =>
    have h := z_oxl h
    by_cases c1_0 : E9 = "java/lang/IndexOutOfBoundsException"
    · have h := z_it c1_0 h
      subst c1_0
      refine r_hcatch (rest := [.int 0, .ref (b + a4)]) (pre := []) (x := (0, 12, 15, 13)) (suf := []) (name := "java/lang/IndexOutOfBoundsException") X R (tX6_readSnapshot hl G b a0 ha0 a1 a2 a3 M (r9 := .inl "java/lang/IndexOutOfBoundsException") e1) zy_X6_readSnapshot zw_X6_readSnapshot km_L_41 ha0 rfl zv_X6 rfl ⟨rfl, rfl⟩ rfl rfl (Nat.le_of_ble_eq_true rfl) rfl (fun _ h => absurd h List.not_mem_nil) rfl (by decide) kl_L_13 kcast_io dL_readSnapshot_7 (fun q9 => ?_)
      refine r_astore X dL_readSnapshot_15 17 rfl [] (by decide) [] rfl ?_
      refine r_iconst (v := 1) X rfl dL_readSnapshot_17 18 rfl ?_
      cases h
      exact r_hret X R (by decide) (by decide) rfl dL_readSnapshot_18
    · have h := z_ie c1_0 h
      cases h
  | inr x2 =>
    have h := z_oxr h
    refine r_callV (rest := [.int 0, .ref (b + a4)]) X (z_MX_ret (tX6_readSnapshot hl G b a0 ha0 a1 a2 a3 M (r9 := .inr x2) e1)) zy_X6_readSnapshot zw_X6_readSnapshot km_L_41 ha0 rfl zv_X6 rfl ⟨rfl, rfl⟩ ⟨rfl, rfl⟩ rfl rfl (Nat.le_of_ble_eq_true rfl) ⟨Nat.zero_le _, Nat.zero_le _⟩ dL_readSnapshot_7 10 rfl [.int x2, .int 0, .ref (b + a4)] rfl ?_
    refine r_i2l X dL_readSnapshot_10 11 rfl ?_
    obtain ⟨M3, e3, h⟩ := z_bd h
    refine r_lastore X ha4 (zn_10 ha4) e3 dL_readSnapshot_11 12 rfl ?_
    refine r_goto X dL_readSnapshot_12 19 (by decide) ?_
    refine r_iconst (v := 0) X rfl dL_readSnapshot_19 20 rfl ?_
    cases h
    exact r_hret X R (by decide) (by decide) rfl dL_readSnapshot_20
set_option maxRecDepth 100000 in
set_option maxHeartbeats 1000000 in
theorem tL_blockInSnapshot {l : Launch} (hl : l.stackTraces = false) (G : zG) (b : Nat) (a0 : Nat) (ha0 : z_kd a0 = 6) (a1 : Int32) (a2 : Int32) (a3 : Int32) (a4 : Nat) (ha4 : z_kd a4 = 10) (M : zM) {r9 : Int32} {M9 : zM} (h : fL_blockInSnapshot a0 a1 a2 a3 a4 M = some (r9, M9)) : z_MH l yL_blockInSnapshot cL_blockInSnapshot 6 (some .int) [(0, 12, 15, 13)] 8 135 G b [.ref (b + a0), .int a1, .int a2, .int a3, .ref (b + a4)] M (some (.int r9)) M9 := by
  refine z_meth (own := RL) hl (by decide) rfl rfl (fun Γ hΓ X R => ?_)
  subst hΓ
  show GW Γ G b 0 0 M 0 [(0, .ref (b + a0)), (1, .int a1), (2, .int a2), (3, .int a3), (4, .ref (b + a4))] []
  unfold fL_blockInSnapshot at h
  refine r_aload X 4 rfl dL_blockInSnapshot_0 2 rfl ?_
  refine r_iconst (v := 0) X rfl dL_blockInSnapshot_2 3 rfl ?_
  refine r_aload_n X 0 rfl dL_blockInSnapshot_3 4 rfl ?_
  refine r_iload_n X 1 rfl dL_blockInSnapshot_4 5 rfl ?_
  refine r_iload_n X 2 rfl dL_blockInSnapshot_5 6 rfl ?_
  refine r_iload_n X 3 rfl dL_blockInSnapshot_6 7 rfl ?_
  obtain ⟨o1, e1, h⟩ := z_bd h
  cases o1 with
  | inl E9 =>
    have h := z_oxl h
    by_cases c1_0 : E9 = "java/lang/IndexOutOfBoundsException"
    · have h := z_it c1_0 h
      subst c1_0
      refine r_hcatch (rest := [.int 0, .ref (b + a4)]) (pre := []) (x := (0, 12, 15, 13)) (suf := []) (name := "java/lang/IndexOutOfBoundsException") X R (tX6_blockInSnapshot hl G b a0 ha0 a1 a2 a3 M (r9 := .inl "java/lang/IndexOutOfBoundsException") e1) zy_X6_blockInSnapshot zw_X6_blockInSnapshot km_L_44 ha0 rfl zv_X6 rfl ⟨rfl, rfl⟩ rfl rfl (Nat.le_of_ble_eq_true rfl) rfl (fun _ h => absurd h List.not_mem_nil) rfl (by decide) kl_L_13 kcast_io dL_blockInSnapshot_7 (fun q9 => ?_)
      refine r_astore X dL_blockInSnapshot_15 17 rfl [] (by decide) [] rfl ?_
      refine r_iconst (v := 1) X rfl dL_blockInSnapshot_17 18 rfl ?_
      cases h
      exact r_hret X R (by decide) (by decide) rfl dL_blockInSnapshot_18
    · have h := z_ie c1_0 h
      cases h
  | inr x2 =>
    have h := z_oxr h
    refine r_callV (rest := [.int 0, .ref (b + a4)]) X (z_MX_ret (tX6_blockInSnapshot hl G b a0 ha0 a1 a2 a3 M (r9 := .inr x2) e1)) zy_X6_blockInSnapshot zw_X6_blockInSnapshot km_L_44 ha0 rfl zv_X6 rfl ⟨rfl, rfl⟩ ⟨rfl, rfl⟩ rfl rfl (Nat.le_of_ble_eq_true rfl) ⟨Nat.zero_le _, Nat.zero_le _⟩ dL_blockInSnapshot_7 10 rfl [.int x2, .int 0, .ref (b + a4)] rfl ?_
    refine r_i2l X dL_blockInSnapshot_10 11 rfl ?_
    obtain ⟨M3, e3, h⟩ := z_bd h
    refine r_lastore X ha4 (zn_10 ha4) e3 dL_blockInSnapshot_11 12 rfl ?_
    refine r_goto X dL_blockInSnapshot_12 19 (by decide) ?_
    refine r_iconst (v := 0) X rfl dL_blockInSnapshot_19 20 rfl ?_
    cases h
    exact r_hret X R (by decide) (by decide) rfl dL_blockInSnapshot_20
set_option maxRecDepth 100000 in
set_option maxHeartbeats 1000000 in
theorem tL_transactionOf {l : Launch} (hl : l.stackTraces = false) (G : zG) (b : Nat) (a0 : Nat) (ha0 : z_kd a0 = 6) (a1 : Int32) (a2 : Nat) (ha2 : z_kd a2 = 10) (M : zM) {r9 : Int32} {M9 : zM} (h : fL_transactionOf a0 a1 a2 M = some (r9, M9)) : z_MH l yL_transactionOf cL_transactionOf 4 (some .int) [(0, 9, 12, 13)] 8 133 G b [.ref (b + a0), .int a1, .ref (b + a2)] M (some (.int r9)) M9 := by
  refine z_meth (own := RL) hl (by decide) rfl rfl (fun Γ hΓ X R => ?_)
  subst hΓ
  show GW Γ G b 0 0 M 0 [(0, .ref (b + a0)), (1, .int a1), (2, .ref (b + a2))] []
  unfold fL_transactionOf at h
  refine r_aload_n X 2 rfl dL_transactionOf_0 1 rfl ?_
  refine r_iconst (v := 0) X rfl dL_transactionOf_1 2 rfl ?_
  refine r_aload_n X 0 rfl dL_transactionOf_2 3 rfl ?_
  refine r_iload_n X 1 rfl dL_transactionOf_3 4 rfl ?_
  obtain ⟨o1, e1, h⟩ := z_bd h
  cases o1 with
  | inl E9 =>
    have h := z_oxl h
    by_cases c1_0 : E9 = "java/lang/IndexOutOfBoundsException"
    · have h := z_it c1_0 h
      subst c1_0
      refine r_hcatch (rest := [.int 0, .ref (b + a2)]) (pre := []) (x := (0, 9, 12, 13)) (suf := []) (name := "java/lang/IndexOutOfBoundsException") X R (tX6_transactionOf hl G b a0 ha0 a1 M (r9 := .inl "java/lang/IndexOutOfBoundsException") e1) zy_X6_transactionOf zw_X6_transactionOf km_L_47 ha0 rfl zv_X6 rfl ⟨rfl, rfl⟩ rfl rfl (Nat.le_of_ble_eq_true rfl) rfl (fun _ h => absurd h List.not_mem_nil) rfl (by decide) kl_L_13 kcast_io dL_transactionOf_4 (fun q9 => ?_)
      refine r_astore_n X dL_transactionOf_12 13 rfl [] (by decide) [] rfl ?_
      refine r_iconst (v := 1) X rfl dL_transactionOf_13 14 rfl ?_
      cases h
      exact r_hret X R (by decide) (by decide) rfl dL_transactionOf_14
    · have h := z_ie c1_0 h
      cases h
  | inr x2 =>
    have h := z_oxr h
    refine r_callV (rest := [.int 0, .ref (b + a2)]) X (z_MX_ret (tX6_transactionOf hl G b a0 ha0 a1 M (r9 := .inr x2) e1)) zy_X6_transactionOf zw_X6_transactionOf km_L_47 ha0 rfl zv_X6 rfl ⟨rfl, rfl⟩ ⟨rfl, rfl⟩ rfl rfl (Nat.le_of_ble_eq_true rfl) ⟨Nat.zero_le _, Nat.zero_le _⟩ dL_transactionOf_4 7 rfl [.int x2, .int 0, .ref (b + a2)] rfl ?_
    refine r_i2l X dL_transactionOf_7 8 rfl ?_
    obtain ⟨M3, e3, h⟩ := z_bd h
    refine r_lastore X ha2 (zn_10 ha2) e3 dL_transactionOf_8 9 rfl ?_
    refine r_goto X dL_transactionOf_9 15 (by decide) ?_
    refine r_iconst (v := 0) X rfl dL_transactionOf_15 16 rfl ?_
    cases h
    exact r_hret X R (by decide) (by decide) rfl dL_transactionOf_16
set_option maxRecDepth 100000 in
set_option maxHeartbeats 1000000 in
theorem tL_datasetOf {l : Launch} (hl : l.stackTraces = false) (G : zG) (b : Nat) (a0 : Nat) (ha0 : z_kd a0 = 6) (a1 : Int32) (a2 : Nat) (ha2 : z_kd a2 = 10) (M : zM) {r9 : Int32} {M9 : zM} (h : fL_datasetOf a0 a1 a2 M = some (r9, M9)) : z_MH l yL_datasetOf cL_datasetOf 4 (some .int) [(0, 9, 12, 13)] 8 133 G b [.ref (b + a0), .int a1, .ref (b + a2)] M (some (.int r9)) M9 := by
  refine z_meth (own := RL) hl (by decide) rfl rfl (fun Γ hΓ X R => ?_)
  subst hΓ
  show GW Γ G b 0 0 M 0 [(0, .ref (b + a0)), (1, .int a1), (2, .ref (b + a2))] []
  unfold fL_datasetOf at h
  refine r_aload_n X 2 rfl dL_datasetOf_0 1 rfl ?_
  refine r_iconst (v := 0) X rfl dL_datasetOf_1 2 rfl ?_
  refine r_aload_n X 0 rfl dL_datasetOf_2 3 rfl ?_
  refine r_iload_n X 1 rfl dL_datasetOf_3 4 rfl ?_
  obtain ⟨o1, e1, h⟩ := z_bd h
  cases o1 with
  | inl E9 =>
    have h := z_oxl h
    by_cases c1_0 : E9 = "java/lang/IndexOutOfBoundsException"
    · have h := z_it c1_0 h
      subst c1_0
      refine r_hcatch (rest := [.int 0, .ref (b + a2)]) (pre := []) (x := (0, 9, 12, 13)) (suf := []) (name := "java/lang/IndexOutOfBoundsException") X R (tX6_datasetOf hl G b a0 ha0 a1 M (r9 := .inl "java/lang/IndexOutOfBoundsException") e1) zy_X6_datasetOf zw_X6_datasetOf km_L_50 ha0 rfl zv_X6 rfl ⟨rfl, rfl⟩ rfl rfl (Nat.le_of_ble_eq_true rfl) rfl (fun _ h => absurd h List.not_mem_nil) rfl (by decide) kl_L_13 kcast_io dL_datasetOf_4 (fun q9 => ?_)
      refine r_astore_n X dL_datasetOf_12 13 rfl [] (by decide) [] rfl ?_
      refine r_iconst (v := 1) X rfl dL_datasetOf_13 14 rfl ?_
      cases h
      exact r_hret X R (by decide) (by decide) rfl dL_datasetOf_14
    · have h := z_ie c1_0 h
      cases h
  | inr x2 =>
    have h := z_oxr h
    refine r_callV (rest := [.int 0, .ref (b + a2)]) X (z_MX_ret (tX6_datasetOf hl G b a0 ha0 a1 M (r9 := .inr x2) e1)) zy_X6_datasetOf zw_X6_datasetOf km_L_50 ha0 rfl zv_X6 rfl ⟨rfl, rfl⟩ ⟨rfl, rfl⟩ rfl rfl (Nat.le_of_ble_eq_true rfl) ⟨Nat.zero_le _, Nat.zero_le _⟩ dL_datasetOf_4 7 rfl [.int x2, .int 0, .ref (b + a2)] rfl ?_
    refine r_i2l X dL_datasetOf_7 8 rfl ?_
    obtain ⟨M3, e3, h⟩ := z_bd h
    refine r_lastore X ha2 (zn_10 ha2) e3 dL_datasetOf_8 9 rfl ?_
    refine r_goto X dL_datasetOf_9 15 (by decide) ?_
    refine r_iconst (v := 0) X rfl dL_datasetOf_15 16 rfl ?_
    cases h
    exact r_hret X R (by decide) (by decide) rfl dL_datasetOf_16
set_option maxRecDepth 100000 in
set_option maxHeartbeats 1000000 in
theorem tL_snapshots {l : Launch} (hl : l.stackTraces = false) (G : zG) (b : Nat) (a0 : Nat) (ha0 : z_kd a0 = 6) (a1 : Int32) (a2 : Nat) (ha2 : z_kd a2 = 10) (M : zM) {r9 : Int32} {M9 : zM} (h : fL_snapshots a0 a1 a2 M = some (r9, M9)) : z_MH l yL_snapshots cL_snapshots 4 (some .int) [(0, 9, 12, 13)] 8 133 G b [.ref (b + a0), .int a1, .ref (b + a2)] M (some (.int r9)) M9 := by
  refine z_meth (own := RL) hl (by decide) rfl rfl (fun Γ hΓ X R => ?_)
  subst hΓ
  show GW Γ G b 0 0 M 0 [(0, .ref (b + a0)), (1, .int a1), (2, .ref (b + a2))] []
  unfold fL_snapshots at h
  refine r_aload_n X 2 rfl dL_snapshots_0 1 rfl ?_
  refine r_iconst (v := 0) X rfl dL_snapshots_1 2 rfl ?_
  refine r_aload_n X 0 rfl dL_snapshots_2 3 rfl ?_
  refine r_iload_n X 1 rfl dL_snapshots_3 4 rfl ?_
  obtain ⟨o1, e1, h⟩ := z_bd h
  cases o1 with
  | inl E9 =>
    have h := z_oxl h
    by_cases c1_0 : E9 = "java/lang/IndexOutOfBoundsException"
    · have h := z_it c1_0 h
      subst c1_0
      refine r_hcatch (rest := [.int 0, .ref (b + a2)]) (pre := []) (x := (0, 9, 12, 13)) (suf := []) (name := "java/lang/IndexOutOfBoundsException") X R (tX6_snapshots hl G b a0 ha0 a1 M (r9 := .inl "java/lang/IndexOutOfBoundsException") e1) zy_X6_snapshots zw_X6_snapshots km_L_53 ha0 rfl zv_X6 rfl ⟨rfl, rfl⟩ rfl rfl (Nat.le_of_ble_eq_true rfl) rfl (fun _ h => absurd h List.not_mem_nil) rfl (by decide) kl_L_13 kcast_io dL_snapshots_4 (fun q9 => ?_)
      refine r_astore_n X dL_snapshots_12 13 rfl [] (by decide) [] rfl ?_
      refine r_iconst (v := 1) X rfl dL_snapshots_13 14 rfl ?_
      cases h
      exact r_hret X R (by decide) (by decide) rfl dL_snapshots_14
    · have h := z_ie c1_0 h
      cases h
  | inr x2 =>
    have h := z_oxr h
    refine r_callV (rest := [.int 0, .ref (b + a2)]) X (z_MX_ret (tX6_snapshots hl G b a0 ha0 a1 M (r9 := .inr x2) e1)) zy_X6_snapshots zw_X6_snapshots km_L_53 ha0 rfl zv_X6 rfl ⟨rfl, rfl⟩ ⟨rfl, rfl⟩ rfl rfl (Nat.le_of_ble_eq_true rfl) ⟨Nat.zero_le _, Nat.zero_le _⟩ dL_snapshots_4 7 rfl [.int x2, .int 0, .ref (b + a2)] rfl ?_
    refine r_i2l X dL_snapshots_7 8 rfl ?_
    obtain ⟨M3, e3, h⟩ := z_bd h
    refine r_lastore X ha2 (zn_10 ha2) e3 dL_snapshots_8 9 rfl ?_
    refine r_goto X dL_snapshots_9 15 (by decide) ?_
    refine r_iconst (v := 0) X rfl dL_snapshots_15 16 rfl ?_
    cases h
    exact r_hret X R (by decide) (by decide) rfl dL_snapshots_16
set_option maxRecDepth 100000 in
set_option maxHeartbeats 1000000 in
theorem tL_snapshotAt {l : Launch} (hl : l.stackTraces = false) (G : zG) (b : Nat) (a0 : Nat) (ha0 : z_kd a0 = 6) (a1 : Int32) (a2 : Int32) (a3 : Nat) (ha3 : z_kd a3 = 10) (M : zM) {r9 : Int32} {M9 : zM} (h : fL_snapshotAt a0 a1 a2 a3 M = some (r9, M9)) : z_MH l yL_snapshotAt cL_snapshotAt 5 (some .int) [(0, 10, 13, 13)] 8 135 G b [.ref (b + a0), .int a1, .int a2, .ref (b + a3)] M (some (.int r9)) M9 := by
  refine z_meth (own := RL) hl (by decide) rfl rfl (fun Γ hΓ X R => ?_)
  subst hΓ
  show GW Γ G b 0 0 M 0 [(0, .ref (b + a0)), (1, .int a1), (2, .int a2), (3, .ref (b + a3))] []
  unfold fL_snapshotAt at h
  refine r_aload_n X 3 rfl dL_snapshotAt_0 1 rfl ?_
  refine r_iconst (v := 0) X rfl dL_snapshotAt_1 2 rfl ?_
  refine r_aload_n X 0 rfl dL_snapshotAt_2 3 rfl ?_
  refine r_iload_n X 1 rfl dL_snapshotAt_3 4 rfl ?_
  refine r_iload_n X 2 rfl dL_snapshotAt_4 5 rfl ?_
  obtain ⟨o1, e1, h⟩ := z_bd h
  cases o1 with
  | inl E9 =>
    have h := z_oxl h
    by_cases c1_0 : E9 = "java/lang/IndexOutOfBoundsException"
    · have h := z_it c1_0 h
      subst c1_0
      refine r_hcatch (rest := [.int 0, .ref (b + a3)]) (pre := []) (x := (0, 10, 13, 13)) (suf := []) (name := "java/lang/IndexOutOfBoundsException") X R (tX6_snapshotAt hl G b a0 ha0 a1 a2 M (r9 := .inl "java/lang/IndexOutOfBoundsException") e1) zy_X6_snapshotAt zw_X6_snapshotAt km_L_56 ha0 rfl zv_X6 rfl ⟨rfl, rfl⟩ rfl rfl (Nat.le_of_ble_eq_true rfl) rfl (fun _ h => absurd h List.not_mem_nil) rfl (by decide) kl_L_13 kcast_io dL_snapshotAt_5 (fun q9 => ?_)
      refine r_astore X dL_snapshotAt_13 15 rfl [] (by decide) [] rfl ?_
      refine r_iconst (v := 1) X rfl dL_snapshotAt_15 16 rfl ?_
      cases h
      exact r_hret X R (by decide) (by decide) rfl dL_snapshotAt_16
    · have h := z_ie c1_0 h
      cases h
  | inr x2 =>
    have h := z_oxr h
    refine r_callV (rest := [.int 0, .ref (b + a3)]) X (z_MX_ret (tX6_snapshotAt hl G b a0 ha0 a1 a2 M (r9 := .inr x2) e1)) zy_X6_snapshotAt zw_X6_snapshotAt km_L_56 ha0 rfl zv_X6 rfl ⟨rfl, rfl⟩ ⟨rfl, rfl⟩ rfl rfl (Nat.le_of_ble_eq_true rfl) ⟨Nat.zero_le _, Nat.zero_le _⟩ dL_snapshotAt_5 8 rfl [.int x2, .int 0, .ref (b + a3)] rfl ?_
    refine r_i2l X dL_snapshotAt_8 9 rfl ?_
    obtain ⟨M3, e3, h⟩ := z_bd h
    refine r_lastore X ha3 (zn_10 ha3) e3 dL_snapshotAt_9 10 rfl ?_
    refine r_goto X dL_snapshotAt_10 17 (by decide) ?_
    refine r_iconst (v := 0) X rfl dL_snapshotAt_17 18 rfl ?_
    cases h
    exact r_hret X R (by decide) (by decide) rfl dL_snapshotAt_18
set_option maxRecDepth 100000 in
set_option maxHeartbeats 1000000 in
theorem tL_destroySnapshot {l : Launch} (hl : l.stackTraces = false) (G : zG) (b : Nat) (a0 : Nat) (ha0 : z_kd a0 = 6) (a1 : Int32) (a2 : Nat) (ha2 : z_kd a2 = 10) (M : zM) {r9 : Int32} {M9 : zM} (h : fL_destroySnapshot a0 a1 a2 M = some (r9, M9)) : z_MH l yL_destroySnapshot cL_destroySnapshot 4 (some .int) [(0, 9, 12, 13), (0, 9, 15, 15)] 8 134 G b [.ref (b + a0), .int a1, .ref (b + a2)] M (some (.int r9)) M9 := by
  refine z_meth (own := RL) hl (by decide) rfl rfl (fun Γ hΓ X R => ?_)
  subst hΓ
  show GW Γ G b 0 0 M 0 [(0, .ref (b + a0)), (1, .int a1), (2, .ref (b + a2))] []
  unfold fL_destroySnapshot at h
  refine r_aload_n X 2 rfl dL_destroySnapshot_0 1 rfl ?_
  refine r_iconst (v := 0) X rfl dL_destroySnapshot_1 2 rfl ?_
  refine r_aload_n X 0 rfl dL_destroySnapshot_2 3 rfl ?_
  refine r_iload_n X 1 rfl dL_destroySnapshot_3 4 rfl ?_
  obtain ⟨o1, M3, e1, h⟩ := z_bd2 h
  cases o1 with
  | inl E9 =>
    have h := z_oxl h
    by_cases c1_0 : E9 = "java/lang/IndexOutOfBoundsException"
    · have h := z_it c1_0 h
      subst c1_0
      refine r_hcatch (rest := [.int 0, .ref (b + a2)]) (pre := []) (x := (0, 9, 12, 13)) (suf := [(0, 9, 15, 15)]) (name := "java/lang/IndexOutOfBoundsException") X R (tX6_destroySnapshot hl G b a0 ha0 a1 M (r9 := .inl "java/lang/IndexOutOfBoundsException") e1) zy_X6_destroySnapshot zw_X6_destroySnapshot km_L_59 ha0 rfl zv_X6 rfl ⟨rfl, rfl⟩ rfl rfl (Nat.le_of_ble_eq_true rfl) rfl (fun _ h => absurd h List.not_mem_nil) rfl (by decide) kl_L_13 kcast_io dL_destroySnapshot_4 (fun q9 => ?_)
      refine r_astore_n X dL_destroySnapshot_12 13 rfl [] (by decide) [] rfl ?_
      refine r_iconst (v := 1) X rfl dL_destroySnapshot_13 14 rfl ?_
      cases h
      exact r_hret X R (by decide) (by decide) rfl dL_destroySnapshot_14
    · have h := z_ie c1_0 h
      by_cases c1_1 : E9 = "java/lang/IllegalStateException"
      · have h := z_it c1_1 h
        subst c1_1
        refine r_hcatch (rest := [.int 0, .ref (b + a2)]) (pre := [(0, 9, 12, 13)]) (x := (0, 9, 15, 15)) (suf := []) (name := "java/lang/IllegalStateException") X R (tX6_destroySnapshot hl G b a0 ha0 a1 M (r9 := .inl "java/lang/IllegalStateException") e1) zy_X6_destroySnapshot zw_X6_destroySnapshot km_L_59 ha0 rfl zv_X6 rfl ⟨rfl, rfl⟩ rfl rfl (Nat.le_of_ble_eq_true rfl) rfl (List.forall_mem_cons.mpr ⟨⟨by decide, _, kl_L_13, List.mem_of_getElem? (i := 0) rfl⟩, (fun _ h => absurd h List.not_mem_nil)⟩) rfl (by decide) kl_L_15 kcast_is dL_destroySnapshot_4 (fun q9 => ?_)
        refine r_astore_n X dL_destroySnapshot_15 16 rfl [] (by decide) [] rfl ?_
        refine r_iconst (v := 2) X rfl dL_destroySnapshot_16 17 rfl ?_
        cases h
        exact r_hret X R (by decide) (by decide) rfl dL_destroySnapshot_17
      · have h := z_ie c1_1 h
        cases h
  | inr x2 =>
    have h := z_oxr h
    refine r_callV (rest := [.int 0, .ref (b + a2)]) X (z_MX_ret (tX6_destroySnapshot hl G b a0 ha0 a1 M (r9 := .inr x2) e1)) zy_X6_destroySnapshot zw_X6_destroySnapshot km_L_59 ha0 rfl zv_X6 rfl ⟨rfl, rfl⟩ ⟨rfl, rfl⟩ rfl rfl (Nat.le_of_ble_eq_true rfl) ⟨Nat.zero_le _, Nat.zero_le _⟩ dL_destroySnapshot_4 7 rfl [.int x2, .int 0, .ref (b + a2)] rfl ?_
    refine r_i2l X dL_destroySnapshot_7 8 rfl ?_
    obtain ⟨M4, e4, h⟩ := z_bd h
    refine r_lastore X ha2 (zn_10 ha2) e4 dL_destroySnapshot_8 9 rfl ?_
    refine r_goto X dL_destroySnapshot_9 18 (by decide) ?_
    refine r_iconst (v := 0) X rfl dL_destroySnapshot_18 19 rfl ?_
    cases h
    exact r_hret X R (by decide) (by decide) rfl dL_destroySnapshot_19
set_option maxRecDepth 100000 in
set_option maxHeartbeats 1000000 in
theorem tL_rollback {l : Launch} (hl : l.stackTraces = false) (G : zG) (b : Nat) (a0 : Nat) (ha0 : z_kd a0 = 6) (a1 : Int32) (a2 : Int32) (a3 : Nat) (ha3 : z_kd a3 = 10) (M : zM) {r9 : Int32} {M9 : zM} (h : fL_rollback a0 a1 a2 a3 M = some (r9, M9)) : z_MH l yL_rollback cL_rollback 5 (some .int) [(0, 10, 13, 13), (0, 10, 17, 31), (0, 10, 21, 15)] 8 156 G b [.ref (b + a0), .int a1, .int a2, .ref (b + a3)] M (some (.int r9)) M9 := by
  refine z_meth (own := RL) hl (by decide) rfl rfl (fun Γ hΓ X R => ?_)
  subst hΓ
  show GW Γ G b 0 0 M 0 [(0, .ref (b + a0)), (1, .int a1), (2, .int a2), (3, .ref (b + a3))] []
  unfold fL_rollback at h
  refine r_aload_n X 3 rfl dL_rollback_0 1 rfl ?_
  refine r_iconst (v := 0) X rfl dL_rollback_1 2 rfl ?_
  refine r_aload_n X 0 rfl dL_rollback_2 3 rfl ?_
  refine r_iload_n X 1 rfl dL_rollback_3 4 rfl ?_
  refine r_iload_n X 2 rfl dL_rollback_4 5 rfl ?_
  obtain ⟨o1, M3, e1, h⟩ := z_bd2 h
  cases o1 with
  | inl E9 =>
    have h := z_oxl h
    by_cases c1_0 : E9 = "java/lang/IndexOutOfBoundsException"
    · have h := z_it c1_0 h
      subst c1_0
      refine r_hcatch (rest := [.int 0, .ref (b + a3)]) (pre := []) (x := (0, 10, 13, 13)) (suf := [(0, 10, 17, 31), (0, 10, 21, 15)]) (name := "java/lang/IndexOutOfBoundsException") X R (tX6_rollback hl G b a0 ha0 a1 a2 M (r9 := .inl "java/lang/IndexOutOfBoundsException") e1) zy_X6_rollback zw_X6_rollback km_L_62 ha0 rfl zv_X6 rfl ⟨rfl, rfl⟩ rfl rfl (Nat.le_of_ble_eq_true rfl) rfl (fun _ h => absurd h List.not_mem_nil) rfl (by decide) kl_L_13 kcast_io dL_rollback_5 (fun q9 => ?_)
      refine r_astore X dL_rollback_13 15 rfl [] (by decide) [] rfl ?_
      refine r_iconst (v := 1) X rfl dL_rollback_15 16 rfl ?_
      cases h
      exact r_hret X R (by decide) (by decide) rfl dL_rollback_16
    · have h := z_ie c1_0 h
      by_cases c1_1 : E9 = "java/lang/IllegalArgumentException"
      · have h := z_it c1_1 h
        subst c1_1
        refine r_hcatch (rest := [.int 0, .ref (b + a3)]) (pre := [(0, 10, 13, 13)]) (x := (0, 10, 17, 31)) (suf := [(0, 10, 21, 15)]) (name := "java/lang/IllegalArgumentException") X R (tX6_rollback hl G b a0 ha0 a1 a2 M (r9 := .inl "java/lang/IllegalArgumentException") e1) zy_X6_rollback zw_X6_rollback km_L_62 ha0 rfl zv_X6 rfl ⟨rfl, rfl⟩ rfl rfl (Nat.le_of_ble_eq_true rfl) rfl (List.forall_mem_cons.mpr ⟨⟨by decide, _, kl_L_13, List.mem_of_getElem? (i := 1) rfl⟩, (fun _ h => absurd h List.not_mem_nil)⟩) rfl (by decide) kl_L_31 kcast_ia dL_rollback_5 (fun q9 => ?_)
        refine r_astore X dL_rollback_17 19 rfl [] (by decide) [] rfl ?_
        refine r_iconst (v := 2) X rfl dL_rollback_19 20 rfl ?_
        cases h
        exact r_hret X R (by decide) (by decide) rfl dL_rollback_20
      · have h := z_ie c1_1 h
        by_cases c1_2 : E9 = "java/lang/IllegalStateException"
        · have h := z_it c1_2 h
          subst c1_2
          refine r_hcatch (rest := [.int 0, .ref (b + a3)]) (pre := [(0, 10, 13, 13), (0, 10, 17, 31)]) (x := (0, 10, 21, 15)) (suf := []) (name := "java/lang/IllegalStateException") X R (tX6_rollback hl G b a0 ha0 a1 a2 M (r9 := .inl "java/lang/IllegalStateException") e1) zy_X6_rollback zw_X6_rollback km_L_62 ha0 rfl zv_X6 rfl ⟨rfl, rfl⟩ rfl rfl (Nat.le_of_ble_eq_true rfl) rfl (List.forall_mem_cons.mpr ⟨⟨by decide, _, kl_L_13, List.mem_of_getElem? (i := 0) rfl⟩, (List.forall_mem_cons.mpr ⟨⟨by decide, _, kl_L_31, List.mem_of_getElem? (i := 2) rfl⟩, (fun _ h => absurd h List.not_mem_nil)⟩)⟩) rfl (by decide) kl_L_15 kcast_is dL_rollback_5 (fun q9 => ?_)
          refine r_astore X dL_rollback_21 23 rfl [] (by decide) [] rfl ?_
          refine r_iconst (v := 3) X rfl dL_rollback_23 24 rfl ?_
          cases h
          exact r_hret X R (by decide) (by decide) rfl dL_rollback_24
        · have h := z_ie c1_2 h
          cases h
  | inr x2 =>
    have h := z_oxr h
    refine r_callV (rest := [.int 0, .ref (b + a3)]) X (z_MX_ret (tX6_rollback hl G b a0 ha0 a1 a2 M (r9 := .inr x2) e1)) zy_X6_rollback zw_X6_rollback km_L_62 ha0 rfl zv_X6 rfl ⟨rfl, rfl⟩ ⟨rfl, rfl⟩ rfl rfl (Nat.le_of_ble_eq_true rfl) ⟨Nat.zero_le _, Nat.zero_le _⟩ dL_rollback_5 8 rfl [.int x2, .int 0, .ref (b + a3)] rfl ?_
    refine r_i2l X dL_rollback_8 9 rfl ?_
    obtain ⟨M4, e4, h⟩ := z_bd h
    refine r_lastore X ha3 (zn_10 ha3) e4 dL_rollback_9 10 rfl ?_
    refine r_goto X dL_rollback_10 25 (by decide) ?_
    refine r_iconst (v := 0) X rfl dL_rollback_25 26 rfl ?_
    cases h
    exact r_hret X R (by decide) (by decide) rfl dL_rollback_26
set_option maxRecDepth 100000 in
set_option maxHeartbeats 1000000 in
theorem tL_changed {l : Launch} (hl : l.stackTraces = false) (G : zG) (b : Nat) (a0 : Nat) (ha0 : z_kd a0 = 6) (a1 : Int32) (a2 : Int32) (a3 : Nat) (ha3 : z_kd a3 = 10) (M : zM) {r9 : Int32} {M9 : zM} (h : fL_changed a0 a1 a2 a3 M = some (r9, M9)) : z_MH l yL_changed cL_changed 5 (some .int) [(0, 10, 13, 13)] 8 138 G b [.ref (b + a0), .int a1, .int a2, .ref (b + a3)] M (some (.int r9)) M9 := by
  refine z_meth (own := RL) hl (by decide) rfl rfl (fun Γ hΓ X R => ?_)
  subst hΓ
  show GW Γ G b 0 0 M 0 [(0, .ref (b + a0)), (1, .int a1), (2, .int a2), (3, .ref (b + a3))] []
  unfold fL_changed at h
  refine r_aload_n X 3 rfl dL_changed_0 1 rfl ?_
  refine r_iconst (v := 0) X rfl dL_changed_1 2 rfl ?_
  refine r_aload_n X 0 rfl dL_changed_2 3 rfl ?_
  refine r_iload_n X 1 rfl dL_changed_3 4 rfl ?_
  refine r_iload_n X 2 rfl dL_changed_4 5 rfl ?_
  obtain ⟨o1, e1, h⟩ := z_bd h
  cases o1 with
  | inl E9 =>
    have h := z_oxl h
    by_cases c1_0 : E9 = "java/lang/IndexOutOfBoundsException"
    · have h := z_it c1_0 h
      subst c1_0
      refine r_hcatch (rest := [.int 0, .ref (b + a3)]) (pre := []) (x := (0, 10, 13, 13)) (suf := []) (name := "java/lang/IndexOutOfBoundsException") X R (tX6_changed hl G b a0 ha0 a1 a2 M (r9 := .inl "java/lang/IndexOutOfBoundsException") e1) zy_X6_changed zw_X6_changed km_L_65 ha0 rfl zv_X6 rfl ⟨rfl, rfl⟩ rfl rfl (Nat.le_of_ble_eq_true rfl) rfl (fun _ h => absurd h List.not_mem_nil) rfl (by decide) kl_L_13 kcast_io dL_changed_5 (fun q9 => ?_)
      refine r_astore X dL_changed_13 15 rfl [] (by decide) [] rfl ?_
      refine r_iconst (v := 1) X rfl dL_changed_15 16 rfl ?_
      cases h
      exact r_hret X R (by decide) (by decide) rfl dL_changed_16
    · have h := z_ie c1_0 h
      cases h
  | inr x2 =>
    have h := z_oxr h
    refine r_callV (rest := [.int 0, .ref (b + a3)]) X (z_MX_ret (tX6_changed hl G b a0 ha0 a1 a2 M (r9 := .inr x2) e1)) zy_X6_changed zw_X6_changed km_L_65 ha0 rfl zv_X6 rfl ⟨rfl, rfl⟩ ⟨rfl, rfl⟩ rfl rfl (Nat.le_of_ble_eq_true rfl) ⟨Nat.zero_le _, Nat.zero_le _⟩ dL_changed_5 8 rfl [.int x2, .int 0, .ref (b + a3)] rfl ?_
    refine r_i2l X dL_changed_8 9 rfl ?_
    obtain ⟨M3, e3, h⟩ := z_bd h
    refine r_lastore X ha3 (zn_10 ha3) e3 dL_changed_9 10 rfl ?_
    refine r_goto X dL_changed_10 17 (by decide) ?_
    refine r_iconst (v := 0) X rfl dL_changed_17 18 rfl ?_
    cases h
    exact r_hret X R (by decide) (by decide) rfl dL_changed_18
set_option maxRecDepth 100000 in
set_option maxHeartbeats 1000000 in
theorem tL_makeClone {l : Launch} (hl : l.stackTraces = false) (G : zG) (b : Nat) (a0 : Nat) (ha0 : z_kd a0 = 6) (a1 : Int32) (a2 : Nat) (ha2 : z_kd a2 = 10) (M : zM) {r9 : Int32} {M9 : zM} (h : fL_makeClone a0 a1 a2 M = some (r9, M9)) : z_MH l yL_makeClone cL_makeClone 4 (some .int) [(0, 9, 12, 13), (0, 9, 15, 15)] 8 135 G b [.ref (b + a0), .int a1, .ref (b + a2)] M (some (.int r9)) M9 := by
  refine z_meth (own := RL) hl (by decide) rfl rfl (fun Γ hΓ X R => ?_)
  subst hΓ
  show GW Γ G b 0 0 M 0 [(0, .ref (b + a0)), (1, .int a1), (2, .ref (b + a2))] []
  unfold fL_makeClone at h
  refine r_aload_n X 2 rfl dL_makeClone_0 1 rfl ?_
  refine r_iconst (v := 0) X rfl dL_makeClone_1 2 rfl ?_
  refine r_aload_n X 0 rfl dL_makeClone_2 3 rfl ?_
  refine r_iload_n X 1 rfl dL_makeClone_3 4 rfl ?_
  obtain ⟨o1, M3, e1, h⟩ := z_bd2 h
  cases o1 with
  | inl E9 =>
    have h := z_oxl h
    by_cases c1_0 : E9 = "java/lang/IndexOutOfBoundsException"
    · have h := z_it c1_0 h
      subst c1_0
      refine r_hcatch (rest := [.int 0, .ref (b + a2)]) (pre := []) (x := (0, 9, 12, 13)) (suf := [(0, 9, 15, 15)]) (name := "java/lang/IndexOutOfBoundsException") X R (tX6_makeClone hl G b a0 ha0 a1 M (r9 := .inl "java/lang/IndexOutOfBoundsException") e1) zy_X6_makeClone zw_X6_makeClone km_L_68 ha0 rfl zv_X6 rfl ⟨rfl, rfl⟩ rfl rfl (Nat.le_of_ble_eq_true rfl) rfl (fun _ h => absurd h List.not_mem_nil) rfl (by decide) kl_L_13 kcast_io dL_makeClone_4 (fun q9 => ?_)
      refine r_astore_n X dL_makeClone_12 13 rfl [] (by decide) [] rfl ?_
      refine r_iconst (v := 1) X rfl dL_makeClone_13 14 rfl ?_
      cases h
      exact r_hret X R (by decide) (by decide) rfl dL_makeClone_14
    · have h := z_ie c1_0 h
      by_cases c1_1 : E9 = "java/lang/IllegalStateException"
      · have h := z_it c1_1 h
        subst c1_1
        refine r_hcatch (rest := [.int 0, .ref (b + a2)]) (pre := [(0, 9, 12, 13)]) (x := (0, 9, 15, 15)) (suf := []) (name := "java/lang/IllegalStateException") X R (tX6_makeClone hl G b a0 ha0 a1 M (r9 := .inl "java/lang/IllegalStateException") e1) zy_X6_makeClone zw_X6_makeClone km_L_68 ha0 rfl zv_X6 rfl ⟨rfl, rfl⟩ rfl rfl (Nat.le_of_ble_eq_true rfl) rfl (List.forall_mem_cons.mpr ⟨⟨by decide, _, kl_L_13, List.mem_of_getElem? (i := 0) rfl⟩, (fun _ h => absurd h List.not_mem_nil)⟩) rfl (by decide) kl_L_15 kcast_is dL_makeClone_4 (fun q9 => ?_)
        refine r_astore_n X dL_makeClone_15 16 rfl [] (by decide) [] rfl ?_
        refine r_iconst (v := 2) X rfl dL_makeClone_16 17 rfl ?_
        cases h
        exact r_hret X R (by decide) (by decide) rfl dL_makeClone_17
      · have h := z_ie c1_1 h
        cases h
  | inr x2 =>
    have h := z_oxr h
    refine r_callV (rest := [.int 0, .ref (b + a2)]) X (z_MX_ret (tX6_makeClone hl G b a0 ha0 a1 M (r9 := .inr x2) e1)) zy_X6_makeClone zw_X6_makeClone km_L_68 ha0 rfl zv_X6 rfl ⟨rfl, rfl⟩ ⟨rfl, rfl⟩ rfl rfl (Nat.le_of_ble_eq_true rfl) ⟨Nat.zero_le _, Nat.zero_le _⟩ dL_makeClone_4 7 rfl [.int x2, .int 0, .ref (b + a2)] rfl ?_
    refine r_i2l X dL_makeClone_7 8 rfl ?_
    obtain ⟨M4, e4, h⟩ := z_bd h
    refine r_lastore X ha2 (zn_10 ha2) e4 dL_makeClone_8 9 rfl ?_
    refine r_goto X dL_makeClone_9 18 (by decide) ?_
    refine r_iconst (v := 0) X rfl dL_makeClone_18 19 rfl ?_
    cases h
    exact r_hret X R (by decide) (by decide) rfl dL_makeClone_19
set_option maxRecDepth 100000 in
set_option maxHeartbeats 1000000 in
theorem tL_origin {l : Launch} (hl : l.stackTraces = false) (G : zG) (b : Nat) (a0 : Nat) (ha0 : z_kd a0 = 6) (a1 : Int32) (a2 : Nat) (ha2 : z_kd a2 = 10) (M : zM) {r9 : Int32} {M9 : zM} (h : fL_origin a0 a1 a2 M = some (r9, M9)) : z_MH l yL_origin cL_origin 4 (some .int) [(0, 9, 12, 13)] 8 133 G b [.ref (b + a0), .int a1, .ref (b + a2)] M (some (.int r9)) M9 := by
  refine z_meth (own := RL) hl (by decide) rfl rfl (fun Γ hΓ X R => ?_)
  subst hΓ
  show GW Γ G b 0 0 M 0 [(0, .ref (b + a0)), (1, .int a1), (2, .ref (b + a2))] []
  unfold fL_origin at h
  refine r_aload_n X 2 rfl dL_origin_0 1 rfl ?_
  refine r_iconst (v := 0) X rfl dL_origin_1 2 rfl ?_
  refine r_aload_n X 0 rfl dL_origin_2 3 rfl ?_
  refine r_iload_n X 1 rfl dL_origin_3 4 rfl ?_
  obtain ⟨o1, e1, h⟩ := z_bd h
  cases o1 with
  | inl E9 =>
    have h := z_oxl h
    by_cases c1_0 : E9 = "java/lang/IndexOutOfBoundsException"
    · have h := z_it c1_0 h
      subst c1_0
      refine r_hcatch (rest := [.int 0, .ref (b + a2)]) (pre := []) (x := (0, 9, 12, 13)) (suf := []) (name := "java/lang/IndexOutOfBoundsException") X R (tX6_origin hl G b a0 ha0 a1 M (r9 := .inl "java/lang/IndexOutOfBoundsException") e1) zy_X6_origin zw_X6_origin km_L_71 ha0 rfl zv_X6 rfl ⟨rfl, rfl⟩ rfl rfl (Nat.le_of_ble_eq_true rfl) rfl (fun _ h => absurd h List.not_mem_nil) rfl (by decide) kl_L_13 kcast_io dL_origin_4 (fun q9 => ?_)
      refine r_astore_n X dL_origin_12 13 rfl [] (by decide) [] rfl ?_
      refine r_iconst (v := 1) X rfl dL_origin_13 14 rfl ?_
      cases h
      exact r_hret X R (by decide) (by decide) rfl dL_origin_14
    · have h := z_ie c1_0 h
      cases h
  | inr x2 =>
    have h := z_oxr h
    refine r_callV (rest := [.int 0, .ref (b + a2)]) X (z_MX_ret (tX6_origin hl G b a0 ha0 a1 M (r9 := .inr x2) e1)) zy_X6_origin zw_X6_origin km_L_71 ha0 rfl zv_X6 rfl ⟨rfl, rfl⟩ ⟨rfl, rfl⟩ rfl rfl (Nat.le_of_ble_eq_true rfl) ⟨Nat.zero_le _, Nat.zero_le _⟩ dL_origin_4 7 rfl [.int x2, .int 0, .ref (b + a2)] rfl ?_
    refine r_i2l X dL_origin_7 8 rfl ?_
    obtain ⟨M3, e3, h⟩ := z_bd h
    refine r_lastore X ha2 (zn_10 ha2) e3 dL_origin_8 9 rfl ?_
    refine r_goto X dL_origin_9 15 (by decide) ?_
    refine r_iconst (v := 0) X rfl dL_origin_15 16 rfl ?_
    cases h
    exact r_hret X R (by decide) (by decide) rfl dL_origin_16
set_option maxRecDepth 100000 in
set_option maxHeartbeats 1000000 in
theorem tL_promote {l : Launch} (hl : l.stackTraces = false) (G : zG) (b : Nat) (a0 : Nat) (ha0 : z_kd a0 = 6) (a1 : Int32) (a2 : Nat) (ha2 : z_kd a2 = 10) (M : zM) {r9 : Int32} {M9 : zM} (h : fL_promote a0 a1 a2 M = some (r9, M9)) : z_MH l yL_promote cL_promote 4 (some .int) [(0, 9, 12, 13), (0, 9, 15, 15)] 8 136 G b [.ref (b + a0), .int a1, .ref (b + a2)] M (some (.int r9)) M9 := by
  refine z_meth (own := RL) hl (by decide) rfl rfl (fun Γ hΓ X R => ?_)
  subst hΓ
  show GW Γ G b 0 0 M 0 [(0, .ref (b + a0)), (1, .int a1), (2, .ref (b + a2))] []
  unfold fL_promote at h
  refine r_aload_n X 2 rfl dL_promote_0 1 rfl ?_
  refine r_iconst (v := 0) X rfl dL_promote_1 2 rfl ?_
  refine r_aload_n X 0 rfl dL_promote_2 3 rfl ?_
  refine r_iload_n X 1 rfl dL_promote_3 4 rfl ?_
  obtain ⟨o1, M3, e1, h⟩ := z_bd2 h
  cases o1 with
  | inl E9 =>
    have h := z_oxl h
    by_cases c1_0 : E9 = "java/lang/IndexOutOfBoundsException"
    · have h := z_it c1_0 h
      subst c1_0
      refine r_hcatch (rest := [.int 0, .ref (b + a2)]) (pre := []) (x := (0, 9, 12, 13)) (suf := [(0, 9, 15, 15)]) (name := "java/lang/IndexOutOfBoundsException") X R (tX6_promote hl G b a0 ha0 a1 M (r9 := .inl "java/lang/IndexOutOfBoundsException") e1) zy_X6_promote zw_X6_promote km_L_74 ha0 rfl zv_X6 rfl ⟨rfl, rfl⟩ rfl rfl (Nat.le_of_ble_eq_true rfl) rfl (fun _ h => absurd h List.not_mem_nil) rfl (by decide) kl_L_13 kcast_io dL_promote_4 (fun q9 => ?_)
      refine r_astore_n X dL_promote_12 13 rfl [] (by decide) [] rfl ?_
      refine r_iconst (v := 1) X rfl dL_promote_13 14 rfl ?_
      cases h
      exact r_hret X R (by decide) (by decide) rfl dL_promote_14
    · have h := z_ie c1_0 h
      by_cases c1_1 : E9 = "java/lang/IllegalStateException"
      · have h := z_it c1_1 h
        subst c1_1
        refine r_hcatch (rest := [.int 0, .ref (b + a2)]) (pre := [(0, 9, 12, 13)]) (x := (0, 9, 15, 15)) (suf := []) (name := "java/lang/IllegalStateException") X R (tX6_promote hl G b a0 ha0 a1 M (r9 := .inl "java/lang/IllegalStateException") e1) zy_X6_promote zw_X6_promote km_L_74 ha0 rfl zv_X6 rfl ⟨rfl, rfl⟩ rfl rfl (Nat.le_of_ble_eq_true rfl) rfl (List.forall_mem_cons.mpr ⟨⟨by decide, _, kl_L_13, List.mem_of_getElem? (i := 0) rfl⟩, (fun _ h => absurd h List.not_mem_nil)⟩) rfl (by decide) kl_L_15 kcast_is dL_promote_4 (fun q9 => ?_)
        refine r_astore_n X dL_promote_15 16 rfl [] (by decide) [] rfl ?_
        refine r_iconst (v := 2) X rfl dL_promote_16 17 rfl ?_
        cases h
        exact r_hret X R (by decide) (by decide) rfl dL_promote_17
      · have h := z_ie c1_1 h
        cases h
  | inr x2 =>
    have h := z_oxr h
    refine r_callV (rest := [.int 0, .ref (b + a2)]) X (z_MX_ret (tX6_promote hl G b a0 ha0 a1 M (r9 := .inr x2) e1)) zy_X6_promote zw_X6_promote km_L_74 ha0 rfl zv_X6 rfl ⟨rfl, rfl⟩ ⟨rfl, rfl⟩ rfl rfl (Nat.le_of_ble_eq_true rfl) ⟨Nat.zero_le _, Nat.zero_le _⟩ dL_promote_4 7 rfl [.int x2, .int 0, .ref (b + a2)] rfl ?_
    refine r_i2l X dL_promote_7 8 rfl ?_
    obtain ⟨M4, e4, h⟩ := z_bd h
    refine r_lastore X ha2 (zn_10 ha2) e4 dL_promote_8 9 rfl ?_
    refine r_goto X dL_promote_9 18 (by decide) ?_
    refine r_iconst (v := 0) X rfl dL_promote_18 19 rfl ?_
    cases h
    exact r_hret X R (by decide) (by decide) rfl dL_promote_19
set_option maxRecDepth 100000 in
set_option maxHeartbeats 1000000 in
theorem tL_destroy {l : Launch} (hl : l.stackTraces = false) (G : zG) (b : Nat) (a0 : Nat) (ha0 : z_kd a0 = 6) (a1 : Int32) (a2 : Nat) (ha2 : z_kd a2 = 10) (M : zM) {r9 : Int32} {M9 : zM} (h : fL_destroy a0 a1 a2 M = some (r9, M9)) : z_MH l yL_destroy cL_destroy 4 (some .int) [(0, 9, 12, 13), (0, 9, 15, 15)] 8 134 G b [.ref (b + a0), .int a1, .ref (b + a2)] M (some (.int r9)) M9 := by
  refine z_meth (own := RL) hl (by decide) rfl rfl (fun Γ hΓ X R => ?_)
  subst hΓ
  show GW Γ G b 0 0 M 0 [(0, .ref (b + a0)), (1, .int a1), (2, .ref (b + a2))] []
  unfold fL_destroy at h
  refine r_aload_n X 2 rfl dL_destroy_0 1 rfl ?_
  refine r_iconst (v := 0) X rfl dL_destroy_1 2 rfl ?_
  refine r_aload_n X 0 rfl dL_destroy_2 3 rfl ?_
  refine r_iload_n X 1 rfl dL_destroy_3 4 rfl ?_
  obtain ⟨o1, M3, e1, h⟩ := z_bd2 h
  cases o1 with
  | inl E9 =>
    have h := z_oxl h
    by_cases c1_0 : E9 = "java/lang/IndexOutOfBoundsException"
    · have h := z_it c1_0 h
      subst c1_0
      refine r_hcatch (rest := [.int 0, .ref (b + a2)]) (pre := []) (x := (0, 9, 12, 13)) (suf := [(0, 9, 15, 15)]) (name := "java/lang/IndexOutOfBoundsException") X R (tX6_destroy hl G b a0 ha0 a1 M (r9 := .inl "java/lang/IndexOutOfBoundsException") e1) zy_X6_destroy zw_X6_destroy km_L_77 ha0 rfl zv_X6 rfl ⟨rfl, rfl⟩ rfl rfl (Nat.le_of_ble_eq_true rfl) rfl (fun _ h => absurd h List.not_mem_nil) rfl (by decide) kl_L_13 kcast_io dL_destroy_4 (fun q9 => ?_)
      refine r_astore_n X dL_destroy_12 13 rfl [] (by decide) [] rfl ?_
      refine r_iconst (v := 1) X rfl dL_destroy_13 14 rfl ?_
      cases h
      exact r_hret X R (by decide) (by decide) rfl dL_destroy_14
    · have h := z_ie c1_0 h
      by_cases c1_1 : E9 = "java/lang/IllegalStateException"
      · have h := z_it c1_1 h
        subst c1_1
        refine r_hcatch (rest := [.int 0, .ref (b + a2)]) (pre := [(0, 9, 12, 13)]) (x := (0, 9, 15, 15)) (suf := []) (name := "java/lang/IllegalStateException") X R (tX6_destroy hl G b a0 ha0 a1 M (r9 := .inl "java/lang/IllegalStateException") e1) zy_X6_destroy zw_X6_destroy km_L_77 ha0 rfl zv_X6 rfl ⟨rfl, rfl⟩ rfl rfl (Nat.le_of_ble_eq_true rfl) rfl (List.forall_mem_cons.mpr ⟨⟨by decide, _, kl_L_13, List.mem_of_getElem? (i := 0) rfl⟩, (fun _ h => absurd h List.not_mem_nil)⟩) rfl (by decide) kl_L_15 kcast_is dL_destroy_4 (fun q9 => ?_)
        refine r_astore_n X dL_destroy_15 16 rfl [] (by decide) [] rfl ?_
        refine r_iconst (v := 2) X rfl dL_destroy_16 17 rfl ?_
        cases h
        exact r_hret X R (by decide) (by decide) rfl dL_destroy_17
      · have h := z_ie c1_1 h
        cases h
  | inr x2 =>
    have h := z_oxr h
    refine r_callV (rest := [.int 0, .ref (b + a2)]) X (z_MX_ret (tX6_destroy hl G b a0 ha0 a1 M (r9 := .inr x2) e1)) zy_X6_destroy zw_X6_destroy km_L_77 ha0 rfl zv_X6 rfl ⟨rfl, rfl⟩ ⟨rfl, rfl⟩ rfl rfl (Nat.le_of_ble_eq_true rfl) ⟨Nat.zero_le _, Nat.zero_le _⟩ dL_destroy_4 7 rfl [.int x2, .int 0, .ref (b + a2)] rfl ?_
    refine r_i2l X dL_destroy_7 8 rfl ?_
    obtain ⟨M4, e4, h⟩ := z_bd h
    refine r_lastore X ha2 (zn_10 ha2) e4 dL_destroy_8 9 rfl ?_
    refine r_goto X dL_destroy_9 18 (by decide) ?_
    refine r_iconst (v := 0) X rfl dL_destroy_18 19 rfl ?_
    cases h
    exact r_hret X R (by decide) (by decide) rfl dL_destroy_19
set_option maxRecDepth 100000 in
set_option maxHeartbeats 1000000 in
theorem tL_referenced {l : Launch} (hl : l.stackTraces = false) (G : zG) (b : Nat) (a0 : Nat) (ha0 : z_kd a0 = 6) (a1 : Int32) (a2 : Nat) (ha2 : z_kd a2 = 10) (M : zM) {r9 : Int32} {M9 : zM} (h : fL_referenced a0 a1 a2 M = some (r9, M9)) : z_MH l yL_referenced cL_referenced 4 (some .int) [(0, 9, 12, 13)] 8 135 G b [.ref (b + a0), .int a1, .ref (b + a2)] M (some (.int r9)) M9 := by
  refine z_meth (own := RL) hl (by decide) rfl rfl (fun Γ hΓ X R => ?_)
  subst hΓ
  show GW Γ G b 0 0 M 0 [(0, .ref (b + a0)), (1, .int a1), (2, .ref (b + a2))] []
  unfold fL_referenced at h
  refine r_aload_n X 2 rfl dL_referenced_0 1 rfl ?_
  refine r_iconst (v := 0) X rfl dL_referenced_1 2 rfl ?_
  refine r_aload_n X 0 rfl dL_referenced_2 3 rfl ?_
  refine r_iload_n X 1 rfl dL_referenced_3 4 rfl ?_
  obtain ⟨o1, M3, e1, h⟩ := z_bd2 h
  cases o1 with
  | inl E9 =>
    have h := z_oxl h
    by_cases c1_0 : E9 = "java/lang/IndexOutOfBoundsException"
    · have h := z_it c1_0 h
      subst c1_0
      refine r_hcatch (rest := [.int 0, .ref (b + a2)]) (pre := []) (x := (0, 9, 12, 13)) (suf := []) (name := "java/lang/IndexOutOfBoundsException") X R (tX6_referenced hl G b a0 ha0 a1 M (r9 := .inl "java/lang/IndexOutOfBoundsException") e1) zy_X6_referenced zw_X6_referenced km_L_80 ha0 rfl zv_X6 rfl ⟨rfl, rfl⟩ rfl rfl (Nat.le_of_ble_eq_true rfl) rfl (fun _ h => absurd h List.not_mem_nil) rfl (by decide) kl_L_13 kcast_io dL_referenced_4 (fun q9 => ?_)
      refine r_astore_n X dL_referenced_12 13 rfl [] (by decide) [] rfl ?_
      refine r_iconst (v := 1) X rfl dL_referenced_13 14 rfl ?_
      cases h
      exact r_hret X R (by decide) (by decide) rfl dL_referenced_14
    · have h := z_ie c1_0 h
      cases h
  | inr x2 =>
    have h := z_oxr h
    refine r_callV (rest := [.int 0, .ref (b + a2)]) X (z_MX_ret (tX6_referenced hl G b a0 ha0 a1 M (r9 := .inr x2) e1)) zy_X6_referenced zw_X6_referenced km_L_80 ha0 rfl zv_X6 rfl ⟨rfl, rfl⟩ ⟨rfl, rfl⟩ rfl rfl (Nat.le_of_ble_eq_true rfl) ⟨Nat.zero_le _, Nat.zero_le _⟩ dL_referenced_4 7 rfl [.int x2, .int 0, .ref (b + a2)] rfl ?_
    refine r_i2l X dL_referenced_7 8 rfl ?_
    obtain ⟨M4, e4, h⟩ := z_bd h
    refine r_lastore X ha2 (zn_10 ha2) e4 dL_referenced_8 9 rfl ?_
    refine r_goto X dL_referenced_9 15 (by decide) ?_
    refine r_iconst (v := 0) X rfl dL_referenced_15 16 rfl ?_
    cases h
    exact r_hret X R (by decide) (by decide) rfl dL_referenced_16
set_option maxRecDepth 100000 in
set_option maxHeartbeats 1000000 in
theorem tL_unique {l : Launch} (hl : l.stackTraces = false) (G : zG) (b : Nat) (a0 : Nat) (ha0 : z_kd a0 = 6) (a1 : Int32) (a2 : Nat) (ha2 : z_kd a2 = 10) (M : zM) {r9 : Int32} {M9 : zM} (h : fL_unique a0 a1 a2 M = some (r9, M9)) : z_MH l yL_unique cL_unique 4 (some .int) [(0, 9, 12, 13)] 8 133 G b [.ref (b + a0), .int a1, .ref (b + a2)] M (some (.int r9)) M9 := by
  refine z_meth (own := RL) hl (by decide) rfl rfl (fun Γ hΓ X R => ?_)
  subst hΓ
  show GW Γ G b 0 0 M 0 [(0, .ref (b + a0)), (1, .int a1), (2, .ref (b + a2))] []
  unfold fL_unique at h
  refine r_aload_n X 2 rfl dL_unique_0 1 rfl ?_
  refine r_iconst (v := 0) X rfl dL_unique_1 2 rfl ?_
  refine r_aload_n X 0 rfl dL_unique_2 3 rfl ?_
  refine r_iload_n X 1 rfl dL_unique_3 4 rfl ?_
  obtain ⟨o1, M3, e1, h⟩ := z_bd2 h
  cases o1 with
  | inl E9 =>
    have h := z_oxl h
    by_cases c1_0 : E9 = "java/lang/IndexOutOfBoundsException"
    · have h := z_it c1_0 h
      subst c1_0
      refine r_hcatch (rest := [.int 0, .ref (b + a2)]) (pre := []) (x := (0, 9, 12, 13)) (suf := []) (name := "java/lang/IndexOutOfBoundsException") X R (tX6_unique hl G b a0 ha0 a1 M (r9 := .inl "java/lang/IndexOutOfBoundsException") e1) zy_X6_unique zw_X6_unique km_L_83 ha0 rfl zv_X6 rfl ⟨rfl, rfl⟩ rfl rfl (Nat.le_of_ble_eq_true rfl) rfl (fun _ h => absurd h List.not_mem_nil) rfl (by decide) kl_L_13 kcast_io dL_unique_4 (fun q9 => ?_)
      refine r_astore_n X dL_unique_12 13 rfl [] (by decide) [] rfl ?_
      refine r_iconst (v := 1) X rfl dL_unique_13 14 rfl ?_
      cases h
      exact r_hret X R (by decide) (by decide) rfl dL_unique_14
    · have h := z_ie c1_0 h
      cases h
  | inr x2 =>
    have h := z_oxr h
    refine r_callV (rest := [.int 0, .ref (b + a2)]) X (z_MX_ret (tX6_unique hl G b a0 ha0 a1 M (r9 := .inr x2) e1)) zy_X6_unique zw_X6_unique km_L_83 ha0 rfl zv_X6 rfl ⟨rfl, rfl⟩ ⟨rfl, rfl⟩ rfl rfl (Nat.le_of_ble_eq_true rfl) ⟨Nat.zero_le _, Nat.zero_le _⟩ dL_unique_4 7 rfl [.int x2, .int 0, .ref (b + a2)] rfl ?_
    refine r_i2l X dL_unique_7 8 rfl ?_
    obtain ⟨M4, e4, h⟩ := z_bd h
    refine r_lastore X ha2 (zn_10 ha2) e4 dL_unique_8 9 rfl ?_
    refine r_goto X dL_unique_9 15 (by decide) ?_
    refine r_iconst (v := 0) X rfl dL_unique_15 16 rfl ?_
    cases h
    exact r_hret X R (by decide) (by decide) rfl dL_unique_16
set_option maxRecDepth 100000 in
set_option maxHeartbeats 1000000 in
theorem tL_uniqueOfSnapshot {l : Launch} (hl : l.stackTraces = false) (G : zG) (b : Nat) (a0 : Nat) (ha0 : z_kd a0 = 6) (a1 : Int32) (a2 : Nat) (ha2 : z_kd a2 = 10) (M : zM) {r9 : Int32} {M9 : zM} (h : fL_uniqueOfSnapshot a0 a1 a2 M = some (r9, M9)) : z_MH l yL_uniqueOfSnapshot cL_uniqueOfSnapshot 4 (some .int) [(0, 9, 12, 13)] 8 133 G b [.ref (b + a0), .int a1, .ref (b + a2)] M (some (.int r9)) M9 := by
  refine z_meth (own := RL) hl (by decide) rfl rfl (fun Γ hΓ X R => ?_)
  subst hΓ
  show GW Γ G b 0 0 M 0 [(0, .ref (b + a0)), (1, .int a1), (2, .ref (b + a2))] []
  unfold fL_uniqueOfSnapshot at h
  refine r_aload_n X 2 rfl dL_uniqueOfSnapshot_0 1 rfl ?_
  refine r_iconst (v := 0) X rfl dL_uniqueOfSnapshot_1 2 rfl ?_
  refine r_aload_n X 0 rfl dL_uniqueOfSnapshot_2 3 rfl ?_
  refine r_iload_n X 1 rfl dL_uniqueOfSnapshot_3 4 rfl ?_
  obtain ⟨o1, M3, e1, h⟩ := z_bd2 h
  cases o1 with
  | inl E9 =>
    have h := z_oxl h
    by_cases c1_0 : E9 = "java/lang/IndexOutOfBoundsException"
    · have h := z_it c1_0 h
      subst c1_0
      refine r_hcatch (rest := [.int 0, .ref (b + a2)]) (pre := []) (x := (0, 9, 12, 13)) (suf := []) (name := "java/lang/IndexOutOfBoundsException") X R (tX6_uniqueOfSnapshot hl G b a0 ha0 a1 M (r9 := .inl "java/lang/IndexOutOfBoundsException") e1) zy_X6_uniqueOfSnapshot zw_X6_uniqueOfSnapshot km_L_86 ha0 rfl zv_X6 rfl ⟨rfl, rfl⟩ rfl rfl (Nat.le_of_ble_eq_true rfl) rfl (fun _ h => absurd h List.not_mem_nil) rfl (by decide) kl_L_13 kcast_io dL_uniqueOfSnapshot_4 (fun q9 => ?_)
      refine r_astore_n X dL_uniqueOfSnapshot_12 13 rfl [] (by decide) [] rfl ?_
      refine r_iconst (v := 1) X rfl dL_uniqueOfSnapshot_13 14 rfl ?_
      cases h
      exact r_hret X R (by decide) (by decide) rfl dL_uniqueOfSnapshot_14
    · have h := z_ie c1_0 h
      cases h
  | inr x2 =>
    have h := z_oxr h
    refine r_callV (rest := [.int 0, .ref (b + a2)]) X (z_MX_ret (tX6_uniqueOfSnapshot hl G b a0 ha0 a1 M (r9 := .inr x2) e1)) zy_X6_uniqueOfSnapshot zw_X6_uniqueOfSnapshot km_L_86 ha0 rfl zv_X6 rfl ⟨rfl, rfl⟩ ⟨rfl, rfl⟩ rfl rfl (Nat.le_of_ble_eq_true rfl) ⟨Nat.zero_le _, Nat.zero_le _⟩ dL_uniqueOfSnapshot_4 7 rfl [.int x2, .int 0, .ref (b + a2)] rfl ?_
    refine r_i2l X dL_uniqueOfSnapshot_7 8 rfl ?_
    obtain ⟨M4, e4, h⟩ := z_bd h
    refine r_lastore X ha2 (zn_10 ha2) e4 dL_uniqueOfSnapshot_8 9 rfl ?_
    refine r_goto X dL_uniqueOfSnapshot_9 15 (by decide) ?_
    refine r_iconst (v := 0) X rfl dL_uniqueOfSnapshot_15 16 rfl ?_
    cases h
    exact r_hret X R (by decide) (by decide) rfl dL_uniqueOfSnapshot_16
set_option maxRecDepth 100000 in
set_option maxHeartbeats 1000000 in
theorem tL_newer {l : Launch} (hl : l.stackTraces = false) (G : zG) (b : Nat) (a0 : Nat) (ha0 : z_kd a0 = 6) (a1 : Int32) (a2 : Int32) (a3 : Nat) (ha3 : z_kd a3 = 10) (M : zM) {r9 : Int32} {M9 : zM} (h : fL_newer a0 a1 a2 a3 M = some (r9, M9)) : z_MH l yL_newer cL_newer 5 (some .int) [(0, 10, 13, 13)] 8 138 G b [.ref (b + a0), .int a1, .int a2, .ref (b + a3)] M (some (.int r9)) M9 := by
  refine z_meth (own := RL) hl (by decide) rfl rfl (fun Γ hΓ X R => ?_)
  subst hΓ
  show GW Γ G b 0 0 M 0 [(0, .ref (b + a0)), (1, .int a1), (2, .int a2), (3, .ref (b + a3))] []
  unfold fL_newer at h
  refine r_aload_n X 3 rfl dL_newer_0 1 rfl ?_
  refine r_iconst (v := 0) X rfl dL_newer_1 2 rfl ?_
  refine r_aload_n X 0 rfl dL_newer_2 3 rfl ?_
  refine r_iload_n X 1 rfl dL_newer_3 4 rfl ?_
  refine r_iload_n X 2 rfl dL_newer_4 5 rfl ?_
  obtain ⟨o1, e1, h⟩ := z_bd h
  cases o1 with
  | inl E9 =>
    have h := z_oxl h
    by_cases c1_0 : E9 = "java/lang/IndexOutOfBoundsException"
    · have h := z_it c1_0 h
      subst c1_0
      refine r_hcatch (rest := [.int 0, .ref (b + a3)]) (pre := []) (x := (0, 10, 13, 13)) (suf := []) (name := "java/lang/IndexOutOfBoundsException") X R (tX6_newer hl G b a0 ha0 a1 a2 M (r9 := .inl "java/lang/IndexOutOfBoundsException") e1) zy_X6_newer zw_X6_newer km_L_89 ha0 rfl zv_X6 rfl ⟨rfl, rfl⟩ rfl rfl (Nat.le_of_ble_eq_true rfl) rfl (fun _ h => absurd h List.not_mem_nil) rfl (by decide) kl_L_13 kcast_io dL_newer_5 (fun q9 => ?_)
      refine r_astore X dL_newer_13 15 rfl [] (by decide) [] rfl ?_
      refine r_iconst (v := 1) X rfl dL_newer_15 16 rfl ?_
      cases h
      exact r_hret X R (by decide) (by decide) rfl dL_newer_16
    · have h := z_ie c1_0 h
      cases h
  | inr x2 =>
    have h := z_oxr h
    refine r_callV (rest := [.int 0, .ref (b + a3)]) X (z_MX_ret (tX6_newer hl G b a0 ha0 a1 a2 M (r9 := .inr x2) e1)) zy_X6_newer zw_X6_newer km_L_89 ha0 rfl zv_X6 rfl ⟨rfl, rfl⟩ ⟨rfl, rfl⟩ rfl rfl (Nat.le_of_ble_eq_true rfl) ⟨Nat.zero_le _, Nat.zero_le _⟩ dL_newer_5 8 rfl [.int x2, .int 0, .ref (b + a3)] rfl ?_
    refine r_i2l X dL_newer_8 9 rfl ?_
    obtain ⟨M3, e3, h⟩ := z_bd h
    refine r_lastore X ha3 (zn_10 ha3) e3 dL_newer_9 10 rfl ?_
    refine r_goto X dL_newer_10 17 (by decide) ?_
    refine r_iconst (v := 0) X rfl dL_newer_17 18 rfl ?_
    cases h
    exact r_hret X R (by decide) (by decide) rfl dL_newer_18
set_option maxRecDepth 100000 in
set_option maxHeartbeats 1000000 in
theorem tL_birth {l : Launch} (hl : l.stackTraces = false) (G : zG) (b : Nat) (a0 : Nat) (ha0 : z_kd a0 = 6) (a1 : Int32) (a2 : Nat) (ha2 : z_kd a2 = 10) (M : zM) {r9 : Int32} {M9 : zM} (h : fL_birth a0 a1 a2 M = some (r9, M9)) : z_MH l yL_birth cL_birth 4 (some .int) [(0, 9, 12, 13), (0, 9, 15, 15)] 8 131 G b [.ref (b + a0), .int a1, .ref (b + a2)] M (some (.int r9)) M9 := by
  refine z_meth (own := RL) hl (by decide) rfl rfl (fun Γ hΓ X R => ?_)
  subst hΓ
  show GW Γ G b 0 0 M 0 [(0, .ref (b + a0)), (1, .int a1), (2, .ref (b + a2))] []
  unfold fL_birth at h
  refine r_aload_n X 2 rfl dL_birth_0 1 rfl ?_
  refine r_iconst (v := 0) X rfl dL_birth_1 2 rfl ?_
  refine r_aload_n X 0 rfl dL_birth_2 3 rfl ?_
  refine r_iload_n X 1 rfl dL_birth_3 4 rfl ?_
  obtain ⟨o1, e1, h⟩ := z_bd h
  cases o1 with
  | inl E9 =>
    have h := z_oxl h
    by_cases c1_0 : E9 = "java/lang/IndexOutOfBoundsException"
    · have h := z_it c1_0 h
      subst c1_0
      refine r_hcatch (rest := [.int 0, .ref (b + a2)]) (pre := []) (x := (0, 9, 12, 13)) (suf := [(0, 9, 15, 15)]) (name := "java/lang/IndexOutOfBoundsException") X R (tX6_birth hl G b a0 ha0 a1 M (r9 := .inl "java/lang/IndexOutOfBoundsException") e1) zy_X6_birth zw_X6_birth km_L_92 ha0 rfl zv_X6 rfl ⟨rfl, rfl⟩ rfl rfl (Nat.le_of_ble_eq_true rfl) rfl (fun _ h => absurd h List.not_mem_nil) rfl (by decide) kl_L_13 kcast_io dL_birth_4 (fun q9 => ?_)
      refine r_astore_n X dL_birth_12 13 rfl [] (by decide) [] rfl ?_
      refine r_iconst (v := 1) X rfl dL_birth_13 14 rfl ?_
      cases h
      exact r_hret X R (by decide) (by decide) rfl dL_birth_14
    · have h := z_ie c1_0 h
      by_cases c1_1 : E9 = "java/lang/IllegalStateException"
      · have h := z_it c1_1 h
        subst c1_1
        refine r_hcatch (rest := [.int 0, .ref (b + a2)]) (pre := [(0, 9, 12, 13)]) (x := (0, 9, 15, 15)) (suf := []) (name := "java/lang/IllegalStateException") X R (tX6_birth hl G b a0 ha0 a1 M (r9 := .inl "java/lang/IllegalStateException") e1) zy_X6_birth zw_X6_birth km_L_92 ha0 rfl zv_X6 rfl ⟨rfl, rfl⟩ rfl rfl (Nat.le_of_ble_eq_true rfl) rfl (List.forall_mem_cons.mpr ⟨⟨by decide, _, kl_L_13, List.mem_of_getElem? (i := 0) rfl⟩, (fun _ h => absurd h List.not_mem_nil)⟩) rfl (by decide) kl_L_15 kcast_is dL_birth_4 (fun q9 => ?_)
        refine r_astore_n X dL_birth_15 16 rfl [] (by decide) [] rfl ?_
        refine r_iconst (v := 2) X rfl dL_birth_16 17 rfl ?_
        cases h
        exact r_hret X R (by decide) (by decide) rfl dL_birth_17
      · have h := z_ie c1_1 h
        cases h
  | inr x2 =>
    have h := z_oxr h
    refine r_callV (rest := [.int 0, .ref (b + a2)]) X (z_MX_ret (tX6_birth hl G b a0 ha0 a1 M (r9 := .inr x2) e1)) zy_X6_birth zw_X6_birth km_L_92 ha0 rfl zv_X6 rfl ⟨rfl, rfl⟩ ⟨rfl, rfl⟩ rfl rfl (Nat.le_of_ble_eq_true rfl) ⟨Nat.zero_le _, Nat.zero_le _⟩ dL_birth_4 7 rfl [.int x2, .int 0, .ref (b + a2)] rfl ?_
    refine r_i2l X dL_birth_7 8 rfl ?_
    obtain ⟨M3, e3, h⟩ := z_bd h
    refine r_lastore X ha2 (zn_10 ha2) e3 dL_birth_8 9 rfl ?_
    refine r_goto X dL_birth_9 18 (by decide) ?_
    refine r_iconst (v := 0) X rfl dL_birth_18 19 rfl ?_
    cases h
    exact r_hret X R (by decide) (by decide) rfl dL_birth_19
set_option maxRecDepth 100000 in
set_option maxHeartbeats 1000000 in
theorem tL_references {l : Launch} (hl : l.stackTraces = false) (G : zG) (b : Nat) (a0 : Nat) (ha0 : z_kd a0 = 6) (a1 : Int32) (a2 : Nat) (ha2 : z_kd a2 = 10) (M : zM) {r9 : Int32} {M9 : zM} (h : fL_references a0 a1 a2 M = some (r9, M9)) : z_MH l yL_references cL_references 4 (some .int) [(0, 9, 12, 13)] 8 131 G b [.ref (b + a0), .int a1, .ref (b + a2)] M (some (.int r9)) M9 := by
  refine z_meth (own := RL) hl (by decide) rfl rfl (fun Γ hΓ X R => ?_)
  subst hΓ
  show GW Γ G b 0 0 M 0 [(0, .ref (b + a0)), (1, .int a1), (2, .ref (b + a2))] []
  unfold fL_references at h
  refine r_aload_n X 2 rfl dL_references_0 1 rfl ?_
  refine r_iconst (v := 0) X rfl dL_references_1 2 rfl ?_
  refine r_aload_n X 0 rfl dL_references_2 3 rfl ?_
  refine r_iload_n X 1 rfl dL_references_3 4 rfl ?_
  obtain ⟨o1, e1, h⟩ := z_bd h
  cases o1 with
  | inl E9 =>
    have h := z_oxl h
    by_cases c1_0 : E9 = "java/lang/IndexOutOfBoundsException"
    · have h := z_it c1_0 h
      subst c1_0
      refine r_hcatch (rest := [.int 0, .ref (b + a2)]) (pre := []) (x := (0, 9, 12, 13)) (suf := []) (name := "java/lang/IndexOutOfBoundsException") X R (tX6_references hl G b a0 ha0 a1 M (r9 := .inl "java/lang/IndexOutOfBoundsException") e1) zy_X6_references zw_X6_references km_L_95 ha0 rfl zv_X6 rfl ⟨rfl, rfl⟩ rfl rfl (Nat.le_of_ble_eq_true rfl) rfl (fun _ h => absurd h List.not_mem_nil) rfl (by decide) kl_L_13 kcast_io dL_references_4 (fun q9 => ?_)
      refine r_astore_n X dL_references_12 13 rfl [] (by decide) [] rfl ?_
      refine r_iconst (v := 1) X rfl dL_references_13 14 rfl ?_
      cases h
      exact r_hret X R (by decide) (by decide) rfl dL_references_14
    · have h := z_ie c1_0 h
      cases h
  | inr x2 =>
    have h := z_oxr h
    refine r_callV (rest := [.int 0, .ref (b + a2)]) X (z_MX_ret (tX6_references hl G b a0 ha0 a1 M (r9 := .inr x2) e1)) zy_X6_references zw_X6_references km_L_95 ha0 rfl zv_X6 rfl ⟨rfl, rfl⟩ ⟨rfl, rfl⟩ rfl rfl (Nat.le_of_ble_eq_true rfl) ⟨Nat.zero_le _, Nat.zero_le _⟩ dL_references_4 7 rfl [.int x2, .int 0, .ref (b + a2)] rfl ?_
    refine r_i2l X dL_references_7 8 rfl ?_
    obtain ⟨M3, e3, h⟩ := z_bd h
    refine r_lastore X ha2 (zn_10 ha2) e3 dL_references_8 9 rfl ?_
    refine r_goto X dL_references_9 15 (by decide) ?_
    refine r_iconst (v := 0) X rfl dL_references_15 16 rfl ?_
    cases h
    exact r_hret X R (by decide) (by decide) rfl dL_references_16
set_option maxRecDepth 100000 in
set_option maxHeartbeats 1000000 in
theorem tL_freeIn {l : Launch} (hl : l.stackTraces = false) (G : zG) (b : Nat) (a0 : Nat) (ha0 : z_kd a0 = 6) (a1 : Int32) (a2 : Nat) (ha2 : z_kd a2 = 10) (M : zM) {r9 : Int32} {M9 : zM} (h : fL_freeIn a0 a1 a2 M = some (r9, M9)) : z_MH l yL_freeIn cL_freeIn 4 (some .int) [(0, 9, 12, 13)] 8 131 G b [.ref (b + a0), .int a1, .ref (b + a2)] M (some (.int r9)) M9 := by
  refine z_meth (own := RL) hl (by decide) rfl rfl (fun Γ hΓ X R => ?_)
  subst hΓ
  show GW Γ G b 0 0 M 0 [(0, .ref (b + a0)), (1, .int a1), (2, .ref (b + a2))] []
  unfold fL_freeIn at h
  refine r_aload_n X 2 rfl dL_freeIn_0 1 rfl ?_
  refine r_iconst (v := 0) X rfl dL_freeIn_1 2 rfl ?_
  refine r_aload_n X 0 rfl dL_freeIn_2 3 rfl ?_
  refine r_iload_n X 1 rfl dL_freeIn_3 4 rfl ?_
  obtain ⟨o1, e1, h⟩ := z_bd h
  cases o1 with
  | inl E9 =>
    have h := z_oxl h
    by_cases c1_0 : E9 = "java/lang/IndexOutOfBoundsException"
    · have h := z_it c1_0 h
      subst c1_0
      refine r_hcatch (rest := [.int 0, .ref (b + a2)]) (pre := []) (x := (0, 9, 12, 13)) (suf := []) (name := "java/lang/IndexOutOfBoundsException") X R (tX6_freeIn hl G b a0 ha0 a1 M (r9 := .inl "java/lang/IndexOutOfBoundsException") e1) zy_X6_freeIn zw_X6_freeIn km_L_98 ha0 rfl zv_X6 rfl ⟨rfl, rfl⟩ rfl rfl (Nat.le_of_ble_eq_true rfl) rfl (fun _ h => absurd h List.not_mem_nil) rfl (by decide) kl_L_13 kcast_io dL_freeIn_4 (fun q9 => ?_)
      refine r_astore_n X dL_freeIn_12 13 rfl [] (by decide) [] rfl ?_
      refine r_iconst (v := 1) X rfl dL_freeIn_13 14 rfl ?_
      cases h
      exact r_hret X R (by decide) (by decide) rfl dL_freeIn_14
    · have h := z_ie c1_0 h
      cases h
  | inr x2 =>
    have h := z_oxr h
    refine r_callV (rest := [.int 0, .ref (b + a2)]) X (z_MX_ret (tX6_freeIn hl G b a0 ha0 a1 M (r9 := .inr x2) e1)) zy_X6_freeIn zw_X6_freeIn km_L_98 ha0 rfl zv_X6 rfl ⟨rfl, rfl⟩ ⟨rfl, rfl⟩ rfl rfl (Nat.le_of_ble_eq_true rfl) ⟨Nat.zero_le _, Nat.zero_le _⟩ dL_freeIn_4 7 rfl [.int x2, .int 0, .ref (b + a2)] rfl ?_
    refine r_i2l X dL_freeIn_7 8 rfl ?_
    obtain ⟨M3, e3, h⟩ := z_bd h
    refine r_lastore X ha2 (zn_10 ha2) e3 dL_freeIn_8 9 rfl ?_
    refine r_goto X dL_freeIn_9 15 (by decide) ?_
    refine r_iconst (v := 0) X rfl dL_freeIn_15 16 rfl ?_
    cases h
    exact r_hret X R (by decide) (by decide) rfl dL_freeIn_16
set_option maxRecDepth 100000 in
set_option maxHeartbeats 1000000 in
theorem tL_logEntries {l : Launch} (hl : l.stackTraces = false) (G : zG) (b : Nat) (a0 : Nat) (ha0 : z_kd a0 = 6) (a1 : Int32) (a2 : Nat) (ha2 : z_kd a2 = 10) (M : zM) {r9 : Int32} {M9 : zM} (h : fL_logEntries a0 a1 a2 M = some (r9, M9)) : z_MH l yL_logEntries cL_logEntries 4 (some .int) [(0, 9, 12, 13)] 8 132 G b [.ref (b + a0), .int a1, .ref (b + a2)] M (some (.int r9)) M9 := by
  refine z_meth (own := RL) hl (by decide) rfl rfl (fun Γ hΓ X R => ?_)
  subst hΓ
  show GW Γ G b 0 0 M 0 [(0, .ref (b + a0)), (1, .int a1), (2, .ref (b + a2))] []
  unfold fL_logEntries at h
  refine r_aload_n X 2 rfl dL_logEntries_0 1 rfl ?_
  refine r_iconst (v := 0) X rfl dL_logEntries_1 2 rfl ?_
  refine r_aload_n X 0 rfl dL_logEntries_2 3 rfl ?_
  refine r_iload_n X 1 rfl dL_logEntries_3 4 rfl ?_
  obtain ⟨o1, e1, h⟩ := z_bd h
  cases o1 with
  | inl E9 =>
    have h := z_oxl h
    by_cases c1_0 : E9 = "java/lang/IndexOutOfBoundsException"
    · have h := z_it c1_0 h
      subst c1_0
      refine r_hcatch (rest := [.int 0, .ref (b + a2)]) (pre := []) (x := (0, 9, 12, 13)) (suf := []) (name := "java/lang/IndexOutOfBoundsException") X R (tX6_logEntries hl G b a0 ha0 a1 M (r9 := .inl "java/lang/IndexOutOfBoundsException") e1) zy_X6_logEntries zw_X6_logEntries km_L_101 ha0 rfl zv_X6 rfl ⟨rfl, rfl⟩ rfl rfl (Nat.le_of_ble_eq_true rfl) rfl (fun _ h => absurd h List.not_mem_nil) rfl (by decide) kl_L_13 kcast_io dL_logEntries_4 (fun q9 => ?_)
      refine r_astore_n X dL_logEntries_12 13 rfl [] (by decide) [] rfl ?_
      refine r_iconst (v := 1) X rfl dL_logEntries_13 14 rfl ?_
      cases h
      exact r_hret X R (by decide) (by decide) rfl dL_logEntries_14
    · have h := z_ie c1_0 h
      cases h
  | inr x2 =>
    have h := z_oxr h
    refine r_callV (rest := [.int 0, .ref (b + a2)]) X (z_MX_ret (tX6_logEntries hl G b a0 ha0 a1 M (r9 := .inr x2) e1)) zy_X6_logEntries zw_X6_logEntries km_L_101 ha0 rfl zv_X6 rfl ⟨rfl, rfl⟩ ⟨rfl, rfl⟩ rfl rfl (Nat.le_of_ble_eq_true rfl) ⟨Nat.zero_le _, Nat.zero_le _⟩ dL_logEntries_4 7 rfl [.int x2, .int 0, .ref (b + a2)] rfl ?_
    refine r_i2l X dL_logEntries_7 8 rfl ?_
    obtain ⟨M3, e3, h⟩ := z_bd h
    refine r_lastore X ha2 (zn_10 ha2) e3 dL_logEntries_8 9 rfl ?_
    refine r_goto X dL_logEntries_9 15 (by decide) ?_
    refine r_iconst (v := 0) X rfl dL_logEntries_15 16 rfl ?_
    cases h
    exact r_hret X R (by decide) (by decide) rfl dL_logEntries_16
set_option maxRecDepth 100000 in
set_option maxHeartbeats 1000000 in
theorem tL_runAt {l : Launch} (hl : l.stackTraces = false) (G : zG) (b : Nat) (a0 : Nat) (ha0 : z_kd a0 = 6) (a1 : Int32) (a2 : Int32) (a3 : Nat) (ha3 : z_kd a3 = 10) (M : zM) {r9 : Int32} {M9 : zM} (h : fL_runAt a0 a1 a2 a3 M = some (r9, M9)) : z_MH l yL_runAt cL_runAt 5 (some .int) [(0, 10, 13, 13)] 9 157 G b [.ref (b + a0), .int a1, .int a2, .ref (b + a3)] M (some (.int r9)) M9 := by
  refine z_meth (own := RL) hl (by decide) rfl rfl (fun Γ hΓ X R => ?_)
  subst hΓ
  show GW Γ G b 0 0 M 0 [(0, .ref (b + a0)), (1, .int a1), (2, .int a2), (3, .ref (b + a3))] []
  unfold fL_runAt at h
  refine r_aload_n X 3 rfl dL_runAt_0 1 rfl ?_
  refine r_iconst (v := 0) X rfl dL_runAt_1 2 rfl ?_
  refine r_aload_n X 0 rfl dL_runAt_2 3 rfl ?_
  refine r_iload_n X 1 rfl dL_runAt_3 4 rfl ?_
  refine r_iload_n X 2 rfl dL_runAt_4 5 rfl ?_
  obtain ⟨o1, e1, h⟩ := z_bd h
  cases o1 with
  | inl E9 =>
    have h := z_oxl h
    by_cases c1_0 : E9 = "java/lang/IndexOutOfBoundsException"
    · have h := z_it c1_0 h
      subst c1_0
      refine r_hcatch (rest := [.int 0, .ref (b + a3)]) (pre := []) (x := (0, 10, 13, 13)) (suf := []) (name := "java/lang/IndexOutOfBoundsException") X R (tX6_runAt hl G b a0 ha0 a1 a2 M (r9 := .inl "java/lang/IndexOutOfBoundsException") e1) zy_X6_runAt zw_X6_runAt km_L_104 ha0 rfl zv_X6 rfl ⟨rfl, rfl⟩ rfl rfl (Nat.le_of_ble_eq_true rfl) rfl (fun _ h => absurd h List.not_mem_nil) rfl (by decide) kl_L_13 kcast_io dL_runAt_5 (fun q9 => ?_)
      refine r_astore X dL_runAt_13 15 rfl [] (by decide) [] rfl ?_
      refine r_iconst (v := 1) X rfl dL_runAt_15 16 rfl ?_
      cases h
      exact r_hret X R (by decide) (by decide) rfl dL_runAt_16
    · have h := z_ie c1_0 h
      cases h
  | inr x2 =>
    have h := z_oxr h
    refine r_callV (rest := [.int 0, .ref (b + a3)]) X (z_MX_ret (tX6_runAt hl G b a0 ha0 a1 a2 M (r9 := .inr x2) e1)) zy_X6_runAt zw_X6_runAt km_L_104 ha0 rfl zv_X6 rfl ⟨rfl, rfl⟩ ⟨rfl, rfl⟩ rfl rfl (Nat.le_of_ble_eq_true rfl) ⟨Nat.zero_le _, Nat.zero_le _⟩ dL_runAt_5 8 rfl [.int x2, .int 0, .ref (b + a3)] rfl ?_
    refine r_i2l X dL_runAt_8 9 rfl ?_
    obtain ⟨M3, e3, h⟩ := z_bd h
    refine r_lastore X ha3 (zn_10 ha3) e3 dL_runAt_9 10 rfl ?_
    refine r_goto X dL_runAt_10 17 (by decide) ?_
    refine r_iconst (v := 0) X rfl dL_runAt_17 18 rfl ?_
    cases h
    exact r_hret X R (by decide) (by decide) rfl dL_runAt_18
set_option maxRecDepth 100000 in
set_option maxHeartbeats 1000000 in
theorem tL_allocates {l : Launch} (hl : l.stackTraces = false) (G : zG) (b : Nat) (a0 : Nat) (ha0 : z_kd a0 = 6) (a1 : Int32) (a2 : Int32) (a3 : Nat) (ha3 : z_kd a3 = 10) (M : zM) {r9 : Int32} {M9 : zM} (h : fL_allocates a0 a1 a2 a3 M = some (r9, M9)) : z_MH l yL_allocates cL_allocates 5 (some .int) [(0, 17, 20, 13)] 9 156 G b [.ref (b + a0), .int a1, .int a2, .ref (b + a3)] M (some (.int r9)) M9 := by
  refine z_meth (own := RL) hl (by decide) rfl rfl (fun Γ hΓ X R => ?_)
  subst hΓ
  show GW Γ G b 0 0 M 0 [(0, .ref (b + a0)), (1, .int a1), (2, .int a2), (3, .ref (b + a3))] []
  unfold fL_allocates at h
  refine r_aload_n X 3 rfl dL_allocates_0 1 rfl ?_
  refine r_iconst (v := 0) X rfl dL_allocates_1 2 rfl ?_
  refine r_aload_n X 0 rfl dL_allocates_2 3 rfl ?_
  refine r_iload_n X 1 rfl dL_allocates_3 4 rfl ?_
  refine r_iload_n X 2 rfl dL_allocates_4 5 rfl ?_
  obtain ⟨o1, e1, h⟩ := z_bd h
  cases o1 with
  | inl E9 =>
    have h := z_oxl h
    by_cases c1_0 : E9 = "java/lang/IndexOutOfBoundsException"
    · have h := z_it c1_0 h
      subst c1_0
      refine r_hcatch (rest := [.int 0, .ref (b + a3)]) (pre := []) (x := (0, 17, 20, 13)) (suf := []) (name := "java/lang/IndexOutOfBoundsException") X R (tX6_allocates hl G b a0 ha0 a1 a2 M (r9 := .inl "java/lang/IndexOutOfBoundsException") e1) zy_X6_allocates zw_X6_allocates km_L_107 ha0 rfl zv_X6 rfl ⟨rfl, rfl⟩ rfl rfl (Nat.le_of_ble_eq_true rfl) rfl (fun _ h => absurd h List.not_mem_nil) rfl (by decide) kl_L_13 kcast_io dL_allocates_5 (fun q9 => ?_)
      refine r_astore X dL_allocates_20 22 rfl [] (by decide) [] rfl ?_
      refine r_iconst (v := 1) X rfl dL_allocates_22 23 rfl ?_
      cases h
      exact r_hret X R (by decide) (by decide) rfl dL_allocates_23
    · have h := z_ie c1_0 h
      cases h
  | inr x2 =>
    have h := z_oxr h
    refine r_callV (rest := [.int 0, .ref (b + a3)]) X (z_MX_ret (tX6_allocates hl G b a0 ha0 a1 a2 M (r9 := .inr x2) e1)) zy_X6_allocates zw_X6_allocates km_L_107 ha0 rfl zv_X6 rfl ⟨rfl, rfl⟩ ⟨rfl, rfl⟩ rfl rfl (Nat.le_of_ble_eq_true rfl) ⟨Nat.zero_le _, Nat.zero_le _⟩ dL_allocates_5 8 rfl [.int x2, .int 0, .ref (b + a3)] rfl ?_
    refine r_if_eq X dL_allocates_8 15 (by decide) 11 rfl (fun c3 => ?_) (fun c3 => ?_)
    · have h := z_it c3 h
      refine r_lconst (v := (0 : Int32).toInt64) X rfl dL_allocates_15 16 rfl ?_
      obtain ⟨M4, e4, h⟩ := z_bd h
      refine r_lastore X ha3 (zn_10 ha3) e4 dL_allocates_16 17 rfl ?_
      refine r_goto X dL_allocates_17 24 (by decide) ?_
      refine r_iconst (v := 0) X rfl dL_allocates_24 25 rfl ?_
      cases h
      exact r_hret X R (by decide) (by decide) rfl dL_allocates_25
    · have h := z_ie c3 h
      refine r_lconst (v := (1 : Int32).toInt64) X rfl dL_allocates_11 12 rfl ?_
      refine r_goto X dL_allocates_12 16 (by decide) ?_
      obtain ⟨M5, e5, h⟩ := z_bd h
      refine r_lastore X ha3 (zn_10 ha3) e5 dL_allocates_16 17 rfl ?_
      refine r_goto X dL_allocates_17 24 (by decide) ?_
      refine r_iconst (v := 0) X rfl dL_allocates_24 25 rfl ?_
      cases h
      exact r_hret X R (by decide) (by decide) rfl dL_allocates_25
set_option maxRecDepth 100000 in
set_option maxHeartbeats 1000000 in
theorem tL_replay {l : Launch} (hl : l.stackTraces = false) (G : zG) (b : Nat) (a0 : Nat) (ha0 : z_kd a0 = 6) (a1 : Int32) (a2 : Nat) (ha2 : z_kd a2 = 10) (M : zM) {r9 : Int32} {M9 : zM} (h : fL_replay a0 a1 a2 M = some (r9, M9)) : z_MH l yL_replay cL_replay 4 (some .int) [(0, 9, 12, 13)] 8 132 G b [.ref (b + a0), .int a1, .ref (b + a2)] M (some (.int r9)) M9 := by
  refine z_meth (own := RL) hl (by decide) rfl rfl (fun Γ hΓ X R => ?_)
  subst hΓ
  show GW Γ G b 0 0 M 0 [(0, .ref (b + a0)), (1, .int a1), (2, .ref (b + a2))] []
  unfold fL_replay at h
  refine r_aload_n X 2 rfl dL_replay_0 1 rfl ?_
  refine r_iconst (v := 0) X rfl dL_replay_1 2 rfl ?_
  refine r_aload_n X 0 rfl dL_replay_2 3 rfl ?_
  refine r_iload_n X 1 rfl dL_replay_3 4 rfl ?_
  obtain ⟨o1, M3, e1, h⟩ := z_bd2 h
  cases o1 with
  | inl E9 =>
    have h := z_oxl h
    by_cases c1_0 : E9 = "java/lang/IndexOutOfBoundsException"
    · have h := z_it c1_0 h
      subst c1_0
      refine r_hcatch (rest := [.int 0, .ref (b + a2)]) (pre := []) (x := (0, 9, 12, 13)) (suf := []) (name := "java/lang/IndexOutOfBoundsException") X R (tX6_replay hl G b a0 ha0 a1 M (r9 := .inl "java/lang/IndexOutOfBoundsException") e1) zy_X6_replay zw_X6_replay km_L_111 ha0 rfl zv_X6 rfl ⟨rfl, rfl⟩ rfl rfl (Nat.le_of_ble_eq_true rfl) rfl (fun _ h => absurd h List.not_mem_nil) rfl (by decide) kl_L_13 kcast_io dL_replay_4 (fun q9 => ?_)
      refine r_astore_n X dL_replay_12 13 rfl [] (by decide) [] rfl ?_
      refine r_iconst (v := 1) X rfl dL_replay_13 14 rfl ?_
      cases h
      exact r_hret X R (by decide) (by decide) rfl dL_replay_14
    · have h := z_ie c1_0 h
      cases h
  | inr x2 =>
    have h := z_oxr h
    refine r_callV (rest := [.int 0, .ref (b + a2)]) X (z_MX_ret (tX6_replay hl G b a0 ha0 a1 M (r9 := .inr x2) e1)) zy_X6_replay zw_X6_replay km_L_111 ha0 rfl zv_X6 rfl ⟨rfl, rfl⟩ ⟨rfl, rfl⟩ rfl rfl (Nat.le_of_ble_eq_true rfl) ⟨Nat.zero_le _, Nat.zero_le _⟩ dL_replay_4 7 rfl [.int x2, .int 0, .ref (b + a2)] rfl ?_
    refine r_i2l X dL_replay_7 8 rfl ?_
    obtain ⟨M4, e4, h⟩ := z_bd h
    refine r_lastore X ha2 (zn_10 ha2) e4 dL_replay_8 9 rfl ?_
    refine r_goto X dL_replay_9 15 (by decide) ?_
    refine r_iconst (v := 0) X rfl dL_replay_15 16 rfl ?_
    cases h
    exact r_hret X R (by decide) (by decide) rfl dL_replay_16
