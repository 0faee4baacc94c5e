set_option maxRecDepth 100000 in
set_option maxHeartbeats 1000000 in
theorem tX7_thrown {l : Launch} (hl : l.stackTraces = false) (G : zG) (b : Nat) (t0 : Nat) (ht0 : z_kd t0 = 7) (M : zM) {r9 : Int32} (h : fX7_thrown t0 M = some r9) : z_MN l yX7_thrown cX7_thrown 1 (some .int) { frames := 0, cells := 0, slots := 0, locals := 0 } G b [.ref (b + t0)] M (some (.int r9)) M := by
  refine z_met (own := RX7) hl (by decide) rfl rfl (fun Γ hΓ X R => ?_)
  subst hΓ
  show GW Γ G b 0 0 M 0 [(0, .ref (b + t0))] []
  unfold fX7_thrown at h
  refine r_aload_n X 0 rfl dX7_thrown_0 1 rfl ?_
  refine r_get (v := .int (M t0 4)) X ht0 rfl zv_X7 zi_X7 rfl kf_X7_22 rfl rfl dX7_thrown_1 4 rfl ?_
  cases h
  exact r_iret X R rfl dX7_thrown_4
set_option maxRecDepth 100000 in
set_option maxHeartbeats 1000000 in
theorem tX7_write {l : Launch} (hl : l.stackTraces = false) (G : zG) (b : Nat) (t0 : Nat) (ht0 : z_kd t0 = 7) (a1 : Int32) (a2 : Int32) (a3 : Int32) (a4 : Int32) (M : zM) {r9 : Int32} {M9 : zM} (h : fX7_write t0 a1 a2 a3 a4 M = some (r9, M9)) : z_MN l yX7_write cX7_write 9 (some .int) { frames := 3, cells := 0, slots := 0, locals := 68 } G b [.ref (b + t0), .int a1, .int a2, .int a3, .int a4] M (some (.int r9)) M9 := by
  refine z_met (own := RX7) hl (by decide) rfl rfl (fun Γ hΓ X R => ?_)
  subst hΓ
  show GW Γ G b 0 0 M 0 [(0, .ref (b + t0)), (1, .int a1), (2, .int a2), (3, .int a3), (4, .int a4)] []
  unfold fX7_write at h
  refine r_aload_n X 0 rfl dX7_write_0 1 rfl ?_
  refine r_aload_n X 0 rfl dX7_write_1 2 rfl ?_
  refine r_iload_n X 1 rfl dX7_write_2 3 rfl ?_
  obtain ⟨x1, e1, h⟩ := z_bd h
  refine r_callV (rest := [.ref (b + t0)]) X (tX7_isSet hl G b t0 ht0 a1 M e1) zy_X7_isSet zw_X7_isSet km_X7_41 ht0 rfl zv_X7 rfl ⟨rfl, rfl⟩ ⟨rfl, rfl⟩ rfl rfl (Nat.le_of_ble_eq_true rfl) ⟨Nat.zero_le _, Nat.zero_le _⟩ dX7_write_3 6 rfl [.int x1, .ref (b + t0)] rfl ?_
  obtain ⟨j3, hT3, h⟩ := z_bd h
  have hJ3 : GW Γ G b 0 0 M 22 [(0, .ref (b + t0)), (1, .int a1), (2, .int a2), (3, .int a3), (4, .int a4)] [.int j3, .ref (b + t0)] := by
    obtain ⟨M4, e4, h⟩ := z_bd h
    refine r_put X ht0 rfl zv_X7 zi_X7 rfl kf_X7_22 rfl tyX7_ok nmX7 rfl rfl rfl rfl rfl rfl (Option.some.inj e4) dX7_write_22 25 rfl ?_
    refine r_aload_n X 0 rfl dX7_write_25 26 rfl ?_
    refine r_get (v := .int (M4 t0 4)) X ht0 rfl zv_X7 zi_X7 rfl kf_X7_22 rfl rfl dX7_write_26 29 rfl ?_
    refine r_if_le X dX7_write_29 34 (by decide) 32 rfl (fun c5 => ?_) (fun c5 => ?_)
    · have h := z_it c5 h
      refine r_iload_n X 1 rfl dX7_write_34 35 rfl ?_
      refine r_iload_n X 2 rfl dX7_write_35 36 rfl ?_
      refine r_iload_n X 3 rfl dX7_write_36 37 rfl ?_
      obtain ⟨x6, e6, h⟩ := z_bd h
      refine r_callS (rest := []) X (tX7_spot hl G b a1 a2 a3 M4 e6) zy_X7_spot zs_X7_spot km_X7_48 rfl ⟨rfl, rfl⟩ ⟨rfl, rfl⟩ rfl rfl (Nat.le_of_ble_eq_true rfl) ⟨Nat.zero_le _, Nat.zero_le _⟩ dX7_write_37 40 rfl [.int x6] rfl ?_
      refine r_istore X dX7_write_40 42 rfl [(0, .ref (b + t0)), (4, .int a4), (5, .int x6)] (by decide) [1, 5, 0] rfl ?_
      refine r_aload_n X 0 rfl dX7_write_42 43 rfl ?_
      refine r_get (v := .ref (b + (t0 + 1))) X ht0 rfl zv_X7 zi_X7 rfl kf_X7_7 rfl rfl dX7_write_43 46 rfl ?_
      refine r_iload X 2 rfl dX7_write_46 48 rfl ?_
      obtain ⟨x7, e7, h⟩ := z_bd h
      refine r_iaload X (zk_7_0 ht0) (zn_7_0 ht0) e7 dX7_write_48 49 rfl ?_
      refine r_iconst (v := 1) X rfl dX7_write_49 50 rfl ?_
      refine r_isub X dX7_write_50 51 rfl ?_
      refine r_istore X dX7_write_51 53 rfl [(0, .ref (b + t0)), (4, .int a4), (5, .int x6), (6, .int (x7 - 1))] (by decide) [1, 2, 3, 0] rfl ?_
      refine r_iload X 3 rfl dX7_write_53 55 rfl ?_
      obtain ⟨j9, hT9, h⟩ := z_bd h
      have hJ9 : GW Γ G b 0 0 M4 100 [(0, .ref (b + t0)), (4, .int a4), (5, .int x6), (6, .int (x7 - 1))] [.int j9] := by
        refine r_istore X dX7_write_100 102 rfl [(0, .ref (b + t0)), (4, .int a4), (5, .int x6), (6, .int (x7 - 1)), (7, .int j9)] (by decide) [1, 2, 3, 4, 0] rfl ?_
        refine r_iload X 4 rfl dX7_write_102 104 rfl ?_
        obtain ⟨j11, hT11, h⟩ := z_bd h
        have hJ11 : GW Γ G b 0 0 M4 116 [(0, .ref (b + t0)), (4, .int a4), (5, .int x6)] [.int j11] := by
          refine r_istore X dX7_write_116 118 rfl [(0, .ref (b + t0)), (4, .int a4), (5, .int x6), (6, .int j11)] (by decide) [1, 2, 3, 0] rfl ?_
          refine r_aload_n X 0 rfl dX7_write_118 119 rfl ?_
          refine r_iload X 3 rfl dX7_write_119 121 rfl ?_
          obtain ⟨j13, hT13, h⟩ := z_bd h
          have hJ13 : GW Γ G b 0 0 M4 129 [(0, .ref (b + t0)), (4, .int a4), (5, .int x6), (6, .int j11)] [.int j13, .ref (b + t0)] := by
            obtain ⟨M14, e14, h⟩ := z_bd h
            refine r_put X ht0 rfl zv_X7 zi_X7 rfl kf_X7_22 rfl tyX7_ok nmX7 rfl rfl rfl rfl rfl rfl (Option.some.inj e14) dX7_write_129 132 rfl ?_
            refine r_aload_n X 0 rfl dX7_write_132 133 rfl ?_
            refine r_get (v := .int (M14 t0 4)) X ht0 rfl zv_X7 zi_X7 rfl kf_X7_22 rfl rfl dX7_write_133 136 rfl ?_
            refine r_if_le X dX7_write_136 141 (by decide) 139 rfl (fun c15 => ?_) (fun c15 => ?_)
            · have h := z_it c15 h
              refine r_aload_n X 0 rfl dX7_write_141 142 rfl ?_
              refine r_get (v := .ref (b + (t0 + 1))) X ht0 rfl zv_X7 zi_X7 rfl kf_X7_7 rfl rfl dX7_write_142 145 rfl ?_
              refine r_sipush (v := 2430) X rfl dX7_write_145 148 rfl ?_
              refine r_iload X 3 rfl dX7_write_148 150 rfl ?_
              refine r_iadd X dX7_write_150 151 rfl ?_
              refine r_iload X 1 rfl dX7_write_151 153 rfl ?_
              obtain ⟨M16, e16, h⟩ := z_bd h
              refine r_iastore X (zk_7_0 ht0) (zn_7_0 ht0) e16 dX7_write_153 154 rfl ?_
              refine r_aload_n X 0 rfl dX7_write_154 155 rfl ?_
              refine r_get (v := .ref (b + (t0 + 1))) X ht0 rfl zv_X7 zi_X7 rfl kf_X7_7 rfl rfl dX7_write_155 158 rfl ?_
              refine r_sipush (v := 2558) X rfl dX7_write_158 161 rfl ?_
              refine r_iload X 3 rfl dX7_write_161 163 rfl ?_
              refine r_iadd X dX7_write_163 164 rfl ?_
              refine r_aload_n X 0 rfl dX7_write_164 165 rfl ?_
              refine r_get (v := .ref (b + (t0 + 1))) X ht0 rfl zv_X7 zi_X7 rfl kf_X7_7 rfl rfl dX7_write_165 168 rfl ?_
              refine r_sipush (v := 3395) X rfl dX7_write_168 171 rfl ?_
              obtain ⟨x17, e17, h⟩ := z_bd h
              refine r_iaload X (zk_7_0 ht0) (zn_7_0 ht0) e17 dX7_write_171 172 rfl ?_
              obtain ⟨M18, e18, h⟩ := z_bd h
              refine r_iastore X (zk_7_0 ht0) (zn_7_0 ht0) e18 dX7_write_172 173 rfl ?_
              refine r_aload_n X 0 rfl dX7_write_173 174 rfl ?_
              refine r_get (v := .ref (b + (t0 + 1))) X ht0 rfl zv_X7 zi_X7 rfl kf_X7_7 rfl rfl dX7_write_174 177 rfl ?_
              refine r_iload X 2 rfl dX7_write_177 179 rfl ?_
              refine r_iload X 3 rfl dX7_write_179 181 rfl ?_
              refine r_iconst (v := 1) X rfl dX7_write_181 182 rfl ?_
              refine r_iadd X dX7_write_182 183 rfl ?_
              obtain ⟨M19, e19, h⟩ := z_bd h
              refine r_iastore X (zk_7_0 ht0) (zn_7_0 ht0) e19 dX7_write_183 184 rfl ?_
              refine r_aload_n X 0 rfl dX7_write_184 185 rfl ?_
              obtain ⟨x20, M21, e21, h⟩ := z_bd2 h
              refine r_callV (rest := []) X (tX7_counts hl G b t0 ht0 M19 e21) zy_X7_counts zw_X7_counts km_X7_56 ht0 rfl zv_X7 rfl ⟨rfl, rfl⟩ ⟨rfl, rfl⟩ rfl rfl (Nat.le_of_ble_eq_true rfl) ⟨Nat.zero_le _, Nat.zero_le _⟩ dX7_write_185 188 rfl [.int x20] rfl ?_
              refine r_istore X dX7_write_188 190 rfl [(6, .int j11), (8, .int x20)] (by decide) [4, 0] rfl ?_
              refine r_iload X 1 rfl dX7_write_190 192 rfl ?_
              refine r_if_ge X dX7_write_192 199 (by decide) 195 rfl (fun c22 => ?_) (fun c22 => ?_)
              · have h := z_it c22 h
                refine r_iload X 0 rfl dX7_write_199 201 rfl ?_
                cases h
                exact r_iret X R rfl dX7_write_201
              · have h := z_ie c22 h
                refine r_iconst (v := (-1)) X rfl dX7_write_195 196 rfl ?_
                refine r_goto X dX7_write_196 201 (by decide) ?_
                cases h
                exact r_iret X R rfl dX7_write_201
            · have h := z_ie c15 h
              refine r_iconst (v := 0) X rfl dX7_write_139 140 rfl ?_
              cases h
              exact r_iret X R rfl dX7_write_140
          have h := hT13
          refine r_if_ge X dX7_write_121 128 (by decide) 124 rfl (fun c12 => ?_) (fun c12 => ?_)
          · have h := z_it c12 h
            refine r_iconst (v := 0) X rfl dX7_write_128 129 rfl ?_
            cases h
            exact hJ13
          · have h := z_ie c12 h
            refine r_iconst (v := 2) X rfl dX7_write_124 125 rfl ?_
            refine r_goto X dX7_write_125 129 (by decide) ?_
            cases h
            exact hJ13
        have h := hT11
        refine r_if_eq X dX7_write_104 112 (by decide) 107 rfl (fun c10 => ?_) (fun c10 => ?_)
        · have h := z_it c10 h
          refine r_aload_n X 0 rfl dX7_write_112 113 rfl ?_
          obtain ⟨x23, e23, h⟩ := z_bd h
          refine r_callV (rest := []) X (tX7_nextFree hl G b t0 ht0 M4 e23) zy_X7_nextFree zw_X7_nextFree km_X7_52 ht0 rfl zv_X7 rfl ⟨rfl, rfl⟩ ⟨rfl, rfl⟩ rfl rfl (Nat.le_of_ble_eq_true rfl) ⟨Nat.zero_le _, Nat.zero_le _⟩ dX7_write_113 116 rfl [.int x23] rfl ?_
          refine r_sub [(0, .ref (b + t0)), (4, .int a4), (5, .int x6)] [0, 1, 2] rfl ?_
          cases h
          exact hJ11
        · have h := z_ie c10 h
          refine r_iload X 3 rfl dX7_write_107 109 rfl ?_
          refine r_goto X dX7_write_109 116 (by decide) ?_
          refine r_sub [(0, .ref (b + t0)), (4, .int a4), (5, .int x6)] [0, 1, 2] rfl ?_
          cases h
          exact hJ11
      have h := hT9
      refine r_if_lt X dX7_write_55 99 (by decide) 58 rfl (fun c8 => ?_) (fun c8 => ?_)
      · have h := z_it c8 h
        refine r_iconst (v := 0) X rfl dX7_write_99 100 rfl ?_
        cases h
        exact hJ9
      · have h := z_ie c8 h
        refine r_aload_n X 0 rfl dX7_write_58 59 rfl ?_
        refine r_get (v := .ref (b + (t0 + 1))) X ht0 rfl zv_X7 zi_X7 rfl kf_X7_7 rfl rfl dX7_write_59 62 rfl ?_
        refine r_sipush (v := 2558) X rfl dX7_write_62 65 rfl ?_
        refine r_iload X 3 rfl dX7_write_65 67 rfl ?_
        refine r_iadd X dX7_write_67 68 rfl ?_
        obtain ⟨x24, e24, h⟩ := z_bd h
        refine r_iaload X (zk_7_0 ht0) (zn_7_0 ht0) e24 dX7_write_68 69 rfl ?_
        refine r_aload_n X 0 rfl dX7_write_69 70 rfl ?_
        refine r_get (v := .ref (b + (t0 + 1))) X ht0 rfl zv_X7 zi_X7 rfl kf_X7_7 rfl rfl dX7_write_70 73 rfl ?_
        refine r_sipush (v := 3395) X rfl dX7_write_73 76 rfl ?_
        obtain ⟨x25, e25, h⟩ := z_bd h
        refine r_iaload X (zk_7_0 ht0) (zn_7_0 ht0) e25 dX7_write_76 77 rfl ?_
        refine r_icmp_ne X dX7_write_77 99 (by decide) 80 rfl (fun c26 => ?_) (fun c26 => ?_)
        · have h := z_ie c26 h
          refine r_iconst (v := 0) X rfl dX7_write_99 100 rfl ?_
          cases h
          exact hJ9
        · have h := z_it c26 h
          refine r_aload_n X 0 rfl dX7_write_80 81 rfl ?_
          refine r_get (v := .ref (b + (t0 + 1))) X ht0 rfl zv_X7 zi_X7 rfl kf_X7_7 rfl rfl dX7_write_81 84 rfl ?_
          refine r_sipush (v := 2814) X rfl dX7_write_84 87 rfl ?_
          refine r_iload X 3 rfl dX7_write_87 89 rfl ?_
          refine r_iadd X dX7_write_89 90 rfl ?_
          obtain ⟨x27, e27, h⟩ := z_bd h
          refine r_iaload X (zk_7_0 ht0) (zn_7_0 ht0) e27 dX7_write_90 91 rfl ?_
          refine r_iconst (v := 1) X rfl dX7_write_91 92 rfl ?_
          refine r_icmp_ne X dX7_write_92 99 (by decide) 95 rfl (fun c28 => ?_) (fun c28 => ?_)
          · have h := z_ie c28 h
            refine r_iconst (v := 0) X rfl dX7_write_99 100 rfl ?_
            cases h
            exact hJ9
          · have h := z_it c28 h
            refine r_iconst (v := 1) X rfl dX7_write_95 96 rfl ?_
            refine r_goto X dX7_write_96 100 (by decide) ?_
            cases h
            exact hJ9
    · have h := z_ie c5 h
      refine r_iconst (v := 0) X rfl dX7_write_32 33 rfl ?_
      cases h
      exact r_iret X R rfl dX7_write_33
  have h := hT3
  refine r_if_eq X dX7_write_6 21 (by decide) 9 rfl (fun c2 => ?_) (fun c2 => ?_)
  · have h := z_it c2 h
    refine r_iconst (v := 1) X rfl dX7_write_21 22 rfl ?_
    cases h
    exact hJ3
  · have h := z_ie c2 h
    refine r_iload_n X 2 rfl dX7_write_9 10 rfl ?_
    refine r_iload_n X 3 rfl dX7_write_10 11 rfl ?_
    obtain ⟨x29, e29, h⟩ := z_bd h
    refine r_callS (rest := [.ref (b + t0)]) X (tX7_isSpot hl G b a2 a3 M e29) zy_X7_isSpot zs_X7_isSpot km_X7_44 rfl ⟨rfl, rfl⟩ ⟨rfl, rfl⟩ rfl rfl (Nat.le_of_ble_eq_true rfl) ⟨Nat.zero_le _, Nat.zero_le _⟩ dX7_write_11 14 rfl [.int x29, .ref (b + t0)] rfl ?_
    refine r_if_eq X dX7_write_14 21 (by decide) 17 rfl (fun c30 => ?_) (fun c30 => ?_)
    · have h := z_it c30 h
      refine r_iconst (v := 1) X rfl dX7_write_21 22 rfl ?_
      cases h
      exact hJ3
    · have h := z_ie c30 h
      refine r_iconst (v := 0) X rfl dX7_write_17 18 rfl ?_
      refine r_goto X dX7_write_18 22 (by decide) ?_
      cases h
      exact hJ3
set_option maxRecDepth 100000 in
set_option maxHeartbeats 1000000 in
theorem tX7_read {l : Launch} (hl : l.stackTraces = false) (G : zG) (b : Nat) (t0 : Nat) (ht0 : z_kd t0 = 7) (a1 : Int32) (a2 : Int32) (a3 : Int32) (M : zM) {r9 : Int32} {M9 : zM} (h : fX7_read t0 a1 a2 a3 M = some (r9, M9)) : z_MN l yX7_read cX7_read 4 (some .int) { frames := 4, cells := 0, slots := 0, locals := 86 } G b [.ref (b + t0), .int a1, .int a2, .int a3] M (some (.int r9)) M9 := by
  refine z_met (own := RX7) hl (by decide) rfl rfl (fun Γ hΓ X R => ?_)
  subst hΓ
  show GW Γ G b 0 0 M 0 [(0, .ref (b + t0)), (1, .int a1), (2, .int a2), (3, .int a3)] []
  unfold fX7_read at h
  refine r_aload_n X 0 rfl dX7_read_0 1 rfl ?_
  refine r_iload_n X 1 rfl dX7_read_1 2 rfl ?_
  refine r_iload_n X 2 rfl dX7_read_2 3 rfl ?_
  refine r_iload_n X 3 rfl dX7_read_3 4 rfl ?_
  obtain ⟨x1, M2, e2, h⟩ := z_bd2 h
  refine r_callV (rest := []) X (tX7_isKnown hl G b t0 ht0 a1 a2 a3 M e2) zy_X7_isKnown zw_X7_isKnown km_X7_63 ht0 rfl zv_X7 rfl ⟨rfl, rfl⟩ ⟨rfl, rfl⟩ rfl rfl (Nat.le_of_ble_eq_true rfl) ⟨Nat.zero_le _, Nat.zero_le _⟩ dX7_read_4 7 rfl [.int x1] rfl ?_
  refine r_if_eq X dX7_read_7 23 (by decide) 10 rfl (fun c3 => ?_) (fun c3 => ?_)
  · have h := z_it c3 h
    refine r_iconst (v := 0) X rfl dX7_read_23 24 rfl ?_
    cases h
    exact r_iret X R rfl dX7_read_24
  · have h := z_ie c3 h
    refine r_aload_n X 0 rfl dX7_read_10 11 rfl ?_
    refine r_iload_n X 1 rfl dX7_read_11 12 rfl ?_
    refine r_iload_n X 2 rfl dX7_read_12 13 rfl ?_
    refine r_iload_n X 3 rfl dX7_read_13 14 rfl ?_
    obtain ⟨x4, e4, h⟩ := z_bd h
    refine r_callS (rest := [.ref (b + t0)]) X (tX7_spot hl G b a1 a2 a3 M2 e4) zy_X7_spot zs_X7_spot km_X7_48 rfl ⟨rfl, rfl⟩ ⟨rfl, rfl⟩ rfl rfl (Nat.le_of_ble_eq_true rfl) ⟨Nat.zero_le _, Nat.zero_le _⟩ dX7_read_14 17 rfl [.int x4, .ref (b + t0)] rfl ?_
    obtain ⟨x5, e5, h⟩ := z_bd h
    refine r_callV (rest := []) X (tX7_valueAt hl G b t0 ht0 x4 M2 e5) zy_X7_valueAt zw_X7_valueAt km_X7_66 ht0 rfl zv_X7 rfl ⟨rfl, rfl⟩ ⟨rfl, rfl⟩ rfl rfl (Nat.le_of_ble_eq_true rfl) ⟨Nat.zero_le _, Nat.zero_le _⟩ dX7_read_17 20 rfl [.int x5] rfl ?_
    refine r_goto X dX7_read_20 24 (by decide) ?_
    cases h
    exact r_iret X R rfl dX7_read_24
set_option maxRecDepth 100000 in
set_option maxHeartbeats 1000000 in
theorem tX7_blockAt {l : Launch} (hl : l.stackTraces = false) (G : zG) (b : Nat) (t0 : Nat) (ht0 : z_kd t0 = 7) (a1 : Int32) (a2 : Int32) (a3 : Int32) (M : zM) {r9 : Int32} {M9 : zM} (h : fX7_blockAt t0 a1 a2 a3 M = some (r9, M9)) : z_MN l yX7_blockAt cX7_blockAt 4 (some .int) { frames := 4, cells := 0, slots := 0, locals := 86 } G b [.ref (b + t0), .int a1, .int a2, .int a3] M (some (.int r9)) M9 := by
  refine z_met (own := RX7) hl (by decide) rfl rfl (fun Γ hΓ X R => ?_)
  subst hΓ
  show GW Γ G b 0 0 M 0 [(0, .ref (b + t0)), (1, .int a1), (2, .int a2), (3, .int a3)] []
  unfold fX7_blockAt at h
  refine r_aload_n X 0 rfl dX7_blockAt_0 1 rfl ?_
  refine r_iload_n X 1 rfl dX7_blockAt_1 2 rfl ?_
  refine r_iload_n X 2 rfl dX7_blockAt_2 3 rfl ?_
  refine r_iload_n X 3 rfl dX7_blockAt_3 4 rfl ?_
  obtain ⟨x1, M2, e2, h⟩ := z_bd2 h
  refine r_callV (rest := []) X (tX7_isKnown hl G b t0 ht0 a1 a2 a3 M e2) zy_X7_isKnown zw_X7_isKnown km_X7_63 ht0 rfl zv_X7 rfl ⟨rfl, rfl⟩ ⟨rfl, rfl⟩ rfl rfl (Nat.le_of_ble_eq_true rfl) ⟨Nat.zero_le _, Nat.zero_le _⟩ dX7_blockAt_4 7 rfl [.int x1] rfl ?_
  refine r_if_eq X dX7_blockAt_7 26 (by decide) 10 rfl (fun c3 => ?_) (fun c3 => ?_)
  · have h := z_it c3 h
    refine r_iconst (v := 0) X rfl dX7_blockAt_26 27 rfl ?_
    cases h
    exact r_iret X R rfl dX7_blockAt_27
  · have h := z_ie c3 h
    refine r_aload_n X 0 rfl dX7_blockAt_10 11 rfl ?_
    refine r_get (v := .ref (b + (t0 + 1))) X ht0 rfl zv_X7 zi_X7 rfl kf_X7_7 rfl rfl dX7_blockAt_11 14 rfl ?_
    refine r_iload_n X 1 rfl dX7_blockAt_14 15 rfl ?_
    refine r_iload_n X 2 rfl dX7_blockAt_15 16 rfl ?_
    refine r_iload_n X 3 rfl dX7_blockAt_16 17 rfl ?_
    obtain ⟨x4, e4, h⟩ := z_bd h
    refine r_callS (rest := [.ref (b + (t0 + 1))]) X (tX7_spot hl G b a1 a2 a3 M2 e4) zy_X7_spot zs_X7_spot km_X7_48 rfl ⟨rfl, rfl⟩ ⟨rfl, rfl⟩ rfl rfl (Nat.le_of_ble_eq_true rfl) ⟨Nat.zero_le _, Nat.zero_le _⟩ dX7_blockAt_17 20 rfl [.int x4, .ref (b + (t0 + 1))] rfl ?_
    obtain ⟨x5, e5, h⟩ := z_bd h
    refine r_iaload X (zk_7_0 ht0) (zn_7_0 ht0) e5 dX7_blockAt_20 21 rfl ?_
    refine r_iconst (v := 1) X rfl dX7_blockAt_21 22 rfl ?_
    refine r_isub X dX7_blockAt_22 23 rfl ?_
    refine r_goto X dX7_blockAt_23 27 (by decide) ?_
    cases h
    exact r_iret X R rfl dX7_blockAt_27
set_option maxRecDepth 100000 in
set_option maxHeartbeats 1000000 in
theorem tX7_length {l : Launch} (hl : l.stackTraces = false) (G : zG) (b : Nat) (t0 : Nat) (ht0 : z_kd t0 = 7) (a1 : Int32) (a2 : Int32) (M : zM) {r9 : Int32} {M9 : zM} (h : fX7_length t0 a1 a2 M = some (r9, M9)) : z_MN l yX7_length cX7_length 6 (some .int) { frames := 2, cells := 0, slots := 0, locals := 43 } G b [.ref (b + t0), .int a1, .int a2] M (some (.int r9)) M9 := by
  refine z_met (own := RX7) hl (by decide) rfl rfl (fun Γ hΓ X R => ?_)
  subst hΓ
  show GW Γ G b 0 0 M 0 [(0, .ref (b + t0)), (1, .int a1), (2, .int a2)] []
  unfold fX7_length at h
  refine r_iconst (v := 0) X rfl dX7_length_0 1 rfl ?_
  refine r_istore_n X dX7_length_1 2 rfl [(0, .ref (b + t0)), (1, .int a1), (2, .int a2), (3, .int 0)] (by decide) [1, 2, 3, 0] rfl ?_
  refine r_aload_n X 0 rfl dX7_length_2 3 rfl ?_
  refine r_aload_n X 0 rfl dX7_length_3 4 rfl ?_
  refine r_iload_n X 1 rfl dX7_length_4 5 rfl ?_
  obtain ⟨x1, e1, h⟩ := z_bd h
  refine r_callV (rest := [.ref (b + t0)]) X (tX7_isSet hl G b t0 ht0 a1 M e1) zy_X7_isSet zw_X7_isSet km_X7_41 ht0 rfl zv_X7 rfl ⟨rfl, rfl⟩ ⟨rfl, rfl⟩ rfl rfl (Nat.le_of_ble_eq_true rfl) ⟨Nat.zero_le _, Nat.zero_le _⟩ dX7_length_5 8 rfl [.int x1, .ref (b + t0)] rfl ?_
  obtain ⟨j3, hT3, h⟩ := z_bd h
  have hJ3 : GW Γ G b 0 0 M 23 [(0, .ref (b + t0)), (1, .int a1), (2, .int a2), (3, .int 0)] [.int j3, .ref (b + t0)] := by
    refine r_iconst (v := 1) X rfl dX7_length_23 24 rfl ?_
    obtain ⟨x4, M5, e5, h⟩ := z_bd2 h
    refine r_callV (rest := []) X (tX7_fits hl G b t0 ht0 j3 1 M e5) zy_X7_fits zw_X7_fits km_X7_59 ht0 rfl zv_X7 rfl ⟨rfl, rfl⟩ ⟨rfl, rfl⟩ rfl rfl (Nat.le_of_ble_eq_true rfl) ⟨Nat.zero_le _, Nat.zero_le _⟩ dX7_length_24 27 rfl [.int x4] rfl ?_
    refine r_istore X dX7_length_27 29 rfl [(0, .ref (b + t0)), (1, .int a1), (2, .int a2), (3, .int 0), (4, .int x4)] (by decide) [1, 2, 3, 4, 0] rfl ?_
    refine r_iconst (v := 0) X rfl dX7_length_29 30 rfl ?_
    refine r_istore X dX7_length_30 32 rfl [(0, .ref (b + t0)), (1, .int a1), (2, .int a2), (3, .int 0), (4, .int x4), (5, .int 0)] (by decide) [1, 2, 3, 4, 5, 0] rfl ?_
    obtain ⟨x8, hL9, h⟩ := z_bd h
    have hK9 : GW Γ G b 0 0 M5 74 [(3, .int x8)] [] := by
      refine r_iload_n X 0 rfl dX7_length_74 75 rfl ?_
      cases h
      exact r_iret X R rfl dX7_length_75
    clear h
    refine z_loopP (fun (s : (Int32 × Int32)) => GW Γ G b 0 0 M5 32 [(0, .ref (b + t0)), (1, .int a1), (2, .int a2), (3, .int s.1), (4, .int x4), (5, .int s.2)] []) (fun s q9 hb hP9 hx9 => ?_) _ _ hL9
    obtain ⟨x6, x7⟩ := s
    have h : fX7_length_L1 t0 a1 a2 x4 M5 x6 x7 = some q9 := hb
    unfold fX7_length_L1 at h
    refine r_iload X 5 rfl dX7_length_32 34 rfl ?_
    refine r_bipush (v := 16) X rfl dX7_length_34 36 rfl ?_
    refine r_icmp_ge X dX7_length_36 74 (by decide) 39 rfl (fun c10 => ?_) (fun c10 => ?_)
    · have h := z_it c10 h
      refine r_sub [(3, .int x6)] [3] rfl ?_
      have e := hx9 _ (Option.some.inj h).symm
      cases e
      exact hK9
    · have h := z_ie c10 h
      refine r_iload X 4 rfl dX7_length_39 41 rfl ?_
      refine r_if_eq X dX7_length_41 74 (by decide) 44 rfl (fun c11 => ?_) (fun c11 => ?_)
      · have h := z_it c11 h
        refine r_sub [(3, .int x6)] [3] rfl ?_
        have e := hx9 _ (Option.some.inj h).symm
        cases e
        exact hK9
      · have h := z_ie c11 h
        refine r_aload_n X 0 rfl dX7_length_44 45 rfl ?_
        refine r_get (v := .ref (b + (t0 + 1))) X ht0 rfl zv_X7 zi_X7 rfl kf_X7_7 rfl rfl dX7_length_45 48 rfl ?_
        refine r_iload_n X 1 rfl dX7_length_48 49 rfl ?_
        refine r_iload_n X 2 rfl dX7_length_49 50 rfl ?_
        refine r_iload X 5 rfl dX7_length_50 52 rfl ?_
        obtain ⟨x12, e12, h⟩ := z_bd h
        refine r_callS (rest := [.ref (b + (t0 + 1))]) X (tX7_spot hl G b a1 a2 x7 M5 e12) zy_X7_spot zs_X7_spot km_X7_48 rfl ⟨rfl, rfl⟩ ⟨rfl, rfl⟩ rfl rfl (Nat.le_of_ble_eq_true rfl) ⟨Nat.zero_le _, Nat.zero_le _⟩ dX7_length_52 55 rfl [.int x12, .ref (b + (t0 + 1))] rfl ?_
        obtain ⟨x13, e13, h⟩ := z_bd h
        refine r_iaload X (zk_7_0 ht0) (zn_7_0 ht0) e13 dX7_length_55 56 rfl ?_
        refine r_if_le X dX7_length_56 66 (by decide) 59 rfl (fun c14 => ?_) (fun c14 => ?_)
        · have h := z_it c14 h
          refine r_iload_n X 3 rfl dX7_length_66 67 rfl ?_
          refine r_istore_n X dX7_length_67 68 rfl [(0, .ref (b + t0)), (1, .int a1), (2, .int a2), (3, .int x6), (4, .int x4), (5, .int x7)] (by decide) [1, 2, 3, 0, 4, 5] rfl ?_
          refine r_iinc X dX7_length_68 71 rfl [(0, .ref (b + t0)), (1, .int a1), (2, .int a2), (3, .int x6), (4, .int x4), (5, .int (x7 + 1))] (by decide) 5 rfl (x7 + 1) rfl [1, 2, 3, 4, 5, 0] rfl ?_
          refine r_goto X dX7_length_71 32 (by decide) ?_
          exact hP9 (x6, (x7 + 1)) (Option.some.inj h).symm
        · have h := z_ie c14 h
          refine r_iload X 5 rfl dX7_length_59 61 rfl ?_
          refine r_iconst (v := 1) X rfl dX7_length_61 62 rfl ?_
          refine r_iadd X dX7_length_62 63 rfl ?_
          refine r_goto X dX7_length_63 67 (by decide) ?_
          refine r_istore_n X dX7_length_67 68 rfl [(0, .ref (b + t0)), (1, .int a1), (2, .int a2), (3, .int (x7 + 1)), (4, .int x4), (5, .int x7)] (by decide) [1, 2, 3, 0, 4, 5] rfl ?_
          refine r_iinc X dX7_length_68 71 rfl [(0, .ref (b + t0)), (1, .int a1), (2, .int a2), (3, .int (x7 + 1)), (4, .int x4), (5, .int (x7 + 1))] (by decide) 5 rfl (x7 + 1) rfl [1, 2, 3, 4, 5, 0] rfl ?_
          refine r_goto X dX7_length_71 32 (by decide) ?_
          exact hP9 ((x7 + 1), (x7 + 1)) (Option.some.inj h).symm
  have h := hT3
  refine r_if_eq X dX7_length_8 22 (by decide) 11 rfl (fun c2 => ?_) (fun c2 => ?_)
  · have h := z_it c2 h
    refine r_iconst (v := 0) X rfl dX7_length_22 23 rfl ?_
    cases h
    exact hJ3
  · have h := z_ie c2 h
    refine r_iload_n X 2 rfl dX7_length_11 12 rfl ?_
    obtain ⟨x15, e15, h⟩ := z_bd h
    refine r_callS (rest := [.ref (b + t0)]) X (tX7_isFile hl G b a2 M e15) zy_X7_isFile zs_X7_isFile km_X7_30 rfl ⟨rfl, rfl⟩ ⟨rfl, rfl⟩ rfl rfl (Nat.le_of_ble_eq_true rfl) ⟨Nat.zero_le _, Nat.zero_le _⟩ dX7_length_12 15 rfl [.int x15, .ref (b + t0)] rfl ?_
    refine r_if_eq X dX7_length_15 22 (by decide) 18 rfl (fun c16 => ?_) (fun c16 => ?_)
    · have h := z_it c16 h
      refine r_iconst (v := 0) X rfl dX7_length_22 23 rfl ?_
      cases h
      exact hJ3
    · have h := z_ie c16 h
      refine r_iconst (v := 1) X rfl dX7_length_18 19 rfl ?_
      refine r_goto X dX7_length_19 23 (by decide) ?_
      cases h
      exact hJ3
set_option maxRecDepth 100000 in
set_option maxHeartbeats 1000000 in
theorem tX7_punch {l : Launch} (hl : l.stackTraces = false) (G : zG) (b : Nat) (t0 : Nat) (ht0 : z_kd t0 = 7) (a1 : Int32) (a2 : Int32) (a3 : Int32) (a4 : Int32) (M : zM) {r9 : Int32} {M9 : zM} (h : fX7_punch t0 a1 a2 a3 a4 M = some (r9, M9)) : z_MN l yX7_punch cX7_punch 8 (some .int) { frames := 3, cells := 0, slots := 0, locals := 63 } G b [.ref (b + t0), .int a1, .int a2, .int a3, .int a4] M (some (.int r9)) M9 := by
  refine z_met (own := RX7) hl (by decide) rfl rfl (fun Γ hΓ X R => ?_)
  subst hΓ
  show GW Γ G b 0 0 M 0 [(0, .ref (b + t0)), (1, .int a1), (2, .int a2), (3, .int a3), (4, .int a4)] []
  unfold fX7_punch at h
  refine r_aload_n X 0 rfl dX7_punch_0 1 rfl ?_
  refine r_aload_n X 0 rfl dX7_punch_1 2 rfl ?_
  refine r_iload_n X 1 rfl dX7_punch_2 3 rfl ?_
  obtain ⟨x1, e1, h⟩ := z_bd h
  refine r_callV (rest := [.ref (b + t0)]) X (tX7_isSet hl G b t0 ht0 a1 M e1) zy_X7_isSet zw_X7_isSet km_X7_41 ht0 rfl zv_X7 rfl ⟨rfl, rfl⟩ ⟨rfl, rfl⟩ rfl rfl (Nat.le_of_ble_eq_true rfl) ⟨Nat.zero_le _, Nat.zero_le _⟩ dX7_punch_3 6 rfl [.int x1, .ref (b + t0)] rfl ?_
  obtain ⟨j3, hT3, h⟩ := z_bd h
  have hJ3 : GW Γ G b 0 0 M 22 [(0, .ref (b + t0)), (1, .int a1), (2, .int a2), (3, .int a3), (4, .int a4)] [.int j3, .ref (b + t0)] := by
    refine r_iload X 4 rfl dX7_punch_22 24 rfl ?_
    refine r_iconst (v := 1) X rfl dX7_punch_24 25 rfl ?_
    refine r_bipush (v := 16) X rfl dX7_punch_25 27 rfl ?_
    refine r_iload_n X 3 rfl dX7_punch_27 28 rfl ?_
    refine r_isub X dX7_punch_28 29 rfl ?_
    obtain ⟨x4, e4, h⟩ := z_bd h
    refine r_callS (rest := [.int j3, .ref (b + t0)]) X (tX7_in hl G b a4 1 (16 - a3) M e4) zy_X7_in zs_X7_in km_X7_26 rfl ⟨rfl, rfl⟩ ⟨rfl, rfl⟩ rfl rfl (Nat.le_of_ble_eq_true rfl) ⟨Nat.zero_le _, Nat.zero_le _⟩ dX7_punch_29 32 rfl [.int x4, .int j3, .ref (b + t0)] rfl ?_
    obtain ⟨x5, M6, e6, h⟩ := z_bd2 h
    refine r_callV (rest := []) X (tX7_fits hl G b t0 ht0 j3 x4 M e6) zy_X7_fits zw_X7_fits km_X7_59 ht0 rfl zv_X7 rfl ⟨rfl, rfl⟩ ⟨rfl, rfl⟩ rfl rfl (Nat.le_of_ble_eq_true rfl) ⟨Nat.zero_le _, Nat.zero_le _⟩ dX7_punch_32 35 rfl [.int x5] rfl ?_
    refine r_if_ne X dX7_punch_35 40 (by decide) 38 rfl (fun c7 => ?_) (fun c7 => ?_)
    · have h := z_ie c7 h
      refine r_iconst (v := 0) X rfl dX7_punch_40 41 rfl ?_
      refine r_istore X dX7_punch_41 43 rfl [(0, .ref (b + t0)), (1, .int a1), (2, .int a2), (3, .int a3), (4, .int a4), (5, .int 0)] (by decide) [1, 2, 3, 4, 5, 0] rfl ?_
      refine r_iconst (v := 0) X rfl dX7_punch_43 44 rfl ?_
      refine r_istore X dX7_punch_44 46 rfl [(0, .ref (b + t0)), (1, .int a1), (2, .int a2), (3, .int a3), (4, .int a4), (5, .int 0), (6, .int 0)] (by decide) [1, 2, 3, 4, 5, 6, 0] rfl ?_
      obtain ⟨x11, M12, hL13, h⟩ := z_bd2 h
      have hK13 : GW Γ G b 0 0 M12 98 [(0, .ref (b + t0)), (5, .int x11)] [] := by
        refine r_aload_n X 0 rfl dX7_punch_98 99 rfl ?_
        obtain ⟨x14, M15, e15, h⟩ := z_bd2 h
        refine r_callV (rest := []) X (tX7_counts hl G b t0 ht0 M12 e15) zy_X7_counts zw_X7_counts km_X7_56 ht0 rfl zv_X7 rfl ⟨rfl, rfl⟩ ⟨rfl, rfl⟩ rfl rfl (Nat.le_of_ble_eq_true rfl) ⟨Nat.zero_le _, Nat.zero_le _⟩ dX7_punch_99 102 rfl [.int x14] rfl ?_
        refine r_if_ge X dX7_punch_102 109 (by decide) 105 rfl (fun c16 => ?_) (fun c16 => ?_)
        · have h := z_it c16 h
          refine r_iload X 1 rfl dX7_punch_109 111 rfl ?_
          cases h
          exact r_iret X R rfl dX7_punch_111
        · have h := z_ie c16 h
          refine r_iconst (v := 0) X rfl dX7_punch_105 106 rfl ?_
          refine r_goto X dX7_punch_106 111 (by decide) ?_
          cases h
          exact r_iret X R rfl dX7_punch_111
      clear h
      refine z_loopP (fun (s : (Int32 × Int32 × zM)) => GW Γ G b 0 0 s.2.2 46 [(0, .ref (b + t0)), (1, .int a1), (2, .int a2), (3, .int a3), (4, .int a4), (5, .int s.1), (6, .int s.2.1)] []) (fun s q13 hb hP13 hx13 => ?_) _ _ hL13
      obtain ⟨x8, x9, M10⟩ := s
      have h : fX7_punch_L1 t0 a1 a2 a3 a4 x8 x9 M10 = some q13 := hb
      unfold fX7_punch_L1 at h
      refine r_iload X 6 rfl dX7_punch_46 48 rfl ?_
      refine r_iload X 4 rfl dX7_punch_48 50 rfl ?_
      refine r_icmp_ge X dX7_punch_50 98 (by decide) 53 rfl (fun c17 => ?_) (fun c17 => ?_)
      · have h := z_it c17 h
        refine r_sub [(0, .ref (b + t0)), (5, .int x8)] [0, 5] rfl ?_
        have e := hx13 _ (Option.some.inj h).symm
        cases e
        exact hK13
      · have h := z_ie c17 h
        refine r_iload_n X 1 rfl dX7_punch_53 54 rfl ?_
        refine r_iload_n X 2 rfl dX7_punch_54 55 rfl ?_
        refine r_iload_n X 3 rfl dX7_punch_55 56 rfl ?_
        refine r_iload X 6 rfl dX7_punch_56 58 rfl ?_
        refine r_iadd X dX7_punch_58 59 rfl ?_
        obtain ⟨x18, e18, h⟩ := z_bd h
        refine r_callS (rest := []) X (tX7_spot hl G b a1 a2 (a3 + x9) M10 e18) zy_X7_spot zs_X7_spot km_X7_48 rfl ⟨rfl, rfl⟩ ⟨rfl, rfl⟩ rfl rfl (Nat.le_of_ble_eq_true rfl) ⟨Nat.zero_le _, Nat.zero_le _⟩ dX7_punch_59 62 rfl [.int x18] rfl ?_
        refine r_istore X dX7_punch_62 64 rfl [(0, .ref (b + t0)), (1, .int a1), (2, .int a2), (3, .int a3), (4, .int a4), (5, .int x8), (6, .int x9), (7, .int x18)] (by decide) [1, 2, 3, 4, 5, 6, 7, 0] rfl ?_
        refine r_iload X 5 rfl dX7_punch_64 66 rfl ?_
        refine r_aload_n X 0 rfl dX7_punch_66 67 rfl ?_
        refine r_get (v := .ref (b + (t0 + 1))) X ht0 rfl zv_X7 zi_X7 rfl kf_X7_7 rfl rfl dX7_punch_67 70 rfl ?_
        refine r_iload X 7 rfl dX7_punch_70 72 rfl ?_
        obtain ⟨x19, e19, h⟩ := z_bd h
        refine r_iaload X (zk_7_0 ht0) (zn_7_0 ht0) e19 dX7_punch_72 73 rfl ?_
        obtain ⟨j21, hT21, h⟩ := z_bd h
        have hJ21 : GW Γ G b 0 0 M10 81 [(0, .ref (b + t0)), (1, .int a1), (2, .int a2), (3, .int a3), (4, .int a4), (6, .int x9), (7, .int x18)] [.int j21, .int x8] := by
          refine r_iadd X dX7_punch_81 82 rfl ?_
          refine r_istore X dX7_punch_82 84 rfl [(0, .ref (b + t0)), (1, .int a1), (2, .int a2), (3, .int a3), (4, .int a4), (5, .int (x8 + j21)), (6, .int x9), (7, .int x18)] (by decide) [1, 2, 3, 4, 5, 0, 6, 7] rfl ?_
          refine r_aload_n X 0 rfl dX7_punch_84 85 rfl ?_
          refine r_get (v := .ref (b + (t0 + 1))) X ht0 rfl zv_X7 zi_X7 rfl kf_X7_7 rfl rfl dX7_punch_85 88 rfl ?_
          refine r_iload X 7 rfl dX7_punch_88 90 rfl ?_
          refine r_iconst (v := 0) X rfl dX7_punch_90 91 rfl ?_
          obtain ⟨M22, e22, h⟩ := z_bd h
          refine r_iastore X (zk_7_0 ht0) (zn_7_0 ht0) e22 dX7_punch_91 92 rfl ?_
          refine r_iinc X dX7_punch_92 95 rfl [(0, .ref (b + t0)), (1, .int a1), (2, .int a2), (3, .int a3), (4, .int a4), (5, .int (x8 + j21)), (6, .int (x9 + 1))] (by decide) 6 rfl (x9 + 1) rfl [1, 2, 3, 4, 5, 6, 0] rfl ?_
          refine r_goto X dX7_punch_95 46 (by decide) ?_
          exact hP13 ((x8 + j21), (x9 + 1), M22) (Option.some.inj h).symm
        have h := hT21
        refine r_if_le X dX7_punch_73 80 (by decide) 76 rfl (fun c20 => ?_) (fun c20 => ?_)
        · have h := z_it c20 h
          refine r_iconst (v := 0) X rfl dX7_punch_80 81 rfl ?_
          refine r_sub [(0, .ref (b + t0)), (1, .int a1), (2, .int a2), (3, .int a3), (4, .int a4), (6, .int x9), (7, .int x18)] [0, 1, 2, 3, 4, 6, 7] rfl ?_
          cases h
          exact hJ21
        · have h := z_ie c20 h
          refine r_iconst (v := 1) X rfl dX7_punch_76 77 rfl ?_
          refine r_goto X dX7_punch_77 81 (by decide) ?_
          refine r_sub [(0, .ref (b + t0)), (1, .int a1), (2, .int a2), (3, .int a3), (4, .int a4), (6, .int x9), (7, .int x18)] [0, 1, 2, 3, 4, 6, 7] rfl ?_
          cases h
          exact hJ21
    · have h := z_it c7 h
      refine r_iconst (v := 0) X rfl dX7_punch_38 39 rfl ?_
      cases h
      exact r_iret X R rfl dX7_punch_39
  have h := hT3
  refine r_if_eq X dX7_punch_6 21 (by decide) 9 rfl (fun c2 => ?_) (fun c2 => ?_)
  · have h := z_it c2 h
    refine r_iconst (v := 0) X rfl dX7_punch_21 22 rfl ?_
    cases h
    exact hJ3
  · have h := z_ie c2 h
    refine r_iload_n X 2 rfl dX7_punch_9 10 rfl ?_
    refine r_iload_n X 3 rfl dX7_punch_10 11 rfl ?_
    obtain ⟨x23, e23, h⟩ := z_bd h
    refine r_callS (rest := [.ref (b + t0)]) X (tX7_isSpot hl G b a2 a3 M e23) zy_X7_isSpot zs_X7_isSpot km_X7_44 rfl ⟨rfl, rfl⟩ ⟨rfl, rfl⟩ rfl rfl (Nat.le_of_ble_eq_true rfl) ⟨Nat.zero_le _, Nat.zero_le _⟩ dX7_punch_11 14 rfl [.int x23, .ref (b + t0)] rfl ?_
    refine r_if_eq X dX7_punch_14 21 (by decide) 17 rfl (fun c24 => ?_) (fun c24 => ?_)
    · have h := z_it c24 h
      refine r_iconst (v := 0) X rfl dX7_punch_21 22 rfl ?_
      cases h
      exact hJ3
    · have h := z_ie c24 h
      refine r_iconst (v := 1) X rfl dX7_punch_17 18 rfl ?_
      refine r_goto X dX7_punch_18 22 (by decide) ?_
      cases h
      exact hJ3
set_option maxRecDepth 100000 in
set_option maxHeartbeats 1000000 in
theorem tX7_reflink {l : Launch} (hl : l.stackTraces = false) (G : zG) (b : Nat) (t0 : Nat) (ht0 : z_kd t0 = 7) (a1 : Int32) (a2 : Int32) (a3 : Int32) (a4 : Int32) (a5 : Int32) (a6 : Int32) (M : zM) {r9 : Int32} {M9 : zM} (h : fX7_reflink t0 a1 a2 a3 a4 a5 a6 M = some (r9, M9)) : z_MN l yX7_reflink cX7_reflink 11 (some .int) { frames := 3, cells := 0, slots := 0, locals := 63 } G b [.ref (b + t0), .int a1, .int a2, .int a3, .int a4, .int a5, .int a6] M (some (.int r9)) M9 := by
  refine z_met (own := RX7) hl (by decide) rfl rfl (fun Γ hΓ X R => ?_)
  subst hΓ
  show GW Γ G b 0 0 M 0 [(0, .ref (b + t0)), (1, .int a1), (2, .int a2), (3, .int a3), (4, .int a4), (5, .int a5), (6, .int a6)] []
  unfold fX7_reflink at h
  refine r_aload_n X 0 rfl dX7_reflink_0 1 rfl ?_
  refine r_iload_n X 1 rfl dX7_reflink_1 2 rfl ?_
  obtain ⟨x1, e1, h⟩ := z_bd h
  refine r_callV (rest := []) X (tX7_isSet hl G b t0 ht0 a1 M e1) zy_X7_isSet zw_X7_isSet km_X7_41 ht0 rfl zv_X7 rfl ⟨rfl, rfl⟩ ⟨rfl, rfl⟩ rfl rfl (Nat.le_of_ble_eq_true rfl) ⟨Nat.zero_le _, Nat.zero_le _⟩ dX7_reflink_2 5 rfl [.int x1] rfl ?_
  obtain ⟨j3, hT3, h⟩ := z_bd h
  have hJ3 : GW Γ G b 0 0 M 31 [(0, .ref (b + t0)), (1, .int a1), (2, .int a2), (3, .int a3), (4, .int a4), (5, .int a5), (6, .int a6)] [.int j3] := by
    refine r_istore X dX7_reflink_31 33 rfl [(0, .ref (b + t0)), (1, .int a1), (2, .int a2), (3, .int a3), (4, .int a4), (5, .int a5), (6, .int a6), (7, .int j3)] (by decide) [1, 2, 3, 4, 5, 6, 7, 0] rfl ?_
    refine r_aload_n X 0 rfl dX7_reflink_33 34 rfl ?_
    refine r_iload X 7 rfl dX7_reflink_34 36 rfl ?_
    refine r_iload X 6 rfl dX7_reflink_36 38 rfl ?_
    refine r_iconst (v := 1) X rfl dX7_reflink_38 39 rfl ?_
    refine r_bipush (v := 16) X rfl dX7_reflink_39 41 rfl ?_
    refine r_iload_n X 3 rfl dX7_reflink_41 42 rfl ?_
    refine r_isub X dX7_reflink_42 43 rfl ?_
    obtain ⟨x4, e4, h⟩ := z_bd h
    refine r_callS (rest := [.int j3, .ref (b + t0)]) X (tX7_in hl G b a6 1 (16 - a3) M e4) zy_X7_in zs_X7_in km_X7_26 rfl ⟨rfl, rfl⟩ ⟨rfl, rfl⟩ rfl rfl (Nat.le_of_ble_eq_true rfl) ⟨Nat.zero_le _, Nat.zero_le _⟩ dX7_reflink_43 46 rfl [.int x4, .int j3, .ref (b + t0)] rfl ?_
    obtain ⟨j6, hT6, h⟩ := z_bd h
    have hJ6 : GW Γ G b 0 0 M 68 [(0, .ref (b + t0)), (1, .int a1), (2, .int a2), (3, .int a3), (4, .int a4), (5, .int a5), (6, .int a6)] [.int j6, .int j3, .ref (b + t0)] := by
      obtain ⟨x7, M8, e8, h⟩ := z_bd2 h
      refine r_callV (rest := []) X (tX7_fits hl G b t0 ht0 j3 j6 M e8) zy_X7_fits zw_X7_fits km_X7_59 ht0 rfl zv_X7 rfl ⟨rfl, rfl⟩ ⟨rfl, rfl⟩ rfl rfl (Nat.le_of_ble_eq_true rfl) ⟨Nat.zero_le _, Nat.zero_le _⟩ dX7_reflink_68 71 rfl [.int x7] rfl ?_
      refine r_if_ne X dX7_reflink_71 76 (by decide) 74 rfl (fun c9 => ?_) (fun c9 => ?_)
      · have h := z_ie c9 h
        refine r_iconst (v := 0) X rfl dX7_reflink_76 77 rfl ?_
        refine r_istore X dX7_reflink_77 79 rfl [(0, .ref (b + t0)), (1, .int a1), (2, .int a2), (3, .int a3), (4, .int a4), (5, .int a5), (6, .int a6), (8, .int 0)] (by decide) [1, 2, 3, 4, 5, 6, 7, 0] rfl ?_
        obtain ⟨M12, hL13, h⟩ := z_bd h
        have hK13 : GW Γ G b 0 0 M12 113 [(0, .ref (b + t0)), (1, .int a1), (4, .int a4), (5, .int a5), (6, .int a6)] [] := by
          refine r_iconst (v := 0) X rfl dX7_reflink_113 114 rfl ?_
          refine r_istore X dX7_reflink_114 116 rfl [(0, .ref (b + t0)), (1, .int a1), (4, .int a4), (5, .int a5), (6, .int a6), (8, .int 0)] (by decide) [1, 2, 3, 4, 5, 0] rfl ?_
          refine r_iconst (v := 0) X rfl dX7_reflink_116 117 rfl ?_
          refine r_istore X dX7_reflink_117 119 rfl [(0, .ref (b + t0)), (1, .int a1), (4, .int a4), (5, .int a5), (6, .int a6), (8, .int 0), (9, .int 0)] (by decide) [1, 2, 3, 4, 5, 6, 0] rfl ?_
          obtain ⟨x17, M18, hL19, h⟩ := z_bd2 h
          have hK19 : GW Γ G b 0 0 M18 186 [(0, .ref (b + t0)), (8, .int x17)] [] := by
            refine r_aload_n X 0 rfl dX7_reflink_186 187 rfl ?_
            obtain ⟨x20, M21, e21, h⟩ := z_bd2 h
            refine r_callV (rest := []) X (tX7_counts hl G b t0 ht0 M18 e21) zy_X7_counts zw_X7_counts km_X7_56 ht0 rfl zv_X7 rfl ⟨rfl, rfl⟩ ⟨rfl, rfl⟩ rfl rfl (Nat.le_of_ble_eq_true rfl) ⟨Nat.zero_le _, Nat.zero_le _⟩ dX7_reflink_187 190 rfl [.int x20] rfl ?_
            refine r_if_ge X dX7_reflink_190 197 (by decide) 193 rfl (fun c22 => ?_) (fun c22 => ?_)
            · have h := z_it c22 h
              refine r_iload X 1 rfl dX7_reflink_197 199 rfl ?_
              cases h
              exact r_iret X R rfl dX7_reflink_199
            · have h := z_ie c22 h
              refine r_iconst (v := 0) X rfl dX7_reflink_193 194 rfl ?_
              refine r_goto X dX7_reflink_194 199 (by decide) ?_
              cases h
              exact r_iret X R rfl dX7_reflink_199
          clear h
          refine z_loopP (fun (s : (Int32 × Int32 × zM)) => GW Γ G b 0 0 s.2.2 119 [(0, .ref (b + t0)), (1, .int a1), (4, .int a4), (5, .int a5), (6, .int a6), (8, .int s.1), (9, .int s.2.1)] []) (fun s q19 hb hP19 hx19 => ?_) _ _ hL19
          obtain ⟨x14, x15, M16⟩ := s
          have h : fX7_reflink_L2 t0 a1 a4 a5 a6 x14 x15 M16 = some q19 := hb
          unfold fX7_reflink_L2 at h
          refine r_iload X 6 rfl dX7_reflink_119 121 rfl ?_
          refine r_iload X 4 rfl dX7_reflink_121 123 rfl ?_
          refine r_icmp_ge X dX7_reflink_123 186 (by decide) 126 rfl (fun c23 => ?_) (fun c23 => ?_)
          · have h := z_it c23 h
            refine r_sub [(0, .ref (b + t0)), (8, .int x14)] [0, 5] rfl ?_
            have e := hx19 _ (Option.some.inj h).symm
            cases e
            exact hK19
          · have h := z_ie c23 h
            refine r_iload_n X 1 rfl dX7_reflink_126 127 rfl ?_
            refine r_iload X 2 rfl dX7_reflink_127 129 rfl ?_
            refine r_iload X 3 rfl dX7_reflink_129 131 rfl ?_
            refine r_iload X 6 rfl dX7_reflink_131 133 rfl ?_
            refine r_iadd X dX7_reflink_133 134 rfl ?_
            obtain ⟨x24, e24, h⟩ := z_bd h
            refine r_callS (rest := []) X (tX7_spot hl G b a1 a4 (a5 + x15) M16 e24) zy_X7_spot zs_X7_spot km_X7_48 rfl ⟨rfl, rfl⟩ ⟨rfl, rfl⟩ rfl rfl (Nat.le_of_ble_eq_true rfl) ⟨Nat.zero_le _, Nat.zero_le _⟩ dX7_reflink_134 137 rfl [.int x24] rfl ?_
            refine r_istore X dX7_reflink_137 139 rfl [(0, .ref (b + t0)), (1, .int a1), (4, .int a4), (5, .int a5), (6, .int a6), (8, .int x14), (9, .int x15), (10, .int x24)] (by decide) [1, 2, 3, 4, 5, 6, 7, 0] rfl ?_
            refine r_iload X 5 rfl dX7_reflink_139 141 rfl ?_
            refine r_aload_n X 0 rfl dX7_reflink_141 142 rfl ?_
            refine r_get (v := .ref (b + (t0 + 1))) X ht0 rfl zv_X7 zi_X7 rfl kf_X7_7 rfl rfl dX7_reflink_142 145 rfl ?_
            refine r_iload X 7 rfl dX7_reflink_145 147 rfl ?_
            obtain ⟨x25, e25, h⟩ := z_bd h
            refine r_iaload X (zk_7_0 ht0) (zn_7_0 ht0) e25 dX7_reflink_147 148 rfl ?_
            refine r_aload_n X 0 rfl dX7_reflink_148 149 rfl ?_
            refine r_get (v := .ref (b + (t0 + 4))) X ht0 rfl zv_X7 zi_X7 rfl kf_X7_19 rfl rfl dX7_reflink_149 152 rfl ?_
            refine r_iload X 6 rfl dX7_reflink_152 154 rfl ?_
            obtain ⟨x26, e26, h⟩ := z_bd h
            refine r_iaload X (zk_7_3 ht0) (zn_7_3 ht0) e26 dX7_reflink_154 155 rfl ?_
            obtain ⟨j28, hT28, h⟩ := z_bd h
            have hJ28 : GW Γ G b 0 0 M16 163 [(0, .ref (b + t0)), (1, .int a1), (4, .int a4), (5, .int a5), (6, .int a6), (9, .int x15), (10, .int x24)] [.int j28, .int x14] := by
              refine r_iadd X dX7_reflink_163 164 rfl ?_
              refine r_istore X dX7_reflink_164 166 rfl [(0, .ref (b + t0)), (1, .int a1), (4, .int a4), (5, .int a5), (6, .int a6), (8, .int (x14 + j28)), (9, .int x15), (10, .int x24)] (by decide) [1, 2, 3, 4, 5, 0, 6, 7] rfl ?_
              refine r_aload_n X 0 rfl dX7_reflink_166 167 rfl ?_
              refine r_get (v := .ref (b + (t0 + 1))) X ht0 rfl zv_X7 zi_X7 rfl kf_X7_7 rfl rfl dX7_reflink_167 170 rfl ?_
              refine r_iload X 7 rfl dX7_reflink_170 172 rfl ?_
              refine r_aload_n X 0 rfl dX7_reflink_172 173 rfl ?_
              refine r_get (v := .ref (b + (t0 + 4))) X ht0 rfl zv_X7 zi_X7 rfl kf_X7_19 rfl rfl dX7_reflink_173 176 rfl ?_
              refine r_iload X 6 rfl dX7_reflink_176 178 rfl ?_
              obtain ⟨x29, e29, h⟩ := z_bd h
              refine r_iaload X (zk_7_3 ht0) (zn_7_3 ht0) e29 dX7_reflink_178 179 rfl ?_
              obtain ⟨M30, e30, h⟩ := z_bd h
              refine r_iastore X (zk_7_0 ht0) (zn_7_0 ht0) e30 dX7_reflink_179 180 rfl ?_
              refine r_iinc X dX7_reflink_180 183 rfl [(0, .ref (b + t0)), (1, .int a1), (4, .int a4), (5, .int a5), (6, .int a6), (8, .int (x14 + j28)), (9, .int (x15 + 1))] (by decide) 6 rfl (x15 + 1) rfl [1, 2, 3, 4, 5, 6, 0] rfl ?_
              refine r_goto X dX7_reflink_183 119 (by decide) ?_
              exact hP19 ((x14 + j28), (x15 + 1), M30) (Option.some.inj h).symm
            have h := hT28
            refine r_icmp_eq X dX7_reflink_155 162 (by decide) 158 rfl (fun c27 => ?_) (fun c27 => ?_)
            · have h := z_it c27 h
              refine r_iconst (v := 0) X rfl dX7_reflink_162 163 rfl ?_
              refine r_sub [(0, .ref (b + t0)), (1, .int a1), (4, .int a4), (5, .int a5), (6, .int a6), (9, .int x15), (10, .int x24)] [0, 1, 2, 3, 4, 6, 7] rfl ?_
              cases h
              exact hJ28
            · have h := z_ie c27 h
              refine r_iconst (v := 1) X rfl dX7_reflink_158 159 rfl ?_
              refine r_goto X dX7_reflink_159 163 (by decide) ?_
              refine r_sub [(0, .ref (b + t0)), (1, .int a1), (4, .int a4), (5, .int a5), (6, .int a6), (9, .int x15), (10, .int x24)] [0, 1, 2, 3, 4, 6, 7] rfl ?_
              cases h
              exact hJ28
        clear h
        refine z_loopP (fun (s : (Int32 × zM)) => GW Γ G b 0 0 s.2 79 [(0, .ref (b + t0)), (1, .int a1), (2, .int a2), (3, .int a3), (4, .int a4), (5, .int a5), (6, .int a6), (8, .int s.1)] []) (fun s q13 hb hP13 hx13 => ?_) _ _ hL13
        obtain ⟨x10, M11⟩ := s
        have h : fX7_reflink_L1 t0 a1 a2 a3 a6 x10 M11 = some q13 := hb
        unfold fX7_reflink_L1 at h
        refine r_iload X 7 rfl dX7_reflink_79 81 rfl ?_
        refine r_iload X 6 rfl dX7_reflink_81 83 rfl ?_
        refine r_icmp_ge X dX7_reflink_83 113 (by decide) 86 rfl (fun c31 => ?_) (fun c31 => ?_)
        · have h := z_it c31 h
          refine r_sub [(0, .ref (b + t0)), (1, .int a1), (4, .int a4), (5, .int a5), (6, .int a6)] [0, 1, 4, 5, 6] rfl ?_
          have e := hx13 _ (Option.some.inj h).symm
          cases e
          exact hK13
        · have h := z_ie c31 h
          refine r_aload_n X 0 rfl dX7_reflink_86 87 rfl ?_
          refine r_get (v := .ref (b + (t0 + 4))) X ht0 rfl zv_X7 zi_X7 rfl kf_X7_19 rfl rfl dX7_reflink_87 90 rfl ?_
          refine r_iload X 7 rfl dX7_reflink_90 92 rfl ?_
          refine r_aload_n X 0 rfl dX7_reflink_92 93 rfl ?_
          refine r_get (v := .ref (b + (t0 + 1))) X ht0 rfl zv_X7 zi_X7 rfl kf_X7_7 rfl rfl dX7_reflink_93 96 rfl ?_
          refine r_iload_n X 1 rfl dX7_reflink_96 97 rfl ?_
          refine r_iload_n X 2 rfl dX7_reflink_97 98 rfl ?_
          refine r_iload_n X 3 rfl dX7_reflink_98 99 rfl ?_
          refine r_iload X 7 rfl dX7_reflink_99 101 rfl ?_
          refine r_iadd X dX7_reflink_101 102 rfl ?_
          obtain ⟨x32, e32, h⟩ := z_bd h
          refine r_callS (rest := [.ref (b + (t0 + 1)), .int x10, .ref (b + (t0 + 4))]) X (tX7_spot hl G b a1 a2 (a3 + x10) M11 e32) zy_X7_spot zs_X7_spot km_X7_48 rfl ⟨rfl, rfl⟩ ⟨rfl, rfl⟩ rfl rfl (Nat.le_of_ble_eq_true rfl) ⟨Nat.zero_le _, Nat.zero_le _⟩ dX7_reflink_102 105 rfl [.int x32, .ref (b + (t0 + 1)), .int x10, .ref (b + (t0 + 4))] rfl ?_
          obtain ⟨x33, e33, h⟩ := z_bd h
          refine r_iaload X (zk_7_0 ht0) (zn_7_0 ht0) e33 dX7_reflink_105 106 rfl ?_
          obtain ⟨M34, e34, h⟩ := z_bd h
          refine r_iastore X (zk_7_3 ht0) (zn_7_3 ht0) e34 dX7_reflink_106 107 rfl ?_
          refine r_iinc X dX7_reflink_107 110 rfl [(0, .ref (b + t0)), (1, .int a1), (2, .int a2), (3, .int a3), (4, .int a4), (5, .int a5), (6, .int a6), (8, .int (x10 + 1))] (by decide) 7 rfl (x10 + 1) rfl [1, 2, 3, 4, 5, 6, 7, 0] rfl ?_
          refine r_goto X dX7_reflink_110 79 (by decide) ?_
          exact hP13 ((x10 + 1), M34) (Option.some.inj h).symm
      · have h := z_it c9 h
        refine r_iconst (v := 0) X rfl dX7_reflink_74 75 rfl ?_
        cases h
        exact r_iret X R rfl dX7_reflink_75
    have h := hT6
    refine r_if_eq X dX7_reflink_46 67 (by decide) 49 rfl (fun c5 => ?_) (fun c5 => ?_)
    · have h := z_it c5 h
      refine r_iconst (v := 0) X rfl dX7_reflink_67 68 rfl ?_
      refine r_sub [(0, .ref (b + t0)), (1, .int a1), (2, .int a2), (3, .int a3), (4, .int a4), (5, .int a5), (6, .int a6)] [0, 1, 2, 3, 4, 5, 6] rfl ?_
      cases h
      exact hJ6
    · have h := z_ie c5 h
      refine r_iload X 6 rfl dX7_reflink_49 51 rfl ?_
      refine r_iconst (v := 1) X rfl dX7_reflink_51 52 rfl ?_
      refine r_bipush (v := 16) X rfl dX7_reflink_52 54 rfl ?_
      refine r_iload X 5 rfl dX7_reflink_54 56 rfl ?_
      refine r_isub X dX7_reflink_56 57 rfl ?_
      obtain ⟨x35, e35, h⟩ := z_bd h
      refine r_callS (rest := [.int j3, .ref (b + t0)]) X (tX7_in hl G b a6 1 (16 - a5) M e35) zy_X7_in zs_X7_in km_X7_26 rfl ⟨rfl, rfl⟩ ⟨rfl, rfl⟩ rfl rfl (Nat.le_of_ble_eq_true rfl) ⟨Nat.zero_le _, Nat.zero_le _⟩ dX7_reflink_57 60 rfl [.int x35, .int j3, .ref (b + t0)] rfl ?_
      refine r_if_eq X dX7_reflink_60 67 (by decide) 63 rfl (fun c36 => ?_) (fun c36 => ?_)
      · have h := z_it c36 h
        refine r_iconst (v := 0) X rfl dX7_reflink_67 68 rfl ?_
        refine r_sub [(0, .ref (b + t0)), (1, .int a1), (2, .int a2), (3, .int a3), (4, .int a4), (5, .int a5), (6, .int a6)] [0, 1, 2, 3, 4, 5, 6] rfl ?_
        cases h
        exact hJ6
      · have h := z_ie c36 h
        refine r_iconst (v := 1) X rfl dX7_reflink_63 64 rfl ?_
        refine r_goto X dX7_reflink_64 68 (by decide) ?_
        refine r_sub [(0, .ref (b + t0)), (1, .int a1), (2, .int a2), (3, .int a3), (4, .int a4), (5, .int a5), (6, .int a6)] [0, 1, 2, 3, 4, 5, 6] rfl ?_
        cases h
        exact hJ6
  have h := hT3
  refine r_if_eq X dX7_reflink_5 30 (by decide) 8 rfl (fun c2 => ?_) (fun c2 => ?_)
  · have h := z_it c2 h
    refine r_iconst (v := 0) X rfl dX7_reflink_30 31 rfl ?_
    cases h
    exact hJ3
  · have h := z_ie c2 h
    refine r_iload_n X 2 rfl dX7_reflink_8 9 rfl ?_
    refine r_iload_n X 3 rfl dX7_reflink_9 10 rfl ?_
    obtain ⟨x37, e37, h⟩ := z_bd h
    refine r_callS (rest := []) X (tX7_isSpot hl G b a2 a3 M e37) zy_X7_isSpot zs_X7_isSpot km_X7_44 rfl ⟨rfl, rfl⟩ ⟨rfl, rfl⟩ rfl rfl (Nat.le_of_ble_eq_true rfl) ⟨Nat.zero_le _, Nat.zero_le _⟩ dX7_reflink_10 13 rfl [.int x37] rfl ?_
    refine r_if_eq X dX7_reflink_13 30 (by decide) 16 rfl (fun c38 => ?_) (fun c38 => ?_)
    · have h := z_it c38 h
      refine r_iconst (v := 0) X rfl dX7_reflink_30 31 rfl ?_
      cases h
      exact hJ3
    · have h := z_ie c38 h
      refine r_iload X 4 rfl dX7_reflink_16 18 rfl ?_
      refine r_iload X 5 rfl dX7_reflink_18 20 rfl ?_
      obtain ⟨x39, e39, h⟩ := z_bd h
      refine r_callS (rest := []) X (tX7_isSpot hl G b a4 a5 M e39) zy_X7_isSpot zs_X7_isSpot km_X7_44 rfl ⟨rfl, rfl⟩ ⟨rfl, rfl⟩ rfl rfl (Nat.le_of_ble_eq_true rfl) ⟨Nat.zero_le _, Nat.zero_le _⟩ dX7_reflink_20 23 rfl [.int x39] rfl ?_
      refine r_if_eq X dX7_reflink_23 30 (by decide) 26 rfl (fun c40 => ?_) (fun c40 => ?_)
      · have h := z_it c40 h
        refine r_iconst (v := 0) X rfl dX7_reflink_30 31 rfl ?_
        cases h
        exact hJ3
      · have h := z_ie c40 h
        refine r_iconst (v := 1) X rfl dX7_reflink_26 27 rfl ?_
        refine r_goto X dX7_reflink_27 31 (by decide) ?_
        cases h
        exact hJ3
set_option maxRecDepth 100000 in
set_option maxHeartbeats 1000000 in
theorem tX7_commit {l : Launch} (hl : l.stackTraces = false) (G : zG) (b : Nat) (t0 : Nat) (ht0 : z_kd t0 = 7) (M : zM) {r9 : Int32} {M9 : zM} (h : fX7_commit t0 M = some (r9, M9)) : z_MN l yX7_commit cX7_commit 1 (some .int) { frames := 4, cells := 0, slots := 0, locals := 95 } G b [.ref (b + t0)] M (some (.int r9)) M9 := by
  refine z_met (own := RX7) hl (by decide) rfl rfl (fun Γ hΓ X R => ?_)
  subst hΓ
  show GW Γ G b 0 0 M 0 [(0, .ref (b + t0))] []
  unfold fX7_commit at h
  refine r_aload_n X 0 rfl dX7_commit_0 1 rfl ?_
  refine r_iconst (v := 0) X rfl dX7_commit_1 2 rfl ?_
  obtain ⟨M1, e1, h⟩ := z_bd h
  refine r_put X ht0 rfl zv_X7 zi_X7 rfl kf_X7_22 rfl tyX7_ok nmX7 rfl rfl rfl rfl rfl rfl (Option.some.inj e1) dX7_commit_2 5 rfl ?_
  refine r_aload_n X 0 rfl dX7_commit_5 6 rfl ?_
  obtain ⟨x2, M3, e3, h⟩ := z_bd2 h
  refine r_callV (rest := []) X (tX7_commits hl G b t0 ht0 M1 e3) zy_X7_commits zw_X7_commits km_X7_80 ht0 rfl zv_X7 rfl ⟨rfl, rfl⟩ ⟨rfl, rfl⟩ rfl rfl (Nat.le_of_ble_eq_true rfl) ⟨Nat.zero_le _, Nat.zero_le _⟩ dX7_commit_6 9 rfl [.int x2] rfl ?_
  cases h
  exact r_iret X R rfl dX7_commit_9
set_option maxRecDepth 100000 in
set_option maxHeartbeats 1000000 in
theorem tX7_crash {l : Launch} (hl : l.stackTraces = false) (G : zG) (b : Nat) (t0 : Nat) (ht0 : z_kd t0 = 7) (M : zM) {r9 : Int32} {M9 : zM} (h : fX7_crash t0 M = some (r9, M9)) : z_MN l yX7_crash cX7_crash 2 (some .int) { frames := 0, cells := 0, slots := 0, locals := 0 } G b [.ref (b + t0)] M (some (.int r9)) M9 := by
  refine z_met (own := RX7) hl (by decide) rfl rfl (fun Γ hΓ X R => ?_)
  subst hΓ
  show GW Γ G b 0 0 M 0 [(0, .ref (b + t0))] []
  unfold fX7_crash at h
  refine r_aload_n X 0 rfl dX7_crash_0 1 rfl ?_
  refine r_iconst (v := 0) X rfl dX7_crash_1 2 rfl ?_
  obtain ⟨M1, e1, h⟩ := z_bd h
  refine r_put X ht0 rfl zv_X7 zi_X7 rfl kf_X7_22 rfl tyX7_ok nmX7 rfl rfl rfl rfl rfl rfl (Option.some.inj e1) dX7_crash_2 5 rfl ?_
  refine r_iconst (v := 0) X rfl dX7_crash_5 6 rfl ?_
  refine r_istore_n X dX7_crash_6 7 rfl [(0, .ref (b + t0)), (1, .int 0)] (by decide) [1, 0] rfl ?_
  obtain ⟨M4, hL5, h⟩ := z_bd h
  have hK5 : GW Γ G b 0 0 M4 32 [(0, .ref (b + t0))] [] := by
    refine r_aload_n X 0 rfl dX7_crash_32 33 rfl ?_
    refine r_get (v := .ref (b + (t0 + 1))) X ht0 rfl zv_X7 zi_X7 rfl kf_X7_7 rfl rfl dX7_crash_33 36 rfl ?_
    refine r_sipush (v := 3395) X rfl dX7_crash_36 39 rfl ?_
    obtain ⟨x6, e6, h⟩ := z_bd h
    refine r_iaload X (zk_7_0 ht0) (zn_7_0 ht0) e6 dX7_crash_39 40 rfl ?_
    cases h
    exact r_iret X R rfl dX7_crash_40
  clear h
  refine z_loopP (fun (s : (Int32 × zM)) => GW Γ G b 0 0 s.2 7 [(0, .ref (b + t0)), (1, .int s.1)] []) (fun s q5 hb hP5 hx5 => ?_) _ _ hL5
  obtain ⟨x2, M3⟩ := s
  have h : fX7_crash_L1 t0 x2 M3 = some q5 := hb
  unfold fX7_crash_L1 at h
  refine r_iload_n X 1 rfl dX7_crash_7 8 rfl ?_
  refine r_sipush (v := 3397) X rfl dX7_crash_8 11 rfl ?_
  refine r_icmp_ge X dX7_crash_11 32 (by decide) 14 rfl (fun c7 => ?_) (fun c7 => ?_)
  · have h := z_it c7 h
    refine r_sub [(0, .ref (b + t0))] [0] rfl ?_
    have e := hx5 _ (Option.some.inj h).symm
    cases e
    exact hK5
  · have h := z_ie c7 h
    refine r_aload_n X 0 rfl dX7_crash_14 15 rfl ?_
    refine r_get (v := .ref (b + (t0 + 1))) X ht0 rfl zv_X7 zi_X7 rfl kf_X7_7 rfl rfl dX7_crash_15 18 rfl ?_
    refine r_iload_n X 1 rfl dX7_crash_18 19 rfl ?_
    refine r_aload_n X 0 rfl dX7_crash_19 20 rfl ?_
    refine r_get (v := .ref (b + (t0 + 2))) X ht0 rfl zv_X7 zi_X7 rfl kf_X7_13 rfl rfl dX7_crash_20 23 rfl ?_
    refine r_iload_n X 1 rfl dX7_crash_23 24 rfl ?_
    obtain ⟨x8, e8, h⟩ := z_bd h
    refine r_iaload X (zk_7_1 ht0) (zn_7_1 ht0) e8 dX7_crash_24 25 rfl ?_
    obtain ⟨M9, e9, h⟩ := z_bd h
    refine r_iastore X (zk_7_0 ht0) (zn_7_0 ht0) e9 dX7_crash_25 26 rfl ?_
    refine r_iinc X dX7_crash_26 29 rfl [(0, .ref (b + t0)), (1, .int (x2 + 1))] (by decide) 1 rfl (x2 + 1) rfl [1, 0] rfl ?_
    refine r_goto X dX7_crash_29 7 (by decide) ?_
    exact hP5 ((x2 + 1), M9) (Option.some.inj h).symm
set_option maxRecDepth 100000 in
set_option maxHeartbeats 1000000 in
theorem tX7_transaction {l : Launch} (hl : l.stackTraces = false) (G : zG) (b : Nat) (t0 : Nat) (ht0 : z_kd t0 = 7) (M : zM) {r9 : Int32} {M9 : zM} (h : fX7_transaction t0 M = some (r9, M9)) : z_MN l yX7_transaction cX7_transaction 1 (some .int) { frames := 0, cells := 0, slots := 0, locals := 0 } G b [.ref (b + t0)] M (some (.int r9)) M9 := by
  refine z_met (own := RX7) hl (by decide) rfl rfl (fun Γ hΓ X R => ?_)
  subst hΓ
  show GW Γ G b 0 0 M 0 [(0, .ref (b + t0))] []
  unfold fX7_transaction at h
  refine r_aload_n X 0 rfl dX7_transaction_0 1 rfl ?_
  refine r_iconst (v := 0) X rfl dX7_transaction_1 2 rfl ?_
  obtain ⟨M1, e1, h⟩ := z_bd h
  refine r_put X ht0 rfl zv_X7 zi_X7 rfl kf_X7_22 rfl tyX7_ok nmX7 rfl rfl rfl rfl rfl rfl (Option.some.inj e1) dX7_transaction_2 5 rfl ?_
  refine r_aload_n X 0 rfl dX7_transaction_5 6 rfl ?_
  refine r_get (v := .ref (b + (t0 + 1))) X ht0 rfl zv_X7 zi_X7 rfl kf_X7_7 rfl rfl dX7_transaction_6 9 rfl ?_
  refine r_sipush (v := 3395) X rfl dX7_transaction_9 12 rfl ?_
  obtain ⟨x2, e2, h⟩ := z_bd h
  refine r_iaload X (zk_7_0 ht0) (zn_7_0 ht0) e2 dX7_transaction_12 13 rfl ?_
  cases h
  exact r_iret X R rfl dX7_transaction_13
set_option maxRecDepth 100000 in
set_option maxHeartbeats 1000000 in
theorem tX7_snapshot {l : Launch} (hl : l.stackTraces = false) (G : zG) (b : Nat) (t0 : Nat) (ht0 : z_kd t0 = 7) (a1 : Int32) (M : zM) {r9 : Int32} {M9 : zM} (h : fX7_snapshot t0 a1 M = some (r9, M9)) : z_MN l yX7_snapshot cX7_snapshot 5 (some .int) { frames := 4, cells := 0, slots := 0, locals := 95 } G b [.ref (b + t0), .int a1] M (some (.int r9)) M9 := by
  refine z_met (own := RX7) hl (by decide) rfl rfl (fun Γ hΓ X R => ?_)
  subst hΓ
  show GW Γ G b 0 0 M 0 [(0, .ref (b + t0)), (1, .int a1)] []
  unfold fX7_snapshot at h
  refine r_iconst (v := (-1)) X rfl dX7_snapshot_0 1 rfl ?_
  refine r_istore_n X dX7_snapshot_1 2 rfl [(0, .ref (b + t0)), (1, .int a1), (2, .int (-1))] (by decide) [1, 2, 0] rfl ?_
  refine r_bipush (v := 11) X rfl dX7_snapshot_2 4 rfl ?_
  refine r_istore_n X dX7_snapshot_4 5 rfl [(0, .ref (b + t0)), (1, .int a1), (2, .int (-1)), (3, .int 11)] (by decide) [1, 2, 3, 0] rfl ?_
  obtain ⟨x3, hL4, h⟩ := z_bd h
  have hK4 : GW Γ G b 0 0 M 34 [(0, .ref (b + t0)), (1, .int a1), (2, .int x3)] [] := by
    refine r_aload_n X 0 rfl dX7_snapshot_34 35 rfl ?_
    refine r_aload_n X 0 rfl dX7_snapshot_35 36 rfl ?_
    refine r_iload_n X 1 rfl dX7_snapshot_36 37 rfl ?_
    obtain ⟨x5, e5, h⟩ := z_bd h
    refine r_callV (rest := [.ref (b + t0)]) X (tX7_isSet hl G b t0 ht0 a1 M e5) zy_X7_isSet zw_X7_isSet km_X7_41 ht0 rfl zv_X7 rfl ⟨rfl, rfl⟩ ⟨rfl, rfl⟩ rfl rfl (Nat.le_of_ble_eq_true rfl) ⟨Nat.zero_le _, Nat.zero_le _⟩ dX7_snapshot_37 40 rfl [.int x5, .ref (b + t0)] rfl ?_
    refine r_iload_n X 2 rfl dX7_snapshot_40 41 rfl ?_
    obtain ⟨j7, hT7, h⟩ := z_bd h
    have hJ7 : GW Γ G b 0 0 M 49 [(0, .ref (b + t0)), (1, .int a1), (2, .int x3)] [.int j7, .int x5, .ref (b + t0)] := by
      obtain ⟨x8, M9, e9, h⟩ := z_bd2 h
      refine r_callV (rest := []) X (tX7_fits hl G b t0 ht0 x5 j7 M e9) zy_X7_fits zw_X7_fits km_X7_59 ht0 rfl zv_X7 rfl ⟨rfl, rfl⟩ ⟨rfl, rfl⟩ rfl rfl (Nat.le_of_ble_eq_true rfl) ⟨Nat.zero_le _, Nat.zero_le _⟩ dX7_snapshot_49 52 rfl [.int x8] rfl ?_
      refine r_if_ne X dX7_snapshot_52 57 (by decide) 55 rfl (fun c10 => ?_) (fun c10 => ?_)
      · have h := z_ie c10 h
        refine r_aload_n X 0 rfl dX7_snapshot_57 58 rfl ?_
        refine r_get (v := .ref (b + (t0 + 1))) X ht0 rfl zv_X7 zi_X7 rfl kf_X7_7 rfl rfl dX7_snapshot_58 61 rfl ?_
        refine r_sipush (v := 3394) X rfl dX7_snapshot_61 64 rfl ?_
        obtain ⟨x11, e11, h⟩ := z_bd h
        refine r_iaload X (zk_7_0 ht0) (zn_7_0 ht0) e11 dX7_snapshot_64 65 rfl ?_
        refine r_istore_n X dX7_snapshot_65 66 rfl [(0, .ref (b + t0)), (1, .int a1), (2, .int x3), (3, .int x11)] (by decide) [1, 2, 3, 0] rfl ?_
        refine r_aload_n X 0 rfl dX7_snapshot_66 67 rfl ?_
        refine r_get (v := .ref (b + (t0 + 1))) X ht0 rfl zv_X7 zi_X7 rfl kf_X7_7 rfl rfl dX7_snapshot_67 70 rfl ?_
        refine r_sipush (v := 3394) X rfl dX7_snapshot_70 73 rfl ?_
        refine r_dup2 X rfl rfl dX7_snapshot_73 74 rfl ?_
        obtain ⟨x12, e12, h⟩ := z_bd h
        refine r_iaload X (zk_7_0 ht0) (zn_7_0 ht0) e12 dX7_snapshot_74 75 rfl ?_
        refine r_iconst (v := 1) X rfl dX7_snapshot_75 76 rfl ?_
        refine r_iadd X dX7_snapshot_76 77 rfl ?_
        obtain ⟨M13, e13, h⟩ := z_bd h
        refine r_iastore X (zk_7_0 ht0) (zn_7_0 ht0) e13 dX7_snapshot_77 78 rfl ?_
        refine r_aload_n X 0 rfl dX7_snapshot_78 79 rfl ?_
        refine r_get (v := .ref (b + (t0 + 1))) X ht0 rfl zv_X7 zi_X7 rfl kf_X7_7 rfl rfl dX7_snapshot_79 82 rfl ?_
        refine r_sipush (v := 2394) X rfl dX7_snapshot_82 85 rfl ?_
        refine r_iload_n X 2 rfl dX7_snapshot_85 86 rfl ?_
        refine r_iadd X dX7_snapshot_86 87 rfl ?_
        refine r_iload_n X 3 rfl dX7_snapshot_87 88 rfl ?_
        refine r_iconst (v := 1) X rfl dX7_snapshot_88 89 rfl ?_
        refine r_iadd X dX7_snapshot_89 90 rfl ?_
        obtain ⟨M14, e14, h⟩ := z_bd h
        refine r_iastore X (zk_7_0 ht0) (zn_7_0 ht0) e14 dX7_snapshot_90 91 rfl ?_
        refine r_aload_n X 0 rfl dX7_snapshot_91 92 rfl ?_
        refine r_get (v := .ref (b + (t0 + 1))) X ht0 rfl zv_X7 zi_X7 rfl kf_X7_7 rfl rfl dX7_snapshot_92 95 rfl ?_
        refine r_sipush (v := 2406) X rfl dX7_snapshot_95 98 rfl ?_
        refine r_iload_n X 2 rfl dX7_snapshot_98 99 rfl ?_
        refine r_iadd X dX7_snapshot_99 100 rfl ?_
        refine r_aload_n X 0 rfl dX7_snapshot_100 101 rfl ?_
        refine r_get (v := .ref (b + (t0 + 1))) X ht0 rfl zv_X7 zi_X7 rfl kf_X7_7 rfl rfl dX7_snapshot_101 104 rfl ?_
        refine r_sipush (v := 3395) X rfl dX7_snapshot_104 107 rfl ?_
        obtain ⟨x15, e15, h⟩ := z_bd h
        refine r_iaload X (zk_7_0 ht0) (zn_7_0 ht0) e15 dX7_snapshot_107 108 rfl ?_
        obtain ⟨M16, e16, h⟩ := z_bd h
        refine r_iastore X (zk_7_0 ht0) (zn_7_0 ht0) e16 dX7_snapshot_108 109 rfl ?_
        refine r_aload_n X 0 rfl dX7_snapshot_109 110 rfl ?_
        refine r_get (v := .ref (b + (t0 + 1))) X ht0 rfl zv_X7 zi_X7 rfl kf_X7_7 rfl rfl dX7_snapshot_110 113 rfl ?_
        refine r_sipush (v := 2418) X rfl dX7_snapshot_113 116 rfl ?_
        refine r_iload_n X 2 rfl dX7_snapshot_116 117 rfl ?_
        refine r_iadd X dX7_snapshot_117 118 rfl ?_
        refine r_iload_n X 1 rfl dX7_snapshot_118 119 rfl ?_
        obtain ⟨M17, e17, h⟩ := z_bd h
        refine r_iastore X (zk_7_0 ht0) (zn_7_0 ht0) e17 dX7_snapshot_119 120 rfl ?_
        refine r_aload_n X 0 rfl dX7_snapshot_120 121 rfl ?_
        refine r_get (v := .ref (b + (t0 + 1))) X ht0 rfl zv_X7 zi_X7 rfl kf_X7_7 rfl rfl dX7_snapshot_121 124 rfl ?_
        refine r_sipush (v := 2316) X rfl dX7_snapshot_124 127 rfl ?_
        refine r_bipush (v := 12) X rfl dX7_snapshot_127 129 rfl ?_
        refine r_iload_n X 1 rfl dX7_snapshot_129 130 rfl ?_
        refine r_imul X dX7_snapshot_130 131 rfl ?_
        refine r_iadd X dX7_snapshot_131 132 rfl ?_
        refine r_aload_n X 0 rfl dX7_snapshot_132 133 rfl ?_
        refine r_get (v := .ref (b + (t0 + 1))) X ht0 rfl zv_X7 zi_X7 rfl kf_X7_7 rfl rfl dX7_snapshot_133 136 rfl ?_
        refine r_sipush (v := 2388) X rfl dX7_snapshot_136 139 rfl ?_
        refine r_iload_n X 1 rfl dX7_snapshot_139 140 rfl ?_
        refine r_iadd X dX7_snapshot_140 141 rfl ?_
        obtain ⟨x18, e18, h⟩ := z_bd h
        refine r_iaload X (zk_7_0 ht0) (zn_7_0 ht0) e18 dX7_snapshot_141 142 rfl ?_
        refine r_iadd X dX7_snapshot_142 143 rfl ?_
        refine r_iload_n X 2 rfl dX7_snapshot_143 144 rfl ?_
        obtain ⟨M19, e19, h⟩ := z_bd h
        refine r_iastore X (zk_7_0 ht0) (zn_7_0 ht0) e19 dX7_snapshot_144 145 rfl ?_
        refine r_aload_n X 0 rfl dX7_snapshot_145 146 rfl ?_
        refine r_get (v := .ref (b + (t0 + 1))) X ht0 rfl zv_X7 zi_X7 rfl kf_X7_7 rfl rfl dX7_snapshot_146 149 rfl ?_
        refine r_sipush (v := 2388) X rfl dX7_snapshot_149 152 rfl ?_
        refine r_iload_n X 1 rfl dX7_snapshot_152 153 rfl ?_
        refine r_iadd X dX7_snapshot_153 154 rfl ?_
        refine r_dup2 X rfl rfl dX7_snapshot_154 155 rfl ?_
        obtain ⟨x20, e20, h⟩ := z_bd h
        refine r_iaload X (zk_7_0 ht0) (zn_7_0 ht0) e20 dX7_snapshot_155 156 rfl ?_
        refine r_iconst (v := 1) X rfl dX7_snapshot_156 157 rfl ?_
        refine r_iadd X dX7_snapshot_157 158 rfl ?_
        obtain ⟨M21, e21, h⟩ := z_bd h
        refine r_iastore X (zk_7_0 ht0) (zn_7_0 ht0) e21 dX7_snapshot_158 159 rfl ?_
        refine r_iconst (v := 0) X rfl dX7_snapshot_159 160 rfl ?_
        refine r_istore X dX7_snapshot_160 162 rfl [(0, .ref (b + t0)), (1, .int a1), (2, .int x3), (3, .int x11), (4, .int 0)] (by decide) [1, 2, 3, 4, 0] rfl ?_
        obtain ⟨M24, hL25, h⟩ := z_bd h
        have hK25 : GW Γ G b 0 0 M24 208 [(0, .ref (b + t0)), (3, .int x11)] [] := by
          refine r_aload_n X 0 rfl dX7_snapshot_208 209 rfl ?_
          obtain ⟨x26, M27, e27, h⟩ := z_bd2 h
          refine r_callV (rest := []) X (tX7_counts hl G b t0 ht0 M24 e27) zy_X7_counts zw_X7_counts km_X7_56 ht0 rfl zv_X7 rfl ⟨rfl, rfl⟩ ⟨rfl, rfl⟩ rfl rfl (Nat.le_of_ble_eq_true rfl) ⟨Nat.zero_le _, Nat.zero_le _⟩ dX7_snapshot_209 212 rfl [.int x26] rfl ?_
          refine r_aload_n X 0 rfl dX7_snapshot_212 213 rfl ?_
          obtain ⟨x28, M29, e29, h⟩ := z_bd2 h
          refine r_callV (rest := [.int x26]) X (tX7_commits hl G b t0 ht0 M27 e29) zy_X7_commits zw_X7_commits km_X7_80 ht0 rfl zv_X7 rfl ⟨rfl, rfl⟩ ⟨rfl, rfl⟩ rfl rfl (Nat.le_of_ble_eq_true rfl) ⟨Nat.zero_le _, Nat.zero_le _⟩ dX7_snapshot_213 216 rfl [.int x28, .int x26] rfl ?_
          refine r_iadd X dX7_snapshot_216 217 rfl ?_
          refine r_if_ge X dX7_snapshot_217 224 (by decide) 220 rfl (fun c30 => ?_) (fun c30 => ?_)
          · have h := z_it c30 h
            refine r_iload_n X 1 rfl dX7_snapshot_224 225 rfl ?_
            cases h
            exact r_iret X R rfl dX7_snapshot_225
          · have h := z_ie c30 h
            refine r_iconst (v := 0) X rfl dX7_snapshot_220 221 rfl ?_
            refine r_goto X dX7_snapshot_221 225 (by decide) ?_
            cases h
            exact r_iret X R rfl dX7_snapshot_225
        clear h
        refine z_loopP (fun (s : (Int32 × zM)) => GW Γ G b 0 0 s.2 162 [(0, .ref (b + t0)), (1, .int a1), (2, .int x3), (3, .int x11), (4, .int s.1)] []) (fun s q25 hb hP25 hx25 => ?_) _ _ hL25
        obtain ⟨x22, M23⟩ := s
        have h : fX7_snapshot_L2 t0 a1 x3 x22 M23 = some q25 := hb
        unfold fX7_snapshot_L2 at h
        refine r_iload X 4 rfl dX7_snapshot_162 164 rfl ?_
        refine r_sipush (v := 128) X rfl dX7_snapshot_164 167 rfl ?_
        refine r_icmp_ge X dX7_snapshot_167 208 (by decide) 170 rfl (fun c31 => ?_) (fun c31 => ?_)
        · have h := z_it c31 h
          refine r_sub [(0, .ref (b + t0)), (3, .int x11)] [0, 3] rfl ?_
          have e := hx25 _ (Option.some.inj h).symm
          cases e
          exact hK25
        · have h := z_ie c31 h
          refine r_aload_n X 0 rfl dX7_snapshot_170 171 rfl ?_
          refine r_get (v := .ref (b + (t0 + 1))) X ht0 rfl zv_X7 zi_X7 rfl kf_X7_7 rfl rfl dX7_snapshot_171 174 rfl ?_
          refine r_sipush (v := 768) X rfl dX7_snapshot_174 177 rfl ?_
          refine r_sipush (v := 128) X rfl dX7_snapshot_177 180 rfl ?_
          refine r_iload_n X 2 rfl dX7_snapshot_180 181 rfl ?_
          refine r_imul X dX7_snapshot_181 182 rfl ?_
          refine r_iadd X dX7_snapshot_182 183 rfl ?_
          refine r_iload X 4 rfl dX7_snapshot_183 185 rfl ?_
          refine r_iadd X dX7_snapshot_185 186 rfl ?_
          refine r_aload_n X 0 rfl dX7_snapshot_186 187 rfl ?_
          refine r_get (v := .ref (b + (t0 + 1))) X ht0 rfl zv_X7 zi_X7 rfl kf_X7_7 rfl rfl dX7_snapshot_187 190 rfl ?_
          refine r_iconst (v := 0) X rfl dX7_snapshot_190 191 rfl ?_
          refine r_sipush (v := 128) X rfl dX7_snapshot_191 194 rfl ?_
          refine r_iload_n X 1 rfl dX7_snapshot_194 195 rfl ?_
          refine r_imul X dX7_snapshot_195 196 rfl ?_
          refine r_iadd X dX7_snapshot_196 197 rfl ?_
          refine r_iload X 4 rfl dX7_snapshot_197 199 rfl ?_
          refine r_iadd X dX7_snapshot_199 200 rfl ?_
          obtain ⟨x32, e32, h⟩ := z_bd h
          refine r_iaload X (zk_7_0 ht0) (zn_7_0 ht0) e32 dX7_snapshot_200 201 rfl ?_
          obtain ⟨M33, e33, h⟩ := z_bd h
          refine r_iastore X (zk_7_0 ht0) (zn_7_0 ht0) e33 dX7_snapshot_201 202 rfl ?_
          refine r_iinc X dX7_snapshot_202 205 rfl [(0, .ref (b + t0)), (1, .int a1), (2, .int x3), (3, .int x11), (4, .int (x22 + 1))] (by decide) 4 rfl (x22 + 1) rfl [1, 2, 3, 4, 0] rfl ?_
          refine r_goto X dX7_snapshot_205 162 (by decide) ?_
          exact hP25 ((x22 + 1), M33) (Option.some.inj h).symm
      · have h := z_it c10 h
        refine r_iconst (v := 0) X rfl dX7_snapshot_55 56 rfl ?_
        cases h
        exact r_iret X R rfl dX7_snapshot_56
    have h := hT7
    refine r_if_lt X dX7_snapshot_41 48 (by decide) 44 rfl (fun c6 => ?_) (fun c6 => ?_)
    · have h := z_it c6 h
      refine r_iconst (v := 0) X rfl dX7_snapshot_48 49 rfl ?_
      cases h
      exact hJ7
    · have h := z_ie c6 h
      refine r_iconst (v := 1) X rfl dX7_snapshot_44 45 rfl ?_
      refine r_goto X dX7_snapshot_45 49 (by decide) ?_
      cases h
      exact hJ7
  clear h
  refine z_loopP (fun (s : (Int32 × Int32)) => GW Γ G b 0 0 M 5 [(0, .ref (b + t0)), (1, .int a1), (2, .int s.1), (3, .int s.2)] []) (fun s q4 hb hP4 hx4 => ?_) _ _ hL4
  obtain ⟨x1, x2⟩ := s
  have h : fX7_snapshot_L1 t0 M x1 x2 = some q4 := hb
  unfold fX7_snapshot_L1 at h
  refine r_iload_n X 3 rfl dX7_snapshot_5 6 rfl ?_
  refine r_if_lt X dX7_snapshot_6 34 (by decide) 9 rfl (fun c34 => ?_) (fun c34 => ?_)
  · have h := z_it c34 h
    refine r_sub [(0, .ref (b + t0)), (1, .int a1), (2, .int x1)] [0, 1, 2] rfl ?_
    have e := hx4 _ (Option.some.inj h).symm
    cases e
    exact hK4
  · have h := z_ie c34 h
    refine r_aload_n X 0 rfl dX7_snapshot_9 10 rfl ?_
    refine r_get (v := .ref (b + (t0 + 1))) X ht0 rfl zv_X7 zi_X7 rfl kf_X7_7 rfl rfl dX7_snapshot_10 13 rfl ?_
    refine r_sipush (v := 2394) X rfl dX7_snapshot_13 16 rfl ?_
    refine r_iload_n X 3 rfl dX7_snapshot_16 17 rfl ?_
    refine r_iadd X dX7_snapshot_17 18 rfl ?_
    obtain ⟨x35, e35, h⟩ := z_bd h
    refine r_iaload X (zk_7_0 ht0) (zn_7_0 ht0) e35 dX7_snapshot_18 19 rfl ?_
    refine r_if_ne X dX7_snapshot_19 26 (by decide) 22 rfl (fun c36 => ?_) (fun c36 => ?_)
    · have h := z_ie c36 h
      refine r_iload_n X 2 rfl dX7_snapshot_26 27 rfl ?_
      refine r_istore_n X dX7_snapshot_27 28 rfl [(0, .ref (b + t0)), (1, .int a1), (2, .int x1), (3, .int x2)] (by decide) [1, 2, 0, 3] rfl ?_
      refine r_iinc X dX7_snapshot_28 31 rfl [(0, .ref (b + t0)), (1, .int a1), (2, .int x1), (3, .int (x2 + (-1)))] (by decide) 3 rfl (x2 + (-1)) rfl [1, 2, 3, 0] rfl ?_
      refine r_goto X dX7_snapshot_31 5 (by decide) ?_
      exact hP4 (x1, (x2 + (-1))) (Option.some.inj h).symm
    · have h := z_it c36 h
      refine r_iload_n X 3 rfl dX7_snapshot_22 23 rfl ?_
      refine r_goto X dX7_snapshot_23 27 (by decide) ?_
      refine r_istore_n X dX7_snapshot_27 28 rfl [(0, .ref (b + t0)), (1, .int a1), (2, .int x2), (3, .int x2)] (by decide) [1, 2, 0, 3] rfl ?_
      refine r_iinc X dX7_snapshot_28 31 rfl [(0, .ref (b + t0)), (1, .int a1), (2, .int x2), (3, .int (x2 + (-1)))] (by decide) 3 rfl (x2 + (-1)) rfl [1, 2, 3, 0] rfl ?_
      refine r_goto X dX7_snapshot_31 5 (by decide) ?_
      exact hP4 (x2, (x2 + (-1))) (Option.some.inj h).symm
set_option maxRecDepth 100000 in
set_option maxHeartbeats 1000000 in
theorem tX7_readSnapshot {l : Launch} (hl : l.stackTraces = false) (G : zG) (b : Nat) (t0 : Nat) (ht0 : z_kd t0 = 7) (a1 : Int32) (a2 : Int32) (a3 : Int32) (M : zM) {r9 : Int32} {M9 : zM} (h : fX7_readSnapshot t0 a1 a2 a3 M = some (r9, M9)) : z_MN l yX7_readSnapshot cX7_readSnapshot 4 (some .int) { frames := 4, cells := 0, slots := 0, locals := 86 } G b [.ref (b + t0), .int a1, .int a2, .int a3] M (some (.int r9)) M9 := by
  refine z_met (own := RX7) hl (by decide) rfl rfl (fun Γ hΓ X R => ?_)
  subst hΓ
  show GW Γ G b 0 0 M 0 [(0, .ref (b + t0)), (1, .int a1), (2, .int a2), (3, .int a3)] []
  unfold fX7_readSnapshot at h
  refine r_aload_n X 0 rfl dX7_readSnapshot_0 1 rfl ?_
  refine r_iload_n X 1 rfl dX7_readSnapshot_1 2 rfl ?_
  refine r_iload_n X 2 rfl dX7_readSnapshot_2 3 rfl ?_
  refine r_iload_n X 3 rfl dX7_readSnapshot_3 4 rfl ?_
  obtain ⟨x1, M2, e2, h⟩ := z_bd2 h
  refine r_callV (rest := []) X (tX7_isShot hl G b t0 ht0 a1 a2 a3 M e2) zy_X7_isShot zw_X7_isShot km_X7_86 ht0 rfl zv_X7 rfl ⟨rfl, rfl⟩ ⟨rfl, rfl⟩ rfl rfl (Nat.le_of_ble_eq_true rfl) ⟨Nat.zero_le _, Nat.zero_le _⟩ dX7_readSnapshot_4 7 rfl [.int x1] rfl ?_
  refine r_if_eq X dX7_readSnapshot_7 24 (by decide) 10 rfl (fun c3 => ?_) (fun c3 => ?_)
  · have h := z_it c3 h
    refine r_iconst (v := 0) X rfl dX7_readSnapshot_24 25 rfl ?_
    cases h
    exact r_iret X R rfl dX7_readSnapshot_25
  · have h := z_ie c3 h
    refine r_aload_n X 0 rfl dX7_readSnapshot_10 11 rfl ?_
    refine r_aload_n X 0 rfl dX7_readSnapshot_11 12 rfl ?_
    refine r_iload_n X 1 rfl dX7_readSnapshot_12 13 rfl ?_
    refine r_iload_n X 2 rfl dX7_readSnapshot_13 14 rfl ?_
    refine r_iload_n X 3 rfl dX7_readSnapshot_14 15 rfl ?_
    obtain ⟨x4, e4, h⟩ := z_bd h
    refine r_callV (rest := [.ref (b + t0)]) X (tX7_inShot hl G b t0 ht0 a1 a2 a3 M2 e4) zy_X7_inShot zw_X7_inShot km_X7_89 ht0 rfl zv_X7 rfl ⟨rfl, rfl⟩ ⟨rfl, rfl⟩ rfl rfl (Nat.le_of_ble_eq_true rfl) ⟨Nat.zero_le _, Nat.zero_le _⟩ dX7_readSnapshot_15 18 rfl [.int x4, .ref (b + t0)] rfl ?_
    obtain ⟨x5, e5, h⟩ := z_bd h
    refine r_callV (rest := []) X (tX7_valueAt hl G b t0 ht0 x4 M2 e5) zy_X7_valueAt zw_X7_valueAt km_X7_66 ht0 rfl zv_X7 rfl ⟨rfl, rfl⟩ ⟨rfl, rfl⟩ rfl rfl (Nat.le_of_ble_eq_true rfl) ⟨Nat.zero_le _, Nat.zero_le _⟩ dX7_readSnapshot_18 21 rfl [.int x5] rfl ?_
    refine r_goto X dX7_readSnapshot_21 25 (by decide) ?_
    cases h
    exact r_iret X R rfl dX7_readSnapshot_25
set_option maxRecDepth 100000 in
set_option maxHeartbeats 1000000 in
theorem tX7_blockInSnapshot {l : Launch} (hl : l.stackTraces = false) (G : zG) (b : Nat) (t0 : Nat) (ht0 : z_kd t0 = 7) (a1 : Int32) (a2 : Int32) (a3 : Int32) (M : zM) {r9 : Int32} {M9 : zM} (h : fX7_blockInSnapshot t0 a1 a2 a3 M = some (r9, M9)) : z_MN l yX7_blockInSnapshot cX7_blockInSnapshot 4 (some .int) { frames := 4, cells := 0, slots := 0, locals := 86 } G b [.ref (b + t0), .int a1, .int a2, .int a3] M (some (.int r9)) M9 := by
  refine z_met (own := RX7) hl (by decide) rfl rfl (fun Γ hΓ X R => ?_)
  subst hΓ
  show GW Γ G b 0 0 M 0 [(0, .ref (b + t0)), (1, .int a1), (2, .int a2), (3, .int a3)] []
  unfold fX7_blockInSnapshot at h
  refine r_aload_n X 0 rfl dX7_blockInSnapshot_0 1 rfl ?_
  refine r_iload_n X 1 rfl dX7_blockInSnapshot_1 2 rfl ?_
  refine r_iload_n X 2 rfl dX7_blockInSnapshot_2 3 rfl ?_
  refine r_iload_n X 3 rfl dX7_blockInSnapshot_3 4 rfl ?_
  obtain ⟨x1, M2, e2, h⟩ := z_bd2 h
  refine r_callV (rest := []) X (tX7_isShot hl G b t0 ht0 a1 a2 a3 M e2) zy_X7_isShot zw_X7_isShot km_X7_86 ht0 rfl zv_X7 rfl ⟨rfl, rfl⟩ ⟨rfl, rfl⟩ rfl rfl (Nat.le_of_ble_eq_true rfl) ⟨Nat.zero_le _, Nat.zero_le _⟩ dX7_blockInSnapshot_4 7 rfl [.int x1] rfl ?_
  refine r_if_eq X dX7_blockInSnapshot_7 27 (by decide) 10 rfl (fun c3 => ?_) (fun c3 => ?_)
  · have h := z_it c3 h
    refine r_iconst (v := 0) X rfl dX7_blockInSnapshot_27 28 rfl ?_
    cases h
    exact r_iret X R rfl dX7_blockInSnapshot_28
  · have h := z_ie c3 h
    refine r_aload_n X 0 rfl dX7_blockInSnapshot_10 11 rfl ?_
    refine r_get (v := .ref (b + (t0 + 1))) X ht0 rfl zv_X7 zi_X7 rfl kf_X7_7 rfl rfl dX7_blockInSnapshot_11 14 rfl ?_
    refine r_aload_n X 0 rfl dX7_blockInSnapshot_14 15 rfl ?_
    refine r_iload_n X 1 rfl dX7_blockInSnapshot_15 16 rfl ?_
    refine r_iload_n X 2 rfl dX7_blockInSnapshot_16 17 rfl ?_
    refine r_iload_n X 3 rfl dX7_blockInSnapshot_17 18 rfl ?_
    obtain ⟨x4, e4, h⟩ := z_bd h
    refine r_callV (rest := [.ref (b + (t0 + 1))]) X (tX7_inShot hl G b t0 ht0 a1 a2 a3 M2 e4) zy_X7_inShot zw_X7_inShot km_X7_89 ht0 rfl zv_X7 rfl ⟨rfl, rfl⟩ ⟨rfl, rfl⟩ rfl rfl (Nat.le_of_ble_eq_true rfl) ⟨Nat.zero_le _, Nat.zero_le _⟩ dX7_blockInSnapshot_18 21 rfl [.int x4, .ref (b + (t0 + 1))] rfl ?_
    obtain ⟨x5, e5, h⟩ := z_bd h
    refine r_iaload X (zk_7_0 ht0) (zn_7_0 ht0) e5 dX7_blockInSnapshot_21 22 rfl ?_
    refine r_iconst (v := 1) X rfl dX7_blockInSnapshot_22 23 rfl ?_
    refine r_isub X dX7_blockInSnapshot_23 24 rfl ?_
    refine r_goto X dX7_blockInSnapshot_24 28 (by decide) ?_
    cases h
    exact r_iret X R rfl dX7_blockInSnapshot_28
set_option maxRecDepth 100000 in
set_option maxHeartbeats 1000000 in
theorem tX7_transactionOf {l : Launch} (hl : l.stackTraces = false) (G : zG) (b : Nat) (t0 : Nat) (ht0 : z_kd t0 = 7) (a1 : Int32) (M : zM) {r9 : Int32} {M9 : zM} (h : fX7_transactionOf t0 a1 M = some (r9, M9)) : z_MN l yX7_transactionOf cX7_transactionOf 2 (some .int) { frames := 4, cells := 0, slots := 0, locals := 86 } G b [.ref (b + t0), .int a1] M (some (.int r9)) M9 := by
  refine z_met (own := RX7) hl (by decide) rfl rfl (fun Γ hΓ X R => ?_)
  subst hΓ
  show GW Γ G b 0 0 M 0 [(0, .ref (b + t0)), (1, .int a1)] []
  unfold fX7_transactionOf at h
  refine r_aload_n X 0 rfl dX7_transactionOf_0 1 rfl ?_
  refine r_iload_n X 1 rfl dX7_transactionOf_1 2 rfl ?_
  refine r_iconst (v := 0) X rfl dX7_transactionOf_2 3 rfl ?_
  refine r_iconst (v := 0) X rfl dX7_transactionOf_3 4 rfl ?_
  obtain ⟨x1, M2, e2, h⟩ := z_bd2 h
  refine r_callV (rest := []) X (tX7_isShot hl G b t0 ht0 a1 0 0 M e2) zy_X7_isShot zw_X7_isShot km_X7_86 ht0 rfl zv_X7 rfl ⟨rfl, rfl⟩ ⟨rfl, rfl⟩ rfl rfl (Nat.le_of_ble_eq_true rfl) ⟨Nat.zero_le _, Nat.zero_le _⟩ dX7_transactionOf_4 7 rfl [.int x1] rfl ?_
  refine r_if_eq X dX7_transactionOf_7 27 (by decide) 10 rfl (fun c3 => ?_) (fun c3 => ?_)
  · have h := z_it c3 h
    refine r_iconst (v := 0) X rfl dX7_transactionOf_27 28 rfl ?_
    cases h
    exact r_iret X R rfl dX7_transactionOf_28
  · have h := z_ie c3 h
    refine r_aload_n X 0 rfl dX7_transactionOf_10 11 rfl ?_
    refine r_get (v := .ref (b + (t0 + 1))) X ht0 rfl zv_X7 zi_X7 rfl kf_X7_7 rfl rfl dX7_transactionOf_11 14 rfl ?_
    refine r_sipush (v := 2406) X rfl dX7_transactionOf_14 17 rfl ?_
    refine r_aload_n X 0 rfl dX7_transactionOf_17 18 rfl ?_
    refine r_iload_n X 1 rfl dX7_transactionOf_18 19 rfl ?_
    obtain ⟨x4, e4, h⟩ := z_bd h
    refine r_callV (rest := [.int 2406, .ref (b + (t0 + 1))]) X (tX7_slotOf hl G b t0 ht0 a1 M2 e4) zy_X7_slotOf zw_X7_slotOf km_X7_83 ht0 rfl zv_X7 rfl ⟨rfl, rfl⟩ ⟨rfl, rfl⟩ rfl rfl (Nat.le_of_ble_eq_true rfl) ⟨Nat.zero_le _, Nat.zero_le _⟩ dX7_transactionOf_19 22 rfl [.int x4, .int 2406, .ref (b + (t0 + 1))] rfl ?_
    refine r_iadd X dX7_transactionOf_22 23 rfl ?_
    obtain ⟨x5, e5, h⟩ := z_bd h
    refine r_iaload X (zk_7_0 ht0) (zn_7_0 ht0) e5 dX7_transactionOf_23 24 rfl ?_
    refine r_goto X dX7_transactionOf_24 28 (by decide) ?_
    cases h
    exact r_iret X R rfl dX7_transactionOf_28
set_option maxRecDepth 100000 in
set_option maxHeartbeats 1000000 in
theorem tX7_datasetOf {l : Launch} (hl : l.stackTraces = false) (G : zG) (b : Nat) (t0 : Nat) (ht0 : z_kd t0 = 7) (a1 : Int32) (M : zM) {r9 : Int32} {M9 : zM} (h : fX7_datasetOf t0 a1 M = some (r9, M9)) : z_MN l yX7_datasetOf cX7_datasetOf 2 (some .int) { frames := 4, cells := 0, slots := 0, locals := 86 } G b [.ref (b + t0), .int a1] M (some (.int r9)) M9 := by
  refine z_met (own := RX7) hl (by decide) rfl rfl (fun Γ hΓ X R => ?_)
  subst hΓ
  show GW Γ G b 0 0 M 0 [(0, .ref (b + t0)), (1, .int a1)] []
  unfold fX7_datasetOf at h
  refine r_aload_n X 0 rfl dX7_datasetOf_0 1 rfl ?_
  refine r_iload_n X 1 rfl dX7_datasetOf_1 2 rfl ?_
  refine r_iconst (v := 0) X rfl dX7_datasetOf_2 3 rfl ?_
  refine r_iconst (v := 0) X rfl dX7_datasetOf_3 4 rfl ?_
  obtain ⟨x1, M2, e2, h⟩ := z_bd2 h
  refine r_callV (rest := []) X (tX7_isShot hl G b t0 ht0 a1 0 0 M e2) zy_X7_isShot zw_X7_isShot km_X7_86 ht0 rfl zv_X7 rfl ⟨rfl, rfl⟩ ⟨rfl, rfl⟩ rfl rfl (Nat.le_of_ble_eq_true rfl) ⟨Nat.zero_le _, Nat.zero_le _⟩ dX7_datasetOf_4 7 rfl [.int x1] rfl ?_
  refine r_if_eq X dX7_datasetOf_7 27 (by decide) 10 rfl (fun c3 => ?_) (fun c3 => ?_)
  · have h := z_it c3 h
    refine r_iconst (v := 0) X rfl dX7_datasetOf_27 28 rfl ?_
    cases h
    exact r_iret X R rfl dX7_datasetOf_28
  · have h := z_ie c3 h
    refine r_aload_n X 0 rfl dX7_datasetOf_10 11 rfl ?_
    refine r_get (v := .ref (b + (t0 + 1))) X ht0 rfl zv_X7 zi_X7 rfl kf_X7_7 rfl rfl dX7_datasetOf_11 14 rfl ?_
    refine r_sipush (v := 2418) X rfl dX7_datasetOf_14 17 rfl ?_
    refine r_aload_n X 0 rfl dX7_datasetOf_17 18 rfl ?_
    refine r_iload_n X 1 rfl dX7_datasetOf_18 19 rfl ?_
    obtain ⟨x4, e4, h⟩ := z_bd h
    refine r_callV (rest := [.int 2418, .ref (b + (t0 + 1))]) X (tX7_slotOf hl G b t0 ht0 a1 M2 e4) zy_X7_slotOf zw_X7_slotOf km_X7_83 ht0 rfl zv_X7 rfl ⟨rfl, rfl⟩ ⟨rfl, rfl⟩ rfl rfl (Nat.le_of_ble_eq_true rfl) ⟨Nat.zero_le _, Nat.zero_le _⟩ dX7_datasetOf_19 22 rfl [.int x4, .int 2418, .ref (b + (t0 + 1))] rfl ?_
    refine r_iadd X dX7_datasetOf_22 23 rfl ?_
    obtain ⟨x5, e5, h⟩ := z_bd h
    refine r_iaload X (zk_7_0 ht0) (zn_7_0 ht0) e5 dX7_datasetOf_23 24 rfl ?_
    refine r_goto X dX7_datasetOf_24 28 (by decide) ?_
    cases h
    exact r_iret X R rfl dX7_datasetOf_28
set_option maxRecDepth 100000 in
set_option maxHeartbeats 1000000 in
theorem tX7_snapshots {l : Launch} (hl : l.stackTraces = false) (G : zG) (b : Nat) (t0 : Nat) (ht0 : z_kd t0 = 7) (a1 : Int32) (M : zM) {r9 : Int32} {M9 : zM} (h : fX7_snapshots t0 a1 M = some (r9, M9)) : z_MN l yX7_snapshots cX7_snapshots 2 (some .int) { frames := 2, cells := 0, slots := 0, locals := 43 } G b [.ref (b + t0), .int a1] M (some (.int r9)) M9 := by
  refine z_met (own := RX7) hl (by decide) rfl rfl (fun Γ hΓ X R => ?_)
  subst hΓ
  show GW Γ G b 0 0 M 0 [(0, .ref (b + t0)), (1, .int a1)] []
  unfold fX7_snapshots at h
  refine r_aload_n X 0 rfl dX7_snapshots_0 1 rfl ?_
  refine r_aload_n X 0 rfl dX7_snapshots_1 2 rfl ?_
  refine r_iload_n X 1 rfl dX7_snapshots_2 3 rfl ?_
  obtain ⟨x1, e1, h⟩ := z_bd h
  refine r_callV (rest := [.ref (b + t0)]) X (tX7_isSet hl G b t0 ht0 a1 M e1) zy_X7_isSet zw_X7_isSet km_X7_41 ht0 rfl zv_X7 rfl ⟨rfl, rfl⟩ ⟨rfl, rfl⟩ rfl rfl (Nat.le_of_ble_eq_true rfl) ⟨Nat.zero_le _, Nat.zero_le _⟩ dX7_snapshots_3 6 rfl [.int x1, .ref (b + t0)] rfl ?_
  refine r_iconst (v := 1) X rfl dX7_snapshots_6 7 rfl ?_
  obtain ⟨x2, M3, e3, h⟩ := z_bd2 h
  refine r_callV (rest := []) X (tX7_fits hl G b t0 ht0 x1 1 M e3) zy_X7_fits zw_X7_fits km_X7_59 ht0 rfl zv_X7 rfl ⟨rfl, rfl⟩ ⟨rfl, rfl⟩ rfl rfl (Nat.le_of_ble_eq_true rfl) ⟨Nat.zero_le _, Nat.zero_le _⟩ dX7_snapshots_7 10 rfl [.int x2] rfl ?_
  refine r_if_eq X dX7_snapshots_10 26 (by decide) 13 rfl (fun c4 => ?_) (fun c4 => ?_)
  · have h := z_it c4 h
    refine r_iconst (v := 0) X rfl dX7_snapshots_26 27 rfl ?_
    cases h
    exact r_iret X R rfl dX7_snapshots_27
  · have h := z_ie c4 h
    refine r_aload_n X 0 rfl dX7_snapshots_13 14 rfl ?_
    refine r_get (v := .ref (b + (t0 + 1))) X ht0 rfl zv_X7 zi_X7 rfl kf_X7_7 rfl rfl dX7_snapshots_14 17 rfl ?_
    refine r_sipush (v := 2388) X rfl dX7_snapshots_17 20 rfl ?_
    refine r_iload_n X 1 rfl dX7_snapshots_20 21 rfl ?_
    refine r_iadd X dX7_snapshots_21 22 rfl ?_
    obtain ⟨x5, e5, h⟩ := z_bd h
    refine r_iaload X (zk_7_0 ht0) (zn_7_0 ht0) e5 dX7_snapshots_22 23 rfl ?_
    refine r_goto X dX7_snapshots_23 27 (by decide) ?_
    cases h
    exact r_iret X R rfl dX7_snapshots_27
set_option maxRecDepth 100000 in
set_option maxHeartbeats 1000000 in
theorem tX7_snapshotAt {l : Launch} (hl : l.stackTraces = false) (G : zG) (b : Nat) (t0 : Nat) (ht0 : z_kd t0 = 7) (a1 : Int32) (a2 : Int32) (M : zM) {r9 : Int32} {M9 : zM} (h : fX7_snapshotAt t0 a1 a2 M = some (r9, M9)) : z_MN l yX7_snapshotAt cX7_snapshotAt 4 (some .int) { frames := 2, cells := 0, slots := 0, locals := 43 } G b [.ref (b + t0), .int a1, .int a2] M (some (.int r9)) M9 := by
  refine z_met (own := RX7) hl (by decide) rfl rfl (fun Γ hΓ X R => ?_)
  subst hΓ
  show GW Γ G b 0 0 M 0 [(0, .ref (b + t0)), (1, .int a1), (2, .int a2)] []
  unfold fX7_snapshotAt at h
  refine r_aload_n X 0 rfl dX7_snapshotAt_0 1 rfl ?_
  refine r_aload_n X 0 rfl dX7_snapshotAt_1 2 rfl ?_
  refine r_iload_n X 1 rfl dX7_snapshotAt_2 3 rfl ?_
  obtain ⟨x1, e1, h⟩ := z_bd h
  refine r_callV (rest := [.ref (b + t0)]) X (tX7_isSet hl G b t0 ht0 a1 M e1) zy_X7_isSet zw_X7_isSet km_X7_41 ht0 rfl zv_X7 rfl ⟨rfl, rfl⟩ ⟨rfl, rfl⟩ rfl rfl (Nat.le_of_ble_eq_true rfl) ⟨Nat.zero_le _, Nat.zero_le _⟩ dX7_snapshotAt_3 6 rfl [.int x1, .ref (b + t0)] rfl ?_
  obtain ⟨j3, hT3, h⟩ := z_bd h
  have hJ3 : GW Γ G b 0 0 M 34 [(0, .ref (b + t0)), (1, .int a1), (2, .int a2)] [.int j3, .ref (b + t0)] := by
    refine r_iconst (v := 1) X rfl dX7_snapshotAt_34 35 rfl ?_
    obtain ⟨x4, M5, e5, h⟩ := z_bd2 h
    refine r_callV (rest := []) X (tX7_fits hl G b t0 ht0 j3 1 M e5) zy_X7_fits zw_X7_fits km_X7_59 ht0 rfl zv_X7 rfl ⟨rfl, rfl⟩ ⟨rfl, rfl⟩ rfl rfl (Nat.le_of_ble_eq_true rfl) ⟨Nat.zero_le _, Nat.zero_le _⟩ dX7_snapshotAt_35 38 rfl [.int x4] rfl ?_
    refine r_istore_n X dX7_snapshotAt_38 39 rfl [(0, .ref (b + t0)), (1, .int a1), (2, .int a2), (3, .int x4)] (by decide) [1, 2, 3, 0] rfl ?_
    refine r_iload_n X 3 rfl dX7_snapshotAt_39 40 rfl ?_
    refine r_if_eq X dX7_snapshotAt_40 72 (by decide) 43 rfl (fun c6 => ?_) (fun c6 => ?_)
    · have h := z_it c6 h
      refine r_iconst (v := 0) X rfl dX7_snapshotAt_72 73 rfl ?_
      cases h
      exact r_iret X R rfl dX7_snapshotAt_73
    · have h := z_ie c6 h
      refine r_aload_n X 0 rfl dX7_snapshotAt_43 44 rfl ?_
      refine r_get (v := .ref (b + (t0 + 1))) X ht0 rfl zv_X7 zi_X7 rfl kf_X7_7 rfl rfl dX7_snapshotAt_44 47 rfl ?_
      refine r_sipush (v := 2394) X rfl dX7_snapshotAt_47 50 rfl ?_
      refine r_aload_n X 0 rfl dX7_snapshotAt_50 51 rfl ?_
      refine r_get (v := .ref (b + (t0 + 1))) X ht0 rfl zv_X7 zi_X7 rfl kf_X7_7 rfl rfl dX7_snapshotAt_51 54 rfl ?_
      refine r_sipush (v := 2316) X rfl dX7_snapshotAt_54 57 rfl ?_
      refine r_bipush (v := 12) X rfl dX7_snapshotAt_57 59 rfl ?_
      refine r_iload_n X 1 rfl dX7_snapshotAt_59 60 rfl ?_
      refine r_imul X dX7_snapshotAt_60 61 rfl ?_
      refine r_iadd X dX7_snapshotAt_61 62 rfl ?_
      refine r_iload_n X 2 rfl dX7_snapshotAt_62 63 rfl ?_
      refine r_iadd X dX7_snapshotAt_63 64 rfl ?_
      obtain ⟨x7, e7, h⟩ := z_bd h
      refine r_iaload X (zk_7_0 ht0) (zn_7_0 ht0) e7 dX7_snapshotAt_64 65 rfl ?_
      refine r_iadd X dX7_snapshotAt_65 66 rfl ?_
      obtain ⟨x8, e8, h⟩ := z_bd h
      refine r_iaload X (zk_7_0 ht0) (zn_7_0 ht0) e8 dX7_snapshotAt_66 67 rfl ?_
      refine r_iconst (v := 1) X rfl dX7_snapshotAt_67 68 rfl ?_
      refine r_isub X dX7_snapshotAt_68 69 rfl ?_
      refine r_goto X dX7_snapshotAt_69 73 (by decide) ?_
      cases h
      exact r_iret X R rfl dX7_snapshotAt_73
  have h := hT3
  refine r_if_eq X dX7_snapshotAt_6 33 (by decide) 9 rfl (fun c2 => ?_) (fun c2 => ?_)
  · have h := z_it c2 h
    refine r_iconst (v := 0) X rfl dX7_snapshotAt_33 34 rfl ?_
    cases h
    exact hJ3
  · have h := z_ie c2 h
    refine r_iload_n X 2 rfl dX7_snapshotAt_9 10 rfl ?_
    refine r_iconst (v := 0) X rfl dX7_snapshotAt_10 11 rfl ?_
    refine r_aload_n X 0 rfl dX7_snapshotAt_11 12 rfl ?_
    refine r_get (v := .ref (b + (t0 + 1))) X ht0 rfl zv_X7 zi_X7 rfl kf_X7_7 rfl rfl dX7_snapshotAt_12 15 rfl ?_
    refine r_sipush (v := 2388) X rfl dX7_snapshotAt_15 18 rfl ?_
    refine r_iload_n X 1 rfl dX7_snapshotAt_18 19 rfl ?_
    refine r_iadd X dX7_snapshotAt_19 20 rfl ?_
    obtain ⟨x9, e9, h⟩ := z_bd h
    refine r_iaload X (zk_7_0 ht0) (zn_7_0 ht0) e9 dX7_snapshotAt_20 21 rfl ?_
    refine r_iconst (v := 1) X rfl dX7_snapshotAt_21 22 rfl ?_
    refine r_isub X dX7_snapshotAt_22 23 rfl ?_
    obtain ⟨x10, e10, h⟩ := z_bd h
    refine r_callS (rest := [.ref (b + t0)]) X (tX7_in hl G b a2 0 (x9 - 1) M e10) zy_X7_in zs_X7_in km_X7_26 rfl ⟨rfl, rfl⟩ ⟨rfl, rfl⟩ rfl rfl (Nat.le_of_ble_eq_true rfl) ⟨Nat.zero_le _, Nat.zero_le _⟩ dX7_snapshotAt_23 26 rfl [.int x10, .ref (b + t0)] rfl ?_
    refine r_if_eq X dX7_snapshotAt_26 33 (by decide) 29 rfl (fun c11 => ?_) (fun c11 => ?_)
    · have h := z_it c11 h
      refine r_iconst (v := 0) X rfl dX7_snapshotAt_33 34 rfl ?_
      cases h
      exact hJ3
    · have h := z_ie c11 h
      refine r_iconst (v := 1) X rfl dX7_snapshotAt_29 30 rfl ?_
      refine r_goto X dX7_snapshotAt_30 34 (by decide) ?_
      cases h
      exact hJ3
set_option maxRecDepth 100000 in
set_option maxHeartbeats 1000000 in
theorem tX7_destroySnapshot {l : Launch} (hl : l.stackTraces = false) (G : zG) (b : Nat) (t0 : Nat) (ht0 : z_kd t0 = 7) (a1 : Int32) (M : zM) {r9 : Int32} {M9 : zM} (h : fX7_destroySnapshot t0 a1 M = some (r9, M9)) : z_MN l yX7_destroySnapshot cX7_destroySnapshot 3 (some .int) { frames := 2, cells := 0, slots := 0, locals := 47 } G b [.ref (b + t0), .int a1] M (some (.int r9)) M9 := by
  refine z_met (own := RX7) hl (by decide) rfl rfl (fun Γ hΓ X R => ?_)
  subst hΓ
  show GW Γ G b 0 0 M 0 [(0, .ref (b + t0)), (1, .int a1)] []
  unfold fX7_destroySnapshot at h
  refine r_aload_n X 0 rfl dX7_destroySnapshot_0 1 rfl ?_
  refine r_iload_n X 1 rfl dX7_destroySnapshot_1 2 rfl ?_
  obtain ⟨x1, e1, h⟩ := z_bd h
  refine r_callV (rest := []) X (tX7_slotOf hl G b t0 ht0 a1 M e1) zy_X7_slotOf zw_X7_slotOf km_X7_83 ht0 rfl zv_X7 rfl ⟨rfl, rfl⟩ ⟨rfl, rfl⟩ rfl rfl (Nat.le_of_ble_eq_true rfl) ⟨Nat.zero_le _, Nat.zero_le _⟩ dX7_destroySnapshot_2 5 rfl [.int x1] rfl ?_
  refine r_istore_n X dX7_destroySnapshot_5 6 rfl [(0, .ref (b + t0)), (2, .int x1)] (by decide) [1, 0] rfl ?_
  refine r_aload_n X 0 rfl dX7_destroySnapshot_6 7 rfl ?_
  refine r_iload_n X 1 rfl dX7_destroySnapshot_7 8 rfl ?_
  obtain ⟨j3, hT3, h⟩ := z_bd h
  have hJ3 : GW Γ G b 0 0 M 16 [(0, .ref (b + t0)), (2, .int x1)] [.int j3, .ref (b + t0)] := by
    refine r_iload_n X 1 rfl dX7_destroySnapshot_16 17 rfl ?_
    obtain ⟨j5, hT5, h⟩ := z_bd h
    have hJ5 : GW Γ G b 0 0 M 33 [(0, .ref (b + t0)), (2, .int x1)] [.int j5, .int j3, .ref (b + t0)] := by
      obtain ⟨x6, M7, e7, h⟩ := z_bd2 h
      refine r_callV (rest := []) X (tX7_fits hl G b t0 ht0 j3 j5 M e7) zy_X7_fits zw_X7_fits km_X7_59 ht0 rfl zv_X7 rfl ⟨rfl, rfl⟩ ⟨rfl, rfl⟩ rfl rfl (Nat.le_of_ble_eq_true rfl) ⟨Nat.zero_le _, Nat.zero_le _⟩ dX7_destroySnapshot_33 36 rfl [.int x6] rfl ?_
      refine r_if_ne X dX7_destroySnapshot_36 41 (by decide) 39 rfl (fun c8 => ?_) (fun c8 => ?_)
      · have h := z_ie c8 h
        refine r_aload_n X 0 rfl dX7_destroySnapshot_41 42 rfl ?_
        refine r_iload_n X 1 rfl dX7_destroySnapshot_42 43 rfl ?_
        obtain ⟨M9, e9, h⟩ := z_bd h
        refine r_callV (rest := []) X (tX7_drops hl G b t0 ht0 x1 M7 e9) zy_X7_drops zw_X7_drops km_X7_98 ht0 rfl zv_X7 rfl ⟨rfl, rfl⟩ ⟨rfl, rfl⟩ rfl rfl (Nat.le_of_ble_eq_true rfl) ⟨Nat.zero_le _, Nat.zero_le _⟩ dX7_destroySnapshot_43 46 rfl [] rfl ?_
        refine r_aload_n X 0 rfl dX7_destroySnapshot_46 47 rfl ?_
        obtain ⟨x10, M11, e11, h⟩ := z_bd2 h
        refine r_callV (rest := []) X (tX7_counts hl G b t0 ht0 M9 e11) zy_X7_counts zw_X7_counts km_X7_56 ht0 rfl zv_X7 rfl ⟨rfl, rfl⟩ ⟨rfl, rfl⟩ rfl rfl (Nat.le_of_ble_eq_true rfl) ⟨Nat.zero_le _, Nat.zero_le _⟩ dX7_destroySnapshot_47 50 rfl [.int x10] rfl ?_
        cases h
        exact r_iret X R rfl dX7_destroySnapshot_50
      · have h := z_it c8 h
        refine r_iconst (v := 0) X rfl dX7_destroySnapshot_39 40 rfl ?_
        cases h
        exact r_iret X R rfl dX7_destroySnapshot_40
    have h := hT5
    refine r_if_lt X dX7_destroySnapshot_17 32 (by decide) 20 rfl (fun c4 => ?_) (fun c4 => ?_)
    · have h := z_it c4 h
      refine r_iconst (v := 0) X rfl dX7_destroySnapshot_32 33 rfl ?_
      cases h
      exact hJ5
    · have h := z_ie c4 h
      refine r_aload_n X 0 rfl dX7_destroySnapshot_20 21 rfl ?_
      refine r_iload_n X 1 rfl dX7_destroySnapshot_21 22 rfl ?_
      obtain ⟨x12, e12, h⟩ := z_bd h
      refine r_callV (rest := [.int j3, .ref (b + t0)]) X (tX7_isOrigin hl G b t0 ht0 x1 M e12) zy_X7_isOrigin zw_X7_isOrigin km_X7_95 ht0 rfl zv_X7 rfl ⟨rfl, rfl⟩ ⟨rfl, rfl⟩ rfl rfl (Nat.le_of_ble_eq_true rfl) ⟨Nat.zero_le _, Nat.zero_le _⟩ dX7_destroySnapshot_22 25 rfl [.int x12, .int j3, .ref (b + t0)] rfl ?_
      refine r_if_ne X dX7_destroySnapshot_25 32 (by decide) 28 rfl (fun c13 => ?_) (fun c13 => ?_)
      · have h := z_ie c13 h
        refine r_iconst (v := 0) X rfl dX7_destroySnapshot_32 33 rfl ?_
        cases h
        exact hJ5
      · have h := z_it c13 h
        refine r_iconst (v := 1) X rfl dX7_destroySnapshot_28 29 rfl ?_
        refine r_goto X dX7_destroySnapshot_29 33 (by decide) ?_
        cases h
        exact hJ5
  have h := hT3
  refine r_if_lt X dX7_destroySnapshot_8 15 (by decide) 11 rfl (fun c2 => ?_) (fun c2 => ?_)
  · have h := z_it c2 h
    refine r_iconst (v := 0) X rfl dX7_destroySnapshot_15 16 rfl ?_
    cases h
    exact hJ3
  · have h := z_ie c2 h
    refine r_iconst (v := 1) X rfl dX7_destroySnapshot_11 12 rfl ?_
    refine r_goto X dX7_destroySnapshot_12 16 (by decide) ?_
    cases h
    exact hJ3
set_option maxRecDepth 100000 in
set_option maxHeartbeats 1000000 in
theorem tX7_rollback {l : Launch} (hl : l.stackTraces = false) (G : zG) (b : Nat) (t0 : Nat) (ht0 : z_kd t0 = 7) (a1 : Int32) (a2 : Int32) (M : zM) {r9 : Int32} {M9 : zM} (h : fX7_rollback t0 a1 a2 M = some (r9, M9)) : z_MN l yX7_rollback cX7_rollback 7 (some .int) { frames := 2, cells := 0, slots := 0, locals := 47 } G b [.ref (b + t0), .int a1, .int a2] M (some (.int r9)) M9 := by
  refine z_met (own := RX7) hl (by decide) rfl rfl (fun Γ hΓ X R => ?_)
  subst hΓ
  show GW Γ G b 0 0 M 0 [(0, .ref (b + t0)), (1, .int a1), (2, .int a2)] []
  unfold fX7_rollback at h
  refine r_aload_n X 0 rfl dX7_rollback_0 1 rfl ?_
  refine r_iload_n X 2 rfl dX7_rollback_1 2 rfl ?_
  obtain ⟨x1, e1, h⟩ := z_bd h
  refine r_callV (rest := []) X (tX7_slotOf hl G b t0 ht0 a2 M e1) zy_X7_slotOf zw_X7_slotOf km_X7_83 ht0 rfl zv_X7 rfl ⟨rfl, rfl⟩ ⟨rfl, rfl⟩ rfl rfl (Nat.le_of_ble_eq_true rfl) ⟨Nat.zero_le _, Nat.zero_le _⟩ dX7_rollback_2 5 rfl [.int x1] rfl ?_
  refine r_istore_n X dX7_rollback_5 6 rfl [(0, .ref (b + t0)), (1, .int a1), (3, .int x1)] (by decide) [1, 2, 0] rfl ?_
  refine r_aload_n X 0 rfl dX7_rollback_6 7 rfl ?_
  refine r_aload_n X 0 rfl dX7_rollback_7 8 rfl ?_
  refine r_iload_n X 1 rfl dX7_rollback_8 9 rfl ?_
  obtain ⟨x2, e2, h⟩ := z_bd h
  refine r_callV (rest := [.ref (b + t0)]) X (tX7_isSet hl G b t0 ht0 a1 M e2) zy_X7_isSet zw_X7_isSet km_X7_41 ht0 rfl zv_X7 rfl ⟨rfl, rfl⟩ ⟨rfl, rfl⟩ rfl rfl (Nat.le_of_ble_eq_true rfl) ⟨Nat.zero_le _, Nat.zero_le _⟩ dX7_rollback_9 12 rfl [.int x2, .ref (b + t0)] rfl ?_
  obtain ⟨j4, hT4, h⟩ := z_bd h
  have hJ4 : GW Γ G b 0 0 M 24 [(0, .ref (b + t0)), (1, .int a1), (3, .int x1)] [.int j4, .ref (b + t0)] := by
    refine r_iload_n X 2 rfl dX7_rollback_24 25 rfl ?_
    obtain ⟨j6, hT6, h⟩ := z_bd h
    have hJ6 : GW Γ G b 0 0 M 47 [(0, .ref (b + t0)), (1, .int a1), (3, .int x1)] [.int j6, .int j4, .ref (b + t0)] := by
      obtain ⟨x7, M8, e8, h⟩ := z_bd2 h
      refine r_callV (rest := []) X (tX7_fits hl G b t0 ht0 j4 j6 M e8) zy_X7_fits zw_X7_fits km_X7_59 ht0 rfl zv_X7 rfl ⟨rfl, rfl⟩ ⟨rfl, rfl⟩ rfl rfl (Nat.le_of_ble_eq_true rfl) ⟨Nat.zero_le _, Nat.zero_le _⟩ dX7_rollback_47 50 rfl [.int x7] rfl ?_
      refine r_if_ne X dX7_rollback_50 55 (by decide) 53 rfl (fun c9 => ?_) (fun c9 => ?_)
      · have h := z_ie c9 h
        refine r_aload_n X 0 rfl dX7_rollback_55 56 rfl ?_
        refine r_iload_n X 2 rfl dX7_rollback_56 57 rfl ?_
        obtain ⟨x10, e10, h⟩ := z_bd h
        refine r_callV (rest := []) X (tX7_placeOf hl G b t0 ht0 x1 M8 e10) zy_X7_placeOf zw_X7_placeOf km_X7_92 ht0 rfl zv_X7 rfl ⟨rfl, rfl⟩ ⟨rfl, rfl⟩ rfl rfl (Nat.le_of_ble_eq_true rfl) ⟨Nat.zero_le _, Nat.zero_le _⟩ dX7_rollback_57 60 rfl [.int x10] rfl ?_
        refine r_istore X dX7_rollback_60 62 rfl [(0, .ref (b + t0)), (1, .int a1), (3, .int x1), (4, .int x10)] (by decide) [1, 2, 3, 0] rfl ?_
        refine r_aload_n X 0 rfl dX7_rollback_62 63 rfl ?_
        refine r_get (v := .ref (b + (t0 + 1))) X ht0 rfl zv_X7 zi_X7 rfl kf_X7_7 rfl rfl dX7_rollback_63 66 rfl ?_
        refine r_sipush (v := 2388) X rfl dX7_rollback_66 69 rfl ?_
        refine r_iload_n X 1 rfl dX7_rollback_69 70 rfl ?_
        refine r_iadd X dX7_rollback_70 71 rfl ?_
        obtain ⟨x11, e11, h⟩ := z_bd h
        refine r_iaload X (zk_7_0 ht0) (zn_7_0 ht0) e11 dX7_rollback_71 72 rfl ?_
        refine r_iconst (v := 1) X rfl dX7_rollback_72 73 rfl ?_
        refine r_isub X dX7_rollback_73 74 rfl ?_
        refine r_iload X 3 rfl dX7_rollback_74 76 rfl ?_
        refine r_isub X dX7_rollback_76 77 rfl ?_
        refine r_istore X dX7_rollback_77 79 rfl [(0, .ref (b + t0)), (1, .int a1), (3, .int x1), (4, .int x10), (5, .int ((x11 - 1) - x10))] (by decide) [1, 2, 3, 4, 0] rfl ?_
        refine r_iconst (v := 1) X rfl dX7_rollback_79 80 rfl ?_
        refine r_istore X dX7_rollback_80 82 rfl [(0, .ref (b + t0)), (1, .int a1), (3, .int x1), (4, .int x10), (5, .int ((x11 - 1) - x10)), (6, .int 1)] (by decide) [1, 2, 3, 4, 5, 0] rfl ?_
        obtain ⟨M14, hL15, h⟩ := z_bd h
        have hK15 : GW Γ G b 0 0 M14 133 [(0, .ref (b + t0)), (1, .int a1), (3, .int x1), (4, .int x10), (5, .int ((x11 - 1) - x10))] [] := by
          refine r_aload_n X 0 rfl dX7_rollback_133 134 rfl ?_
          refine r_get (v := .int (M14 t0 4)) X ht0 rfl zv_X7 zi_X7 rfl kf_X7_22 rfl rfl dX7_rollback_134 137 rfl ?_
          refine r_if_le X dX7_rollback_137 142 (by decide) 140 rfl (fun c16 => ?_) (fun c16 => ?_)
          · have h := z_it c16 h
            refine r_iconst (v := 0) X rfl dX7_rollback_142 143 rfl ?_
            refine r_istore X dX7_rollback_143 145 rfl [(0, .ref (b + t0)), (1, .int a1), (3, .int x1), (4, .int x10), (5, .int ((x11 - 1) - x10)), (6, .int 0)] (by decide) [1, 2, 3, 4, 5, 0] rfl ?_
            obtain ⟨M19, hL20, h⟩ := z_bd h
            have hK20 : GW Γ G b 0 0 M19 180 [(0, .ref (b + t0)), (1, .int a1), (3, .int x1), (5, .int ((x11 - 1) - x10))] [] := by
              refine r_iconst (v := 0) X rfl dX7_rollback_180 181 rfl ?_
              refine r_istore X dX7_rollback_181 183 rfl [(0, .ref (b + t0)), (1, .int a1), (3, .int x1), (5, .int ((x11 - 1) - x10)), (6, .int 0)] (by decide) [1, 2, 3, 4, 0] rfl ?_
              obtain ⟨M23, hL24, h⟩ := z_bd h
              have hK24 : GW Γ G b 0 0 M23 229 [(0, .ref (b + t0)), (5, .int ((x11 - 1) - x10))] [] := by
                refine r_aload_n X 0 rfl dX7_rollback_229 230 rfl ?_
                obtain ⟨x25, M26, e26, h⟩ := z_bd2 h
                refine r_callV (rest := []) X (tX7_counts hl G b t0 ht0 M23 e26) zy_X7_counts zw_X7_counts km_X7_56 ht0 rfl zv_X7 rfl ⟨rfl, rfl⟩ ⟨rfl, rfl⟩ rfl rfl (Nat.le_of_ble_eq_true rfl) ⟨Nat.zero_le _, Nat.zero_le _⟩ dX7_rollback_230 233 rfl [.int x25] rfl ?_
                refine r_if_ge X dX7_rollback_233 240 (by decide) 236 rfl (fun c27 => ?_) (fun c27 => ?_)
                · have h := z_it c27 h
                  refine r_iload X 1 rfl dX7_rollback_240 242 rfl ?_
                  cases h
                  exact r_iret X R rfl dX7_rollback_242
                · have h := z_ie c27 h
                  refine r_iconst (v := 0) X rfl dX7_rollback_236 237 rfl ?_
                  refine r_goto X dX7_rollback_237 242 (by decide) ?_
                  cases h
                  exact r_iret X R rfl dX7_rollback_242
              clear h
              refine z_loopP (fun (s : (Int32 × zM)) => GW Γ G b 0 0 s.2 183 [(0, .ref (b + t0)), (1, .int a1), (3, .int x1), (5, .int ((x11 - 1) - x10)), (6, .int s.1)] []) (fun s q24 hb hP24 hx24 => ?_) _ _ hL24
              obtain ⟨x21, M22⟩ := s
              have h : fX7_rollback_L3 t0 a1 x1 x21 M22 = some q24 := hb
              unfold fX7_rollback_L3 at h
              refine r_iload X 4 rfl dX7_rollback_183 185 rfl ?_
              refine r_sipush (v := 128) X rfl dX7_rollback_185 188 rfl ?_
              refine r_icmp_ge X dX7_rollback_188 229 (by decide) 191 rfl (fun c28 => ?_) (fun c28 => ?_)
              · have h := z_it c28 h
                refine r_sub [(0, .ref (b + t0)), (5, .int ((x11 - 1) - x10))] [0, 3] rfl ?_
                have e := hx24 _ (Option.some.inj h).symm
                cases e
                exact hK24
              · have h := z_ie c28 h
                refine r_aload_n X 0 rfl dX7_rollback_191 192 rfl ?_
                refine r_get (v := .ref (b + (t0 + 1))) X ht0 rfl zv_X7 zi_X7 rfl kf_X7_7 rfl rfl dX7_rollback_192 195 rfl ?_
                refine r_iconst (v := 0) X rfl dX7_rollback_195 196 rfl ?_
                refine r_sipush (v := 128) X rfl dX7_rollback_196 199 rfl ?_
                refine r_iload_n X 1 rfl dX7_rollback_199 200 rfl ?_
                refine r_imul X dX7_rollback_200 201 rfl ?_
                refine r_iadd X dX7_rollback_201 202 rfl ?_
                refine r_iload X 4 rfl dX7_rollback_202 204 rfl ?_
                refine r_iadd X dX7_rollback_204 205 rfl ?_
                refine r_aload_n X 0 rfl dX7_rollback_205 206 rfl ?_
                refine r_get (v := .ref (b + (t0 + 1))) X ht0 rfl zv_X7 zi_X7 rfl kf_X7_7 rfl rfl dX7_rollback_206 209 rfl ?_
                refine r_sipush (v := 768) X rfl dX7_rollback_209 212 rfl ?_
                refine r_sipush (v := 128) X rfl dX7_rollback_212 215 rfl ?_
                refine r_iload_n X 2 rfl dX7_rollback_215 216 rfl ?_
                refine r_imul X dX7_rollback_216 217 rfl ?_
                refine r_iadd X dX7_rollback_217 218 rfl ?_
                refine r_iload X 4 rfl dX7_rollback_218 220 rfl ?_
                refine r_iadd X dX7_rollback_220 221 rfl ?_
                obtain ⟨x29, e29, h⟩ := z_bd h
                refine r_iaload X (zk_7_0 ht0) (zn_7_0 ht0) e29 dX7_rollback_221 222 rfl ?_
                obtain ⟨M30, e30, h⟩ := z_bd h
                refine r_iastore X (zk_7_0 ht0) (zn_7_0 ht0) e30 dX7_rollback_222 223 rfl ?_
                refine r_iinc X dX7_rollback_223 226 rfl [(0, .ref (b + t0)), (1, .int a1), (3, .int x1), (5, .int ((x11 - 1) - x10)), (6, .int (x21 + 1))] (by decide) 4 rfl (x21 + 1) rfl [1, 2, 3, 4, 0] rfl ?_
                refine r_goto X dX7_rollback_226 183 (by decide) ?_
                exact hP24 ((x21 + 1), M30) (Option.some.inj h).symm
            clear h
            refine z_loopP (fun (s : (Int32 × zM)) => GW Γ G b 0 0 s.2 145 [(0, .ref (b + t0)), (1, .int a1), (3, .int x1), (4, .int x10), (5, .int ((x11 - 1) - x10)), (6, .int s.1)] []) (fun s q20 hb hP20 hx20 => ?_) _ _ hL20
            obtain ⟨x17, M18⟩ := s
            have h : fX7_rollback_L2 t0 a1 x10 x11 x17 M18 = some q20 := hb
            unfold fX7_rollback_L2 at h
            refine r_iload X 5 rfl dX7_rollback_145 147 rfl ?_
            refine r_iload X 4 rfl dX7_rollback_147 149 rfl ?_
            refine r_icmp_ge X dX7_rollback_149 180 (by decide) 152 rfl (fun c31 => ?_) (fun c31 => ?_)
            · have h := z_it c31 h
              refine r_sub [(0, .ref (b + t0)), (1, .int a1), (3, .int x1), (5, .int ((x11 - 1) - x10))] [0, 1, 2, 4] rfl ?_
              have e := hx20 _ (Option.some.inj h).symm
              cases e
              exact hK20
            · have h := z_ie c31 h
              refine r_aload_n X 0 rfl dX7_rollback_152 153 rfl ?_
              refine r_aload_n X 0 rfl dX7_rollback_153 154 rfl ?_
              refine r_get (v := .ref (b + (t0 + 1))) X ht0 rfl zv_X7 zi_X7 rfl kf_X7_7 rfl rfl dX7_rollback_154 157 rfl ?_
              refine r_sipush (v := 2316) X rfl dX7_rollback_157 160 rfl ?_
              refine r_bipush (v := 12) X rfl dX7_rollback_160 162 rfl ?_
              refine r_iload_n X 1 rfl dX7_rollback_162 163 rfl ?_
              refine r_imul X dX7_rollback_163 164 rfl ?_
              refine r_iadd X dX7_rollback_164 165 rfl ?_
              refine r_iload X 3 rfl dX7_rollback_165 167 rfl ?_
              refine r_iadd X dX7_rollback_167 168 rfl ?_
              refine r_iconst (v := 1) X rfl dX7_rollback_168 169 rfl ?_
              refine r_iadd X dX7_rollback_169 170 rfl ?_
              obtain ⟨x32, e32, h⟩ := z_bd h
              refine r_iaload X (zk_7_0 ht0) (zn_7_0 ht0) e32 dX7_rollback_170 171 rfl ?_
              obtain ⟨M33, e33, h⟩ := z_bd h
              refine r_callV (rest := []) X (tX7_drops hl G b t0 ht0 x32 M18 e33) zy_X7_drops zw_X7_drops km_X7_98 ht0 rfl zv_X7 rfl ⟨rfl, rfl⟩ ⟨rfl, rfl⟩ rfl rfl (Nat.le_of_ble_eq_true rfl) ⟨Nat.zero_le _, Nat.zero_le _⟩ dX7_rollback_171 174 rfl [] rfl ?_
              refine r_iinc X dX7_rollback_174 177 rfl [(0, .ref (b + t0)), (1, .int a1), (3, .int x1), (4, .int x10), (5, .int ((x11 - 1) - x10)), (6, .int (x17 + 1))] (by decide) 5 rfl (x17 + 1) rfl [1, 2, 3, 4, 5, 0] rfl ?_
              refine r_goto X dX7_rollback_177 145 (by decide) ?_
              exact hP20 ((x17 + 1), M33) (Option.some.inj h).symm
          · have h := z_ie c16 h
            refine r_iconst (v := 0) X rfl dX7_rollback_140 141 rfl ?_
            cases h
            exact r_iret X R rfl dX7_rollback_141
        clear h
        refine z_loopP (fun (s : (Int32 × zM)) => GW Γ G b 0 0 s.2 82 [(0, .ref (b + t0)), (1, .int a1), (3, .int x1), (4, .int x10), (5, .int ((x11 - 1) - x10)), (6, .int s.1)] []) (fun s q15 hb hP15 hx15 => ?_) _ _ hL15
        obtain ⟨x12, M13⟩ := s
        have h : fX7_rollback_L1 t0 a1 x10 x11 x12 M13 = some q15 := hb
        unfold fX7_rollback_L1 at h
        refine r_iload X 5 rfl dX7_rollback_82 84 rfl ?_
        refine r_iload X 4 rfl dX7_rollback_84 86 rfl ?_
        refine r_icmp_gt X dX7_rollback_86 133 (by decide) 89 rfl (fun c34 => ?_) (fun c34 => ?_)
        · have h := z_it c34 h
          refine r_sub [(0, .ref (b + t0)), (1, .int a1), (3, .int x1), (4, .int x10), (5, .int ((x11 - 1) - x10))] [0, 1, 2, 3, 4] rfl ?_
          have e := hx15 _ (Option.some.inj h).symm
          cases e
          exact hK15
        · have h := z_ie c34 h
          refine r_aload_n X 0 rfl dX7_rollback_89 90 rfl ?_
          refine r_aload_n X 0 rfl dX7_rollback_90 91 rfl ?_
          refine r_aload_n X 0 rfl dX7_rollback_91 92 rfl ?_
          refine r_get (v := .ref (b + (t0 + 1))) X ht0 rfl zv_X7 zi_X7 rfl kf_X7_7 rfl rfl dX7_rollback_92 95 rfl ?_
          refine r_sipush (v := 2316) X rfl dX7_rollback_95 98 rfl ?_
          refine r_bipush (v := 12) X rfl dX7_rollback_98 100 rfl ?_
          refine r_iload_n X 1 rfl dX7_rollback_100 101 rfl ?_
          refine r_imul X dX7_rollback_101 102 rfl ?_
          refine r_iadd X dX7_rollback_102 103 rfl ?_
          refine r_iload X 3 rfl dX7_rollback_103 105 rfl ?_
          refine r_iadd X dX7_rollback_105 106 rfl ?_
          refine r_iload X 5 rfl dX7_rollback_106 108 rfl ?_
          refine r_iadd X dX7_rollback_108 109 rfl ?_
          obtain ⟨x35, e35, h⟩ := z_bd h
          refine r_iaload X (zk_7_0 ht0) (zn_7_0 ht0) e35 dX7_rollback_109 110 rfl ?_
          obtain ⟨x36, e36, h⟩ := z_bd h
          refine r_callV (rest := [.ref (b + t0)]) X (tX7_isOrigin hl G b t0 ht0 x35 M13 e36) zy_X7_isOrigin zw_X7_isOrigin km_X7_95 ht0 rfl zv_X7 rfl ⟨rfl, rfl⟩ ⟨rfl, rfl⟩ rfl rfl (Nat.le_of_ble_eq_true rfl) ⟨Nat.zero_le _, Nat.zero_le _⟩ dX7_rollback_110 113 rfl [.int x36, .ref (b + t0)] rfl ?_
          refine r_if_eq X dX7_rollback_113 120 (by decide) 116 rfl (fun c37 => ?_) (fun c37 => ?_)
          · have h := z_it c37 h
            refine r_aload_n X 0 rfl dX7_rollback_120 121 rfl ?_
            refine r_get (v := .int (M13 t0 4)) X ht0 rfl zv_X7 zi_X7 rfl kf_X7_22 rfl rfl dX7_rollback_121 124 rfl ?_
            obtain ⟨M38, e38, h⟩ := z_bd h
            refine r_put X ht0 rfl zv_X7 zi_X7 rfl kf_X7_22 rfl tyX7_ok nmX7 rfl rfl rfl rfl rfl rfl (Option.some.inj e38) dX7_rollback_124 127 rfl ?_
            refine r_iinc X dX7_rollback_127 130 rfl [(0, .ref (b + t0)), (1, .int a1), (3, .int x1), (4, .int x10), (5, .int ((x11 - 1) - x10)), (6, .int (x12 + 1))] (by decide) 5 rfl (x12 + 1) rfl [1, 2, 3, 4, 5, 0] rfl ?_
            refine r_goto X dX7_rollback_130 82 (by decide) ?_
            exact hP15 ((x12 + 1), M38) (Option.some.inj h).symm
          · have h := z_ie c37 h
            refine r_iconst (v := 3) X rfl dX7_rollback_116 117 rfl ?_
            refine r_goto X dX7_rollback_117 124 (by decide) ?_
            obtain ⟨M39, e39, h⟩ := z_bd h
            refine r_put X ht0 rfl zv_X7 zi_X7 rfl kf_X7_22 rfl tyX7_ok nmX7 rfl rfl rfl rfl rfl rfl (Option.some.inj e39) dX7_rollback_124 127 rfl ?_
            refine r_iinc X dX7_rollback_127 130 rfl [(0, .ref (b + t0)), (1, .int a1), (3, .int x1), (4, .int x10), (5, .int ((x11 - 1) - x10)), (6, .int (x12 + 1))] (by decide) 5 rfl (x12 + 1) rfl [1, 2, 3, 4, 5, 0] rfl ?_
            refine r_goto X dX7_rollback_130 82 (by decide) ?_
            exact hP15 ((x12 + 1), M39) (Option.some.inj h).symm
      · have h := z_it c9 h
        refine r_iconst (v := 0) X rfl dX7_rollback_53 54 rfl ?_
        cases h
        exact r_iret X R rfl dX7_rollback_54
    have h := hT6
    refine r_if_lt X dX7_rollback_25 46 (by decide) 28 rfl (fun c5 => ?_) (fun c5 => ?_)
    · have h := z_it c5 h
      refine r_iconst (v := 0) X rfl dX7_rollback_46 47 rfl ?_
      cases h
      exact hJ6
    · have h := z_ie c5 h
      refine r_aload_n X 0 rfl dX7_rollback_28 29 rfl ?_
      refine r_get (v := .ref (b + (t0 + 1))) X ht0 rfl zv_X7 zi_X7 rfl kf_X7_7 rfl rfl dX7_rollback_29 32 rfl ?_
      refine r_sipush (v := 2418) X rfl dX7_rollback_32 35 rfl ?_
      refine r_iload_n X 2 rfl dX7_rollback_35 36 rfl ?_
      refine r_iadd X dX7_rollback_36 37 rfl ?_
      obtain ⟨x40, e40, h⟩ := z_bd h
      refine r_iaload X (zk_7_0 ht0) (zn_7_0 ht0) e40 dX7_rollback_37 38 rfl ?_
      refine r_iload_n X 1 rfl dX7_rollback_38 39 rfl ?_
      refine r_icmp_ne X dX7_rollback_39 46 (by decide) 42 rfl (fun c41 => ?_) (fun c41 => ?_)
      · have h := z_ie c41 h
        refine r_iconst (v := 0) X rfl dX7_rollback_46 47 rfl ?_
        cases h
        exact hJ6
      · have h := z_it c41 h
        refine r_iconst (v := 1) X rfl dX7_rollback_42 43 rfl ?_
        refine r_goto X dX7_rollback_43 47 (by decide) ?_
        cases h
        exact hJ6
  have h := hT4
  refine r_if_eq X dX7_rollback_12 23 (by decide) 15 rfl (fun c3 => ?_) (fun c3 => ?_)
  · have h := z_it c3 h
    refine r_iconst (v := 0) X rfl dX7_rollback_23 24 rfl ?_
    cases h
    exact hJ4
  · have h := z_ie c3 h
    refine r_iload_n X 2 rfl dX7_rollback_15 16 rfl ?_
    refine r_if_lt X dX7_rollback_16 23 (by decide) 19 rfl (fun c42 => ?_) (fun c42 => ?_)
    · have h := z_it c42 h
      refine r_iconst (v := 0) X rfl dX7_rollback_23 24 rfl ?_
      cases h
      exact hJ4
    · have h := z_ie c42 h
      refine r_iconst (v := 1) X rfl dX7_rollback_19 20 rfl ?_
      refine r_goto X dX7_rollback_20 24 (by decide) ?_
      cases h
      exact hJ4
set_option maxRecDepth 100000 in
set_option maxHeartbeats 1000000 in
theorem tX7_changed {l : Launch} (hl : l.stackTraces = false) (G : zG) (b : Nat) (t0 : Nat) (ht0 : z_kd t0 = 7) (a1 : Int32) (a2 : Int32) (M : zM) {r9 : Int32} {M9 : zM} (h : fX7_changed t0 a1 a2 M = some (r9, M9)) : z_MN l yX7_changed cX7_changed 7 (some .int) { frames := 2, cells := 0, slots := 0, locals := 43 } G b [.ref (b + t0), .int a1, .int a2] M (some (.int r9)) M9 := by
  refine z_met (own := RX7) hl (by decide) rfl rfl (fun Γ hΓ X R => ?_)
  subst hΓ
  show GW Γ G b 0 0 M 0 [(0, .ref (b + t0)), (1, .int a1), (2, .int a2)] []
  unfold fX7_changed at h
  refine r_aload_n X 0 rfl dX7_changed_0 1 rfl ?_
  refine r_iload_n X 1 rfl dX7_changed_1 2 rfl ?_
  obtain ⟨x1, e1, h⟩ := z_bd h
  refine r_callV (rest := []) X (tX7_slotOf hl G b t0 ht0 a1 M e1) zy_X7_slotOf zw_X7_slotOf km_X7_83 ht0 rfl zv_X7 rfl ⟨rfl, rfl⟩ ⟨rfl, rfl⟩ rfl rfl (Nat.le_of_ble_eq_true rfl) ⟨Nat.zero_le _, Nat.zero_le _⟩ dX7_changed_2 5 rfl [.int x1] rfl ?_
  refine r_istore_n X dX7_changed_5 6 rfl [(0, .ref (b + t0)), (2, .int a2), (3, .int x1)] (by decide) [1, 3, 0] rfl ?_
  refine r_iconst (v := 0) X rfl dX7_changed_6 7 rfl ?_
  refine r_istore X dX7_changed_7 9 rfl [(0, .ref (b + t0)), (2, .int a2), (3, .int x1), (4, .int 0)] (by decide) [1, 2, 3, 0] rfl ?_
  refine r_aload_n X 0 rfl dX7_changed_9 10 rfl ?_
  refine r_iload_n X 2 rfl dX7_changed_10 11 rfl ?_
  obtain ⟨j3, hT3, h⟩ := z_bd h
  have hJ3 : GW Γ G b 0 0 M 27 [(0, .ref (b + t0)), (2, .int a2), (3, .int x1), (4, .int 0)] [.int j3, .ref (b + t0)] := by
    refine r_iconst (v := 1) X rfl dX7_changed_27 28 rfl ?_
    obtain ⟨x4, M5, e5, h⟩ := z_bd2 h
    refine r_callV (rest := []) X (tX7_fits hl G b t0 ht0 j3 1 M e5) zy_X7_fits zw_X7_fits km_X7_59 ht0 rfl zv_X7 rfl ⟨rfl, rfl⟩ ⟨rfl, rfl⟩ rfl rfl (Nat.le_of_ble_eq_true rfl) ⟨Nat.zero_le _, Nat.zero_le _⟩ dX7_changed_28 31 rfl [.int x4] rfl ?_
    refine r_istore X dX7_changed_31 33 rfl [(0, .ref (b + t0)), (2, .int a2), (3, .int x1), (4, .int 0), (5, .int x4)] (by decide) [1, 2, 3, 4, 0] rfl ?_
    refine r_iconst (v := 0) X rfl dX7_changed_33 34 rfl ?_
    refine r_istore X dX7_changed_34 36 rfl [(0, .ref (b + t0)), (2, .int a2), (3, .int x1), (4, .int 0), (5, .int x4), (6, .int 0)] (by decide) [1, 2, 3, 4, 5, 0] rfl ?_
    obtain ⟨x8, hL9, h⟩ := z_bd h
    have hK9 : GW Γ G b 0 0 M5 100 [(4, .int x8)] [] := by
      refine r_iload X 0 rfl dX7_changed_100 102 rfl ?_
      cases h
      exact r_iret X R rfl dX7_changed_102
    clear h
    refine z_loopP (fun (s : (Int32 × Int32)) => GW Γ G b 0 0 M5 36 [(0, .ref (b + t0)), (2, .int a2), (3, .int x1), (4, .int s.1), (5, .int x4), (6, .int s.2)] []) (fun s q9 hb hP9 hx9 => ?_) _ _ hL9
    obtain ⟨x6, x7⟩ := s
    have h : fX7_changed_L1 t0 a2 x1 x4 M5 x6 x7 = some q9 := hb
    unfold fX7_changed_L1 at h
    refine r_iload X 5 rfl dX7_changed_36 38 rfl ?_
    refine r_sipush (v := 128) X rfl dX7_changed_38 41 rfl ?_
    refine r_icmp_ge X dX7_changed_41 100 (by decide) 44 rfl (fun c10 => ?_) (fun c10 => ?_)
    · have h := z_it c10 h
      refine r_sub [(4, .int x6)] [3] rfl ?_
      have e := hx9 _ (Option.some.inj h).symm
      cases e
      exact hK9
    · have h := z_ie c10 h
      refine r_iload X 4 rfl dX7_changed_44 46 rfl ?_
      refine r_if_eq X dX7_changed_46 100 (by decide) 49 rfl (fun c11 => ?_) (fun c11 => ?_)
      · have h := z_it c11 h
        refine r_sub [(4, .int x6)] [3] rfl ?_
        have e := hx9 _ (Option.some.inj h).symm
        cases e
        exact hK9
      · have h := z_ie c11 h
        refine r_iload X 3 rfl dX7_changed_49 51 rfl ?_
        refine r_aload_n X 0 rfl dX7_changed_51 52 rfl ?_
        refine r_get (v := .ref (b + (t0 + 1))) X ht0 rfl zv_X7 zi_X7 rfl kf_X7_7 rfl rfl dX7_changed_52 55 rfl ?_
        refine r_iconst (v := 0) X rfl dX7_changed_55 56 rfl ?_
        refine r_sipush (v := 128) X rfl dX7_changed_56 59 rfl ?_
        refine r_iload_n X 1 rfl dX7_changed_59 60 rfl ?_
        refine r_imul X dX7_changed_60 61 rfl ?_
        refine r_iadd X dX7_changed_61 62 rfl ?_
        refine r_iload X 5 rfl dX7_changed_62 64 rfl ?_
        refine r_iadd X dX7_changed_64 65 rfl ?_
        obtain ⟨x12, e12, h⟩ := z_bd h
        refine r_iaload X (zk_7_0 ht0) (zn_7_0 ht0) e12 dX7_changed_65 66 rfl ?_
        refine r_aload_n X 0 rfl dX7_changed_66 67 rfl ?_
        refine r_get (v := .ref (b + (t0 + 1))) X ht0 rfl zv_X7 zi_X7 rfl kf_X7_7 rfl rfl dX7_changed_67 70 rfl ?_
        refine r_sipush (v := 768) X rfl dX7_changed_70 73 rfl ?_
        refine r_sipush (v := 128) X rfl dX7_changed_73 76 rfl ?_
        refine r_iload_n X 2 rfl dX7_changed_76 77 rfl ?_
        refine r_imul X dX7_changed_77 78 rfl ?_
        refine r_iadd X dX7_changed_78 79 rfl ?_
        refine r_iload X 5 rfl dX7_changed_79 81 rfl ?_
        refine r_iadd X dX7_changed_81 82 rfl ?_
        obtain ⟨x13, e13, h⟩ := z_bd h
        refine r_iaload X (zk_7_0 ht0) (zn_7_0 ht0) e13 dX7_changed_82 83 rfl ?_
        refine r_icmp_eq X dX7_changed_83 90 (by decide) 86 rfl (fun c14 => ?_) (fun c14 => ?_)
        · have h := z_it c14 h
          refine r_iconst (v := 0) X rfl dX7_changed_90 91 rfl ?_
          refine r_iadd X dX7_changed_91 92 rfl ?_
          refine r_istore X dX7_changed_92 94 rfl [(0, .ref (b + t0)), (2, .int a2), (3, .int x1), (4, .int (x6 + 0)), (5, .int x4), (6, .int x7)] (by decide) [1, 2, 3, 0, 4, 5] rfl ?_
          refine r_iinc X dX7_changed_94 97 rfl [(0, .ref (b + t0)), (2, .int a2), (3, .int x1), (4, .int (x6 + 0)), (5, .int x4), (6, .int (x7 + 1))] (by decide) 5 rfl (x7 + 1) rfl [1, 2, 3, 4, 5, 0] rfl ?_
          refine r_goto X dX7_changed_97 36 (by decide) ?_
          exact hP9 ((x6 + 0), (x7 + 1)) (Option.some.inj h).symm
        · have h := z_ie c14 h
          refine r_iconst (v := 1) X rfl dX7_changed_86 87 rfl ?_
          refine r_goto X dX7_changed_87 91 (by decide) ?_
          refine r_iadd X dX7_changed_91 92 rfl ?_
          refine r_istore X dX7_changed_92 94 rfl [(0, .ref (b + t0)), (2, .int a2), (3, .int x1), (4, .int (x6 + 1)), (5, .int x4), (6, .int x7)] (by decide) [1, 2, 3, 0, 4, 5] rfl ?_
          refine r_iinc X dX7_changed_94 97 rfl [(0, .ref (b + t0)), (2, .int a2), (3, .int x1), (4, .int (x6 + 1)), (5, .int x4), (6, .int (x7 + 1))] (by decide) 5 rfl (x7 + 1) rfl [1, 2, 3, 4, 5, 0] rfl ?_
          refine r_goto X dX7_changed_97 36 (by decide) ?_
          exact hP9 ((x6 + 1), (x7 + 1)) (Option.some.inj h).symm
  have h := hT3
  refine r_if_lt X dX7_changed_11 26 (by decide) 14 rfl (fun c2 => ?_) (fun c2 => ?_)
  · have h := z_it c2 h
    refine r_iconst (v := 0) X rfl dX7_changed_26 27 rfl ?_
    cases h
    exact hJ3
  · have h := z_ie c2 h
    refine r_aload_n X 0 rfl dX7_changed_14 15 rfl ?_
    refine r_iload_n X 1 rfl dX7_changed_15 16 rfl ?_
    obtain ⟨x15, e15, h⟩ := z_bd h
    refine r_callV (rest := [.ref (b + t0)]) X (tX7_isSet hl G b t0 ht0 a2 M e15) zy_X7_isSet zw_X7_isSet km_X7_41 ht0 rfl zv_X7 rfl ⟨rfl, rfl⟩ ⟨rfl, rfl⟩ rfl rfl (Nat.le_of_ble_eq_true rfl) ⟨Nat.zero_le _, Nat.zero_le _⟩ dX7_changed_16 19 rfl [.int x15, .ref (b + t0)] rfl ?_
    refine r_if_eq X dX7_changed_19 26 (by decide) 22 rfl (fun c16 => ?_) (fun c16 => ?_)
    · have h := z_it c16 h
      refine r_iconst (v := 0) X rfl dX7_changed_26 27 rfl ?_
      cases h
      exact hJ3
    · have h := z_ie c16 h
      refine r_iconst (v := 1) X rfl dX7_changed_22 23 rfl ?_
      refine r_goto X dX7_changed_23 27 (by decide) ?_
      cases h
      exact hJ3
set_option maxRecDepth 100000 in
set_option maxHeartbeats 1000000 in
theorem tX7_datasets {l : Launch} (hl : l.stackTraces = false) (G : zG) (b : Nat) (t0 : Nat) (ht0 : z_kd t0 = 7) (M : zM) {r9 : Int32} {M9 : zM} (h : fX7_datasets t0 M = some (r9, M9)) : z_MN l yX7_datasets cX7_datasets 1 (some .int) { frames := 1, cells := 0, slots := 0, locals := 22 } G b [.ref (b + t0)] M (some (.int r9)) M9 := by
  refine z_met (own := RX7) hl (by decide) rfl rfl (fun Γ hΓ X R => ?_)
  subst hΓ
  show GW Γ G b 0 0 M 0 [(0, .ref (b + t0))] []
  unfold fX7_datasets at h
  refine r_aload_n X 0 rfl dX7_datasets_0 1 rfl ?_
  refine r_iconst (v := 0) X rfl dX7_datasets_1 2 rfl ?_
  obtain ⟨M1, e1, h⟩ := z_bd h
  refine r_put X ht0 rfl zv_X7 zi_X7 rfl kf_X7_22 rfl tyX7_ok nmX7 rfl rfl rfl rfl rfl rfl (Option.some.inj e1) dX7_datasets_2 5 rfl ?_
  refine r_aload_n X 0 rfl dX7_datasets_5 6 rfl ?_
  obtain ⟨x2, e2, h⟩ := z_bd h
  refine r_callV (rest := []) X (tX7_countSets hl G b t0 ht0 M1 e2) zy_X7_countSets zw_X7_countSets km_X7_102 ht0 rfl zv_X7 rfl ⟨rfl, rfl⟩ ⟨rfl, rfl⟩ rfl rfl (Nat.le_of_ble_eq_true rfl) ⟨Nat.zero_le _, Nat.zero_le _⟩ dX7_datasets_6 9 rfl [.int x2] rfl ?_
  cases h
  exact r_iret X R rfl dX7_datasets_9
set_option maxRecDepth 100000 in
set_option maxHeartbeats 1000000 in
theorem tX7_makeClone {l : Launch} (hl : l.stackTraces = false) (G : zG) (b : Nat) (t0 : Nat) (ht0 : z_kd t0 = 7) (a1 : Int32) (M : zM) {r9 : Int32} {M9 : zM} (h : fX7_makeClone t0 a1 M = some (r9, M9)) : z_MN l yX7_makeClone cX7_makeClone 5 (some .int) { frames := 1, cells := 0, slots := 0, locals := 23 } G b [.ref (b + t0), .int a1] M (some (.int r9)) M9 := by
  refine z_met (own := RX7) hl (by decide) rfl rfl (fun Γ hΓ X R => ?_)
  subst hΓ
  show GW Γ G b 0 0 M 0 [(0, .ref (b + t0)), (1, .int a1)] []
  unfold fX7_makeClone at h
  refine r_aload_n X 0 rfl dX7_makeClone_0 1 rfl ?_
  refine r_iload_n X 1 rfl dX7_makeClone_1 2 rfl ?_
  obtain ⟨x1, e1, h⟩ := z_bd h
  refine r_callV (rest := []) X (tX7_slotOf hl G b t0 ht0 a1 M e1) zy_X7_slotOf zw_X7_slotOf km_X7_83 ht0 rfl zv_X7 rfl ⟨rfl, rfl⟩ ⟨rfl, rfl⟩ rfl rfl (Nat.le_of_ble_eq_true rfl) ⟨Nat.zero_le _, Nat.zero_le _⟩ dX7_makeClone_2 5 rfl [.int x1] rfl ?_
  refine r_istore_n X dX7_makeClone_5 6 rfl [(0, .ref (b + t0)), (2, .int x1)] (by decide) [1, 0] rfl ?_
  refine r_aload_n X 0 rfl dX7_makeClone_6 7 rfl ?_
  refine r_iload_n X 1 rfl dX7_makeClone_7 8 rfl ?_
  obtain ⟨j3, hT3, h⟩ := z_bd h
  have hJ3 : GW Γ G b 0 0 M 16 [(0, .ref (b + t0)), (2, .int x1)] [.int j3, .ref (b + t0)] := by
    refine r_aload_n X 0 rfl dX7_makeClone_16 17 rfl ?_
    obtain ⟨x4, e4, h⟩ := z_bd h
    refine r_callV (rest := [.int j3, .ref (b + t0)]) X (tX7_countSets hl G b t0 ht0 M e4) zy_X7_countSets zw_X7_countSets km_X7_102 ht0 rfl zv_X7 rfl ⟨rfl, rfl⟩ ⟨rfl, rfl⟩ rfl rfl (Nat.le_of_ble_eq_true rfl) ⟨Nat.zero_le _, Nat.zero_le _⟩ dX7_makeClone_17 20 rfl [.int x4, .int j3, .ref (b + t0)] rfl ?_
    refine r_bipush (v := 6) X rfl dX7_makeClone_20 22 rfl ?_
    obtain ⟨j6, hT6, h⟩ := z_bd h
    have hJ6 : GW Γ G b 0 0 M 30 [(0, .ref (b + t0)), (2, .int x1)] [.int j6, .int j3, .ref (b + t0)] := by
      obtain ⟨x7, M8, e8, h⟩ := z_bd2 h
      refine r_callV (rest := []) X (tX7_fits hl G b t0 ht0 j3 j6 M e8) zy_X7_fits zw_X7_fits km_X7_59 ht0 rfl zv_X7 rfl ⟨rfl, rfl⟩ ⟨rfl, rfl⟩ rfl rfl (Nat.le_of_ble_eq_true rfl) ⟨Nat.zero_le _, Nat.zero_le _⟩ dX7_makeClone_30 33 rfl [.int x7] rfl ?_
      refine r_if_ne X dX7_makeClone_33 38 (by decide) 36 rfl (fun c9 => ?_) (fun c9 => ?_)
      · have h := z_ie c9 h
        refine r_iconst (v := 0) X rfl dX7_makeClone_38 39 rfl ?_
        refine r_istore_n X dX7_makeClone_39 40 rfl [(0, .ref (b + t0)), (2, .int x1), (3, .int 0)] (by decide) [1, 2, 0] rfl ?_
        obtain ⟨x11, hL12, h⟩ := z_bd h
        have hK12 : GW Γ G b 0 0 M8 60 [(0, .ref (b + t0)), (2, .int x1), (3, .int x11)] [] := by
          refine r_aload_n X 0 rfl dX7_makeClone_60 61 rfl ?_
          refine r_get (v := .ref (b + (t0 + 1))) X ht0 rfl zv_X7 zi_X7 rfl kf_X7_7 rfl rfl dX7_makeClone_61 64 rfl ?_
          refine r_sipush (v := 2304) X rfl dX7_makeClone_64 67 rfl ?_
          refine r_iload_n X 2 rfl dX7_makeClone_67 68 rfl ?_
          refine r_iadd X dX7_makeClone_68 69 rfl ?_
          refine r_iconst (v := 1) X rfl dX7_makeClone_69 70 rfl ?_
          obtain ⟨M13, e13, h⟩ := z_bd h
          refine r_iastore X (zk_7_0 ht0) (zn_7_0 ht0) e13 dX7_makeClone_70 71 rfl ?_
          refine r_aload_n X 0 rfl dX7_makeClone_71 72 rfl ?_
          refine r_get (v := .ref (b + (t0 + 1))) X ht0 rfl zv_X7 zi_X7 rfl kf_X7_7 rfl rfl dX7_makeClone_72 75 rfl ?_
          refine r_sipush (v := 2310) X rfl dX7_makeClone_75 78 rfl ?_
          refine r_iload_n X 2 rfl dX7_makeClone_78 79 rfl ?_
          refine r_iadd X dX7_makeClone_79 80 rfl ?_
          refine r_iload_n X 1 rfl dX7_makeClone_80 81 rfl ?_
          refine r_iconst (v := 1) X rfl dX7_makeClone_81 82 rfl ?_
          refine r_iadd X dX7_makeClone_82 83 rfl ?_
          obtain ⟨M14, e14, h⟩ := z_bd h
          refine r_iastore X (zk_7_0 ht0) (zn_7_0 ht0) e14 dX7_makeClone_83 84 rfl ?_
          refine r_aload_n X 0 rfl dX7_makeClone_84 85 rfl ?_
          refine r_get (v := .ref (b + (t0 + 1))) X ht0 rfl zv_X7 zi_X7 rfl kf_X7_7 rfl rfl dX7_makeClone_85 88 rfl ?_
          refine r_sipush (v := 2388) X rfl dX7_makeClone_88 91 rfl ?_
          refine r_iload_n X 2 rfl dX7_makeClone_91 92 rfl ?_
          refine r_iadd X dX7_makeClone_92 93 rfl ?_
          refine r_iconst (v := 0) X rfl dX7_makeClone_93 94 rfl ?_
          obtain ⟨M15, e15, h⟩ := z_bd h
          refine r_iastore X (zk_7_0 ht0) (zn_7_0 ht0) e15 dX7_makeClone_94 95 rfl ?_
          refine r_iconst (v := 0) X rfl dX7_makeClone_95 96 rfl ?_
          refine r_istore X dX7_makeClone_96 98 rfl [(0, .ref (b + t0)), (2, .int x1), (3, .int x11), (4, .int 0)] (by decide) [1, 2, 3, 0] rfl ?_
          obtain ⟨M18, hL19, h⟩ := z_bd h
          have hK19 : GW Γ G b 0 0 M18 144 [(0, .ref (b + t0)), (3, .int x11)] [] := by
            refine r_aload_n X 0 rfl dX7_makeClone_144 145 rfl ?_
            obtain ⟨x20, M21, e21, h⟩ := z_bd2 h
            refine r_callV (rest := []) X (tX7_counts hl G b t0 ht0 M18 e21) zy_X7_counts zw_X7_counts km_X7_56 ht0 rfl zv_X7 rfl ⟨rfl, rfl⟩ ⟨rfl, rfl⟩ rfl rfl (Nat.le_of_ble_eq_true rfl) ⟨Nat.zero_le _, Nat.zero_le _⟩ dX7_makeClone_145 148 rfl [.int x20] rfl ?_
            refine r_if_ge X dX7_makeClone_148 155 (by decide) 151 rfl (fun c22 => ?_) (fun c22 => ?_)
            · have h := z_it c22 h
              refine r_iload_n X 1 rfl dX7_makeClone_155 156 rfl ?_
              cases h
              exact r_iret X R rfl dX7_makeClone_156
            · have h := z_ie c22 h
              refine r_iconst (v := 0) X rfl dX7_makeClone_151 152 rfl ?_
              refine r_goto X dX7_makeClone_152 156 (by decide) ?_
              cases h
              exact r_iret X R rfl dX7_makeClone_156
          clear h
          refine z_loopP (fun (s : (Int32 × zM)) => GW Γ G b 0 0 s.2 98 [(0, .ref (b + t0)), (2, .int x1), (3, .int x11), (4, .int s.1)] []) (fun s q19 hb hP19 hx19 => ?_) _ _ hL19
          obtain ⟨x16, M17⟩ := s
          have h : fX7_makeClone_L2 t0 x1 x11 x16 M17 = some q19 := hb
          unfold fX7_makeClone_L2 at h
          refine r_iload X 3 rfl dX7_makeClone_98 100 rfl ?_
          refine r_sipush (v := 128) X rfl dX7_makeClone_100 103 rfl ?_
          refine r_icmp_ge X dX7_makeClone_103 144 (by decide) 106 rfl (fun c23 => ?_) (fun c23 => ?_)
          · have h := z_it c23 h
            refine r_sub [(0, .ref (b + t0)), (3, .int x11)] [0, 2] rfl ?_
            have e := hx19 _ (Option.some.inj h).symm
            cases e
            exact hK19
          · have h := z_ie c23 h
            refine r_aload_n X 0 rfl dX7_makeClone_106 107 rfl ?_
            refine r_get (v := .ref (b + (t0 + 1))) X ht0 rfl zv_X7 zi_X7 rfl kf_X7_7 rfl rfl dX7_makeClone_107 110 rfl ?_
            refine r_iconst (v := 0) X rfl dX7_makeClone_110 111 rfl ?_
            refine r_sipush (v := 128) X rfl dX7_makeClone_111 114 rfl ?_
            refine r_iload_n X 2 rfl dX7_makeClone_114 115 rfl ?_
            refine r_imul X dX7_makeClone_115 116 rfl ?_
            refine r_iadd X dX7_makeClone_116 117 rfl ?_
            refine r_iload X 3 rfl dX7_makeClone_117 119 rfl ?_
            refine r_iadd X dX7_makeClone_119 120 rfl ?_
            refine r_aload_n X 0 rfl dX7_makeClone_120 121 rfl ?_
            refine r_get (v := .ref (b + (t0 + 1))) X ht0 rfl zv_X7 zi_X7 rfl kf_X7_7 rfl rfl dX7_makeClone_121 124 rfl ?_
            refine r_sipush (v := 768) X rfl dX7_makeClone_124 127 rfl ?_
            refine r_sipush (v := 128) X rfl dX7_makeClone_127 130 rfl ?_
            refine r_iload_n X 1 rfl dX7_makeClone_130 131 rfl ?_
            refine r_imul X dX7_makeClone_131 132 rfl ?_
            refine r_iadd X dX7_makeClone_132 133 rfl ?_
            refine r_iload X 3 rfl dX7_makeClone_133 135 rfl ?_
            refine r_iadd X dX7_makeClone_135 136 rfl ?_
            obtain ⟨x24, e24, h⟩ := z_bd h
            refine r_iaload X (zk_7_0 ht0) (zn_7_0 ht0) e24 dX7_makeClone_136 137 rfl ?_
            obtain ⟨M25, e25, h⟩ := z_bd h
            refine r_iastore X (zk_7_0 ht0) (zn_7_0 ht0) e25 dX7_makeClone_137 138 rfl ?_
            refine r_iinc X dX7_makeClone_138 141 rfl [(0, .ref (b + t0)), (2, .int x1), (3, .int x11), (4, .int (x16 + 1))] (by decide) 3 rfl (x16 + 1) rfl [1, 2, 3, 0] rfl ?_
            refine r_goto X dX7_makeClone_141 98 (by decide) ?_
            exact hP19 ((x16 + 1), M25) (Option.some.inj h).symm
        clear h
        refine z_loopP (fun (s : Int32) => GW Γ G b 0 0 M8 40 [(0, .ref (b + t0)), (2, .int x1), (3, .int s)] []) (fun s q12 hb hP12 hx12 => ?_) _ _ hL12
        obtain ⟨x10, rfl⟩ : ∃ y, y = s := ⟨s, rfl⟩
        have h : fX7_makeClone_L1 t0 M8 x10 = some q12 := hb
        unfold fX7_makeClone_L1 at h
        refine r_aload_n X 0 rfl dX7_makeClone_40 41 rfl ?_
        refine r_get (v := .ref (b + (t0 + 1))) X ht0 rfl zv_X7 zi_X7 rfl kf_X7_7 rfl rfl dX7_makeClone_41 44 rfl ?_
        refine r_sipush (v := 2304) X rfl dX7_makeClone_44 47 rfl ?_
        refine r_iload_n X 2 rfl dX7_makeClone_47 48 rfl ?_
        refine r_iadd X dX7_makeClone_48 49 rfl ?_
        obtain ⟨x26, e26, h⟩ := z_bd h
        refine r_iaload X (zk_7_0 ht0) (zn_7_0 ht0) e26 dX7_makeClone_49 50 rfl ?_
        refine r_iconst (v := 1) X rfl dX7_makeClone_50 51 rfl ?_
        refine r_icmp_ne X dX7_makeClone_51 60 (by decide) 54 rfl (fun c27 => ?_) (fun c27 => ?_)
        · have h := z_ie c27 h
          have e := hx12 _ (Option.some.inj h).symm
          cases e
          exact hK12
        · have h := z_it c27 h
          refine r_iinc X dX7_makeClone_54 57 rfl [(0, .ref (b + t0)), (2, .int x1), (3, .int (x10 + 1))] (by decide) 2 rfl (x10 + 1) rfl [1, 2, 0] rfl ?_
          refine r_goto X dX7_makeClone_57 40 (by decide) ?_
          exact hP12 (x10 + 1) (Option.some.inj h).symm
      · have h := z_it c9 h
        refine r_iconst (v := 0) X rfl dX7_makeClone_36 37 rfl ?_
        cases h
        exact r_iret X R rfl dX7_makeClone_37
    have h := hT6
    refine r_icmp_ge X dX7_makeClone_22 29 (by decide) 25 rfl (fun c5 => ?_) (fun c5 => ?_)
    · have h := z_it c5 h
      refine r_iconst (v := 0) X rfl dX7_makeClone_29 30 rfl ?_
      cases h
      exact hJ6
    · have h := z_ie c5 h
      refine r_iconst (v := 1) X rfl dX7_makeClone_25 26 rfl ?_
      refine r_goto X dX7_makeClone_26 30 (by decide) ?_
      cases h
      exact hJ6
  have h := hT3
  refine r_if_lt X dX7_makeClone_8 15 (by decide) 11 rfl (fun c2 => ?_) (fun c2 => ?_)
  · have h := z_it c2 h
    refine r_iconst (v := 0) X rfl dX7_makeClone_15 16 rfl ?_
    cases h
    exact hJ3
  · have h := z_ie c2 h
    refine r_iconst (v := 1) X rfl dX7_makeClone_11 12 rfl ?_
    refine r_goto X dX7_makeClone_12 16 (by decide) ?_
    cases h
    exact hJ3
set_option maxRecDepth 100000 in
set_option maxHeartbeats 1000000 in
theorem tX7_origin {l : Launch} (hl : l.stackTraces = false) (G : zG) (b : Nat) (t0 : Nat) (ht0 : z_kd t0 = 7) (a1 : Int32) (M : zM) {r9 : Int32} {M9 : zM} (h : fX7_origin t0 a1 M = some (r9, M9)) : z_MN l yX7_origin cX7_origin 3 (some .int) { frames := 2, cells := 0, slots := 0, locals := 43 } G b [.ref (b + t0), .int a1] M (some (.int r9)) M9 := by
  refine z_met (own := RX7) hl (by decide) rfl rfl (fun Γ hΓ X R => ?_)
  subst hΓ
  show GW Γ G b 0 0 M 0 [(0, .ref (b + t0)), (1, .int a1)] []
  unfold fX7_origin at h
  refine r_aload_n X 0 rfl dX7_origin_0 1 rfl ?_
  refine r_aload_n X 0 rfl dX7_origin_1 2 rfl ?_
  refine r_iload_n X 1 rfl dX7_origin_2 3 rfl ?_
  obtain ⟨x1, e1, h⟩ := z_bd h
  refine r_callV (rest := [.ref (b + t0)]) X (tX7_isSet hl G b t0 ht0 a1 M e1) zy_X7_isSet zw_X7_isSet km_X7_41 ht0 rfl zv_X7 rfl ⟨rfl, rfl⟩ ⟨rfl, rfl⟩ rfl rfl (Nat.le_of_ble_eq_true rfl) ⟨Nat.zero_le _, Nat.zero_le _⟩ dX7_origin_3 6 rfl [.int x1, .ref (b + t0)] rfl ?_
  refine r_iconst (v := 1) X rfl dX7_origin_6 7 rfl ?_
  obtain ⟨x2, M3, e3, h⟩ := z_bd2 h
  refine r_callV (rest := []) X (tX7_fits hl G b t0 ht0 x1 1 M e3) zy_X7_fits zw_X7_fits km_X7_59 ht0 rfl zv_X7 rfl ⟨rfl, rfl⟩ ⟨rfl, rfl⟩ rfl rfl (Nat.le_of_ble_eq_true rfl) ⟨Nat.zero_le _, Nat.zero_le _⟩ dX7_origin_7 10 rfl [.int x2] rfl ?_
  refine r_istore_n X dX7_origin_10 11 rfl [(0, .ref (b + t0)), (1, .int a1), (2, .int x2)] (by decide) [1, 2, 0] rfl ?_
  refine r_iload_n X 2 rfl dX7_origin_11 12 rfl ?_
  refine r_if_ne X dX7_origin_12 19 (by decide) 15 rfl (fun c4 => ?_) (fun c4 => ?_)
  · have h := z_ie c4 h
    refine r_aload_n X 0 rfl dX7_origin_19 20 rfl ?_
    refine r_get (v := .ref (b + (t0 + 1))) X ht0 rfl zv_X7 zi_X7 rfl kf_X7_7 rfl rfl dX7_origin_20 23 rfl ?_
    refine r_sipush (v := 2310) X rfl dX7_origin_23 26 rfl ?_
    refine r_iload_n X 1 rfl dX7_origin_26 27 rfl ?_
    refine r_iadd X dX7_origin_27 28 rfl ?_
    obtain ⟨x5, e5, h⟩ := z_bd h
    refine r_iaload X (zk_7_0 ht0) (zn_7_0 ht0) e5 dX7_origin_28 29 rfl ?_
    refine r_if_ne X dX7_origin_29 36 (by decide) 32 rfl (fun c6 => ?_) (fun c6 => ?_)
    · have h := z_ie c6 h
      refine r_aload_n X 0 rfl dX7_origin_36 37 rfl ?_
      refine r_get (v := .ref (b + (t0 + 1))) X ht0 rfl zv_X7 zi_X7 rfl kf_X7_7 rfl rfl dX7_origin_37 40 rfl ?_
      refine r_sipush (v := 2394) X rfl dX7_origin_40 43 rfl ?_
      refine r_aload_n X 0 rfl dX7_origin_43 44 rfl ?_
      refine r_get (v := .ref (b + (t0 + 1))) X ht0 rfl zv_X7 zi_X7 rfl kf_X7_7 rfl rfl dX7_origin_44 47 rfl ?_
      refine r_sipush (v := 2310) X rfl dX7_origin_47 50 rfl ?_
      refine r_iload_n X 1 rfl dX7_origin_50 51 rfl ?_
      refine r_iadd X dX7_origin_51 52 rfl ?_
      obtain ⟨x7, e7, h⟩ := z_bd h
      refine r_iaload X (zk_7_0 ht0) (zn_7_0 ht0) e7 dX7_origin_52 53 rfl ?_
      refine r_iadd X dX7_origin_53 54 rfl ?_
      refine r_iconst (v := 1) X rfl dX7_origin_54 55 rfl ?_
      refine r_isub X dX7_origin_55 56 rfl ?_
      obtain ⟨x8, e8, h⟩ := z_bd h
      refine r_iaload X (zk_7_0 ht0) (zn_7_0 ht0) e8 dX7_origin_56 57 rfl ?_
      refine r_iconst (v := 1) X rfl dX7_origin_57 58 rfl ?_
      refine r_isub X dX7_origin_58 59 rfl ?_
      cases h
      exact r_iret X R rfl dX7_origin_59
    · have h := z_it c6 h
      refine r_iconst (v := (-1)) X rfl dX7_origin_32 33 rfl ?_
      refine r_goto X dX7_origin_33 59 (by decide) ?_
      cases h
      exact r_iret X R rfl dX7_origin_59
  · have h := z_it c4 h
    refine r_iconst (v := 0) X rfl dX7_origin_15 16 rfl ?_
    refine r_goto X dX7_origin_16 59 (by decide) ?_
    cases h
    exact r_iret X R rfl dX7_origin_59
set_option maxRecDepth 100000 in
set_option maxHeartbeats 1000000 in
theorem tX7_promote {l : Launch} (hl : l.stackTraces = false) (G : zG) (b : Nat) (t0 : Nat) (ht0 : z_kd t0 = 7) (a1 : Int32) (M : zM) {r9 : Int32} {M9 : zM} (h : fX7_promote t0 a1 M = some (r9, M9)) : z_MN l yX7_promote cX7_promote 8 (some .int) { frames := 2, cells := 0, slots := 0, locals := 43 } G b [.ref (b + t0), .int a1] M (some (.int r9)) M9 := by
  refine z_met (own := RX7) hl (by decide) rfl rfl (fun Γ hΓ X R => ?_)
  subst hΓ
  show GW Γ G b 0 0 M 0 [(0, .ref (b + t0)), (1, .int a1)] []
  unfold fX7_promote at h
  refine r_aload_n X 0 rfl dX7_promote_0 1 rfl ?_
  refine r_iload_n X 1 rfl dX7_promote_1 2 rfl ?_
  obtain ⟨x1, e1, h⟩ := z_bd h
  refine r_callV (rest := []) X (tX7_isSet hl G b t0 ht0 a1 M e1) zy_X7_isSet zw_X7_isSet km_X7_41 ht0 rfl zv_X7 rfl ⟨rfl, rfl⟩ ⟨rfl, rfl⟩ rfl rfl (Nat.le_of_ble_eq_true rfl) ⟨Nat.zero_le _, Nat.zero_le _⟩ dX7_promote_2 5 rfl [.int x1] rfl ?_
  refine r_istore_n X dX7_promote_5 6 rfl [(0, .ref (b + t0)), (1, .int a1), (2, .int x1)] (by decide) [1, 2, 0] rfl ?_
  refine r_aload_n X 0 rfl dX7_promote_6 7 rfl ?_
  refine r_iload_n X 2 rfl dX7_promote_7 8 rfl ?_
  refine r_iload_n X 2 rfl dX7_promote_8 9 rfl ?_
  obtain ⟨j3, hT3, h⟩ := z_bd h
  have hJ3 : GW Γ G b 0 0 M 30 [(0, .ref (b + t0)), (1, .int a1)] [.int j3, .int x1, .ref (b + t0)] := by
    obtain ⟨x4, M5, e5, h⟩ := z_bd2 h
    refine r_callV (rest := []) X (tX7_fits hl G b t0 ht0 x1 j3 M e5) zy_X7_fits zw_X7_fits km_X7_59 ht0 rfl zv_X7 rfl ⟨rfl, rfl⟩ ⟨rfl, rfl⟩ rfl rfl (Nat.le_of_ble_eq_true rfl) ⟨Nat.zero_le _, Nat.zero_le _⟩ dX7_promote_30 33 rfl [.int x4] rfl ?_
    refine r_if_ne X dX7_promote_33 38 (by decide) 36 rfl (fun c6 => ?_) (fun c6 => ?_)
    · have h := z_ie c6 h
      refine r_aload_n X 0 rfl dX7_promote_38 39 rfl ?_
      refine r_get (v := .ref (b + (t0 + 1))) X ht0 rfl zv_X7 zi_X7 rfl kf_X7_7 rfl rfl dX7_promote_39 42 rfl ?_
      refine r_sipush (v := 2310) X rfl dX7_promote_42 45 rfl ?_
      refine r_iload_n X 1 rfl dX7_promote_45 46 rfl ?_
      refine r_iadd X dX7_promote_46 47 rfl ?_
      obtain ⟨x7, e7, h⟩ := z_bd h
      refine r_iaload X (zk_7_0 ht0) (zn_7_0 ht0) e7 dX7_promote_47 48 rfl ?_
      refine r_iconst (v := 1) X rfl dX7_promote_48 49 rfl ?_
      refine r_isub X dX7_promote_49 50 rfl ?_
      refine r_istore_n X dX7_promote_50 51 rfl [(0, .ref (b + t0)), (1, .int a1), (3, .int (x7 - 1))] (by decide) [1, 2, 0] rfl ?_
      refine r_aload_n X 0 rfl dX7_promote_51 52 rfl ?_
      refine r_get (v := .ref (b + (t0 + 1))) X ht0 rfl zv_X7 zi_X7 rfl kf_X7_7 rfl rfl dX7_promote_52 55 rfl ?_
      refine r_sipush (v := 2418) X rfl dX7_promote_55 58 rfl ?_
      refine r_iload_n X 2 rfl dX7_promote_58 59 rfl ?_
      refine r_iadd X dX7_promote_59 60 rfl ?_
      obtain ⟨x8, e8, h⟩ := z_bd h
      refine r_iaload X (zk_7_0 ht0) (zn_7_0 ht0) e8 dX7_promote_60 61 rfl ?_
      refine r_istore X dX7_promote_61 63 rfl [(0, .ref (b + t0)), (1, .int a1), (3, .int (x7 - 1)), (4, .int x8)] (by decide) [1, 2, 3, 0] rfl ?_
      refine r_aload_n X 0 rfl dX7_promote_63 64 rfl ?_
      refine r_iload_n X 2 rfl dX7_promote_64 65 rfl ?_
      obtain ⟨x9, e9, h⟩ := z_bd h
      refine r_callV (rest := []) X (tX7_placeOf hl G b t0 ht0 (x7 - 1) M5 e9) zy_X7_placeOf zw_X7_placeOf km_X7_92 ht0 rfl zv_X7 rfl ⟨rfl, rfl⟩ ⟨rfl, rfl⟩ rfl rfl (Nat.le_of_ble_eq_true rfl) ⟨Nat.zero_le _, Nat.zero_le _⟩ dX7_promote_65 68 rfl [.int x9] rfl ?_
      refine r_iconst (v := 1) X rfl dX7_promote_68 69 rfl ?_
      refine r_iadd X dX7_promote_69 70 rfl ?_
      refine r_istore X dX7_promote_70 72 rfl [(0, .ref (b + t0)), (1, .int a1), (3, .int (x7 - 1)), (4, .int x8), (5, .int (x9 + 1))] (by decide) [1, 2, 3, 4, 0] rfl ?_
      refine r_aload_n X 0 rfl dX7_promote_72 73 rfl ?_
      refine r_get (v := .ref (b + (t0 + 1))) X ht0 rfl zv_X7 zi_X7 rfl kf_X7_7 rfl rfl dX7_promote_73 76 rfl ?_
      refine r_sipush (v := 2388) X rfl dX7_promote_76 79 rfl ?_
      refine r_iload_n X 1 rfl dX7_promote_79 80 rfl ?_
      refine r_iadd X dX7_promote_80 81 rfl ?_
      obtain ⟨x10, e10, h⟩ := z_bd h
      refine r_iaload X (zk_7_0 ht0) (zn_7_0 ht0) e10 dX7_promote_81 82 rfl ?_
      refine r_iconst (v := 1) X rfl dX7_promote_82 83 rfl ?_
      refine r_isub X dX7_promote_83 84 rfl ?_
      refine r_istore X dX7_promote_84 86 rfl [(0, .ref (b + t0)), (1, .int a1), (3, .int (x7 - 1)), (4, .int x8), (5, .int (x9 + 1)), (6, .int (x10 - 1))] (by decide) [1, 2, 3, 4, 5, 0] rfl ?_
      obtain ⟨M13, hL14, h⟩ := z_bd h
      have hK14 : GW Γ G b 0 0 M13 132 [(0, .ref (b + t0)), (1, .int a1), (3, .int (x7 - 1)), (4, .int x8), (5, .int (x9 + 1))] [] := by
        refine r_iconst (v := 0) X rfl dX7_promote_132 133 rfl ?_
        refine r_istore X dX7_promote_133 135 rfl [(0, .ref (b + t0)), (1, .int a1), (3, .int (x7 - 1)), (4, .int x8), (5, .int (x9 + 1)), (6, .int 0)] (by decide) [1, 2, 3, 4, 5, 0] rfl ?_
        obtain ⟨M17, hL18, h⟩ := z_bd h
        have hK18 : GW Γ G b 0 0 M17 197 [(0, .ref (b + t0)), (1, .int a1), (3, .int (x7 - 1)), (4, .int x8), (5, .int (x9 + 1))] [] := by
          refine r_aload_n X 0 rfl dX7_promote_197 198 rfl ?_
          refine r_get (v := .ref (b + (t0 + 1))) X ht0 rfl zv_X7 zi_X7 rfl kf_X7_7 rfl rfl dX7_promote_198 201 rfl ?_
          refine r_sipush (v := 2388) X rfl dX7_promote_201 204 rfl ?_
          refine r_iload_n X 1 rfl dX7_promote_204 205 rfl ?_
          refine r_iadd X dX7_promote_205 206 rfl ?_
          refine r_dup2 X rfl rfl dX7_promote_206 207 rfl ?_
          obtain ⟨x19, e19, h⟩ := z_bd h
          refine r_iaload X (zk_7_0 ht0) (zn_7_0 ht0) e19 dX7_promote_207 208 rfl ?_
          refine r_iload X 4 rfl dX7_promote_208 210 rfl ?_
          refine r_iadd X dX7_promote_210 211 rfl ?_
          obtain ⟨M20, e20, h⟩ := z_bd h
          refine r_iastore X (zk_7_0 ht0) (zn_7_0 ht0) e20 dX7_promote_211 212 rfl ?_
          refine r_aload_n X 0 rfl dX7_promote_212 213 rfl ?_
          refine r_get (v := .ref (b + (t0 + 1))) X ht0 rfl zv_X7 zi_X7 rfl kf_X7_7 rfl rfl dX7_promote_213 216 rfl ?_
          refine r_sipush (v := 2388) X rfl dX7_promote_216 219 rfl ?_
          refine r_iload X 3 rfl dX7_promote_219 221 rfl ?_
          refine r_iadd X dX7_promote_221 222 rfl ?_
          refine r_dup2 X rfl rfl dX7_promote_222 223 rfl ?_
          obtain ⟨x21, e21, h⟩ := z_bd h
          refine r_iaload X (zk_7_0 ht0) (zn_7_0 ht0) e21 dX7_promote_223 224 rfl ?_
          refine r_iload X 4 rfl dX7_promote_224 226 rfl ?_
          refine r_isub X dX7_promote_226 227 rfl ?_
          obtain ⟨M22, e22, h⟩ := z_bd h
          refine r_iastore X (zk_7_0 ht0) (zn_7_0 ht0) e22 dX7_promote_227 228 rfl ?_
          refine r_iconst (v := 0) X rfl dX7_promote_228 229 rfl ?_
          refine r_istore X dX7_promote_229 231 rfl [(0, .ref (b + t0)), (1, .int a1), (3, .int (x7 - 1)), (4, .int x8), (5, .int (x9 + 1)), (6, .int 0)] (by decide) [1, 2, 3, 4, 5, 0] rfl ?_
          obtain ⟨M25, hL26, h⟩ := z_bd h
          have hK26 : GW Γ G b 0 0 M25 290 [(0, .ref (b + t0)), (1, .int a1), (3, .int (x7 - 1)), (4, .int x8)] [] := by
            refine r_aload_n X 0 rfl dX7_promote_290 291 rfl ?_
            refine r_get (v := .ref (b + (t0 + 1))) X ht0 rfl zv_X7 zi_X7 rfl kf_X7_7 rfl rfl dX7_promote_291 294 rfl ?_
            refine r_sipush (v := 2310) X rfl dX7_promote_294 297 rfl ?_
            refine r_iload_n X 1 rfl dX7_promote_297 298 rfl ?_
            refine r_iadd X dX7_promote_298 299 rfl ?_
            refine r_aload_n X 0 rfl dX7_promote_299 300 rfl ?_
            refine r_get (v := .ref (b + (t0 + 1))) X ht0 rfl zv_X7 zi_X7 rfl kf_X7_7 rfl rfl dX7_promote_300 303 rfl ?_
            refine r_sipush (v := 2310) X rfl dX7_promote_303 306 rfl ?_
            refine r_iload X 3 rfl dX7_promote_306 308 rfl ?_
            refine r_iadd X dX7_promote_308 309 rfl ?_
            obtain ⟨x27, e27, h⟩ := z_bd h
            refine r_iaload X (zk_7_0 ht0) (zn_7_0 ht0) e27 dX7_promote_309 310 rfl ?_
            obtain ⟨M28, e28, h⟩ := z_bd h
            refine r_iastore X (zk_7_0 ht0) (zn_7_0 ht0) e28 dX7_promote_310 311 rfl ?_
            refine r_aload_n X 0 rfl dX7_promote_311 312 rfl ?_
            refine r_get (v := .ref (b + (t0 + 1))) X ht0 rfl zv_X7 zi_X7 rfl kf_X7_7 rfl rfl dX7_promote_312 315 rfl ?_
            refine r_sipush (v := 2310) X rfl dX7_promote_315 318 rfl ?_
            refine r_iload X 3 rfl dX7_promote_318 320 rfl ?_
            refine r_iadd X dX7_promote_320 321 rfl ?_
            refine r_iload_n X 2 rfl dX7_promote_321 322 rfl ?_
            refine r_iconst (v := 1) X rfl dX7_promote_322 323 rfl ?_
            refine r_iadd X dX7_promote_323 324 rfl ?_
            obtain ⟨M29, e29, h⟩ := z_bd h
            refine r_iastore X (zk_7_0 ht0) (zn_7_0 ht0) e29 dX7_promote_324 325 rfl ?_
            refine r_aload_n X 0 rfl dX7_promote_325 326 rfl ?_
            refine r_get (v := .ref (b + (t0 + 1))) X ht0 rfl zv_X7 zi_X7 rfl kf_X7_7 rfl rfl dX7_promote_326 329 rfl ?_
            refine r_sipush (v := 2388) X rfl dX7_promote_329 332 rfl ?_
            refine r_iload_n X 1 rfl dX7_promote_332 333 rfl ?_
            refine r_iadd X dX7_promote_333 334 rfl ?_
            obtain ⟨x30, e30, h⟩ := z_bd h
            refine r_iaload X (zk_7_0 ht0) (zn_7_0 ht0) e30 dX7_promote_334 335 rfl ?_
            cases h
            exact r_iret X R rfl dX7_promote_335
          clear h
          refine z_loopP (fun (s : (Int32 × zM)) => GW Γ G b 0 0 s.2 231 [(0, .ref (b + t0)), (1, .int a1), (3, .int (x7 - 1)), (4, .int x8), (5, .int (x9 + 1)), (6, .int s.1)] []) (fun s q26 hb hP26 hx26 => ?_) _ _ hL26
          obtain ⟨x23, M24⟩ := s
          have h : fX7_promote_L3 t0 x8 x9 x23 M24 = some q26 := hb
          unfold fX7_promote_L3 at h
          refine r_iload X 5 rfl dX7_promote_231 233 rfl ?_
          refine r_aload_n X 0 rfl dX7_promote_233 234 rfl ?_
          refine r_get (v := .ref (b + (t0 + 1))) X ht0 rfl zv_X7 zi_X7 rfl kf_X7_7 rfl rfl dX7_promote_234 237 rfl ?_
          refine r_sipush (v := 2388) X rfl dX7_promote_237 240 rfl ?_
          refine r_iload X 3 rfl dX7_promote_240 242 rfl ?_
          refine r_iadd X dX7_promote_242 243 rfl ?_
          obtain ⟨x31, e31, h⟩ := z_bd h
          refine r_iaload X (zk_7_0 ht0) (zn_7_0 ht0) e31 dX7_promote_243 244 rfl ?_
          refine r_icmp_ge X dX7_promote_244 290 (by decide) 247 rfl (fun c32 => ?_) (fun c32 => ?_)
          · have h := z_it c32 h
            refine r_sub [(0, .ref (b + t0)), (1, .int a1), (3, .int (x7 - 1)), (4, .int x8)] [0, 1, 2, 3] rfl ?_
            have e := hx26 _ (Option.some.inj h).symm
            cases e
            exact hK26
          · have h := z_ie c32 h
            refine r_aload_n X 0 rfl dX7_promote_247 248 rfl ?_
            refine r_get (v := .ref (b + (t0 + 1))) X ht0 rfl zv_X7 zi_X7 rfl kf_X7_7 rfl rfl dX7_promote_248 251 rfl ?_
            refine r_sipush (v := 2316) X rfl dX7_promote_251 254 rfl ?_
            refine r_bipush (v := 12) X rfl dX7_promote_254 256 rfl ?_
            refine r_iload X 3 rfl dX7_promote_256 258 rfl ?_
            refine r_imul X dX7_promote_258 259 rfl ?_
            refine r_iadd X dX7_promote_259 260 rfl ?_
            refine r_iload X 5 rfl dX7_promote_260 262 rfl ?_
            refine r_iadd X dX7_promote_262 263 rfl ?_
            refine r_aload_n X 0 rfl dX7_promote_263 264 rfl ?_
            refine r_get (v := .ref (b + (t0 + 1))) X ht0 rfl zv_X7 zi_X7 rfl kf_X7_7 rfl rfl dX7_promote_264 267 rfl ?_
            refine r_sipush (v := 2316) X rfl dX7_promote_267 270 rfl ?_
            refine r_bipush (v := 12) X rfl dX7_promote_270 272 rfl ?_
            refine r_iload X 3 rfl dX7_promote_272 274 rfl ?_
            refine r_imul X dX7_promote_274 275 rfl ?_
            refine r_iadd X dX7_promote_275 276 rfl ?_
            refine r_iload X 5 rfl dX7_promote_276 278 rfl ?_
            refine r_iadd X dX7_promote_278 279 rfl ?_
            refine r_iload X 4 rfl dX7_promote_279 281 rfl ?_
            refine r_iadd X dX7_promote_281 282 rfl ?_
            obtain ⟨x33, e33, h⟩ := z_bd h
            refine r_iaload X (zk_7_0 ht0) (zn_7_0 ht0) e33 dX7_promote_282 283 rfl ?_
            obtain ⟨M34, e34, h⟩ := z_bd h
            refine r_iastore X (zk_7_0 ht0) (zn_7_0 ht0) e34 dX7_promote_283 284 rfl ?_
            refine r_iinc X dX7_promote_284 287 rfl [(0, .ref (b + t0)), (1, .int a1), (3, .int (x7 - 1)), (4, .int x8), (5, .int (x9 + 1)), (6, .int (x23 + 1))] (by decide) 5 rfl (x23 + 1) rfl [1, 2, 3, 4, 5, 0] rfl ?_
            refine r_goto X dX7_promote_287 231 (by decide) ?_
            exact hP26 ((x23 + 1), M34) (Option.some.inj h).symm
        clear h
        refine z_loopP (fun (s : (Int32 × zM)) => GW Γ G b 0 0 s.2 135 [(0, .ref (b + t0)), (1, .int a1), (3, .int (x7 - 1)), (4, .int x8), (5, .int (x9 + 1)), (6, .int s.1)] []) (fun s q18 hb hP18 hx18 => ?_) _ _ hL18
        obtain ⟨x15, M16⟩ := s
        have h : fX7_promote_L2 t0 a1 x8 x9 x15 M16 = some q18 := hb
        unfold fX7_promote_L2 at h
        refine r_iload X 5 rfl dX7_promote_135 137 rfl ?_
        refine r_iload X 4 rfl dX7_promote_137 139 rfl ?_
        refine r_icmp_ge X dX7_promote_139 197 (by decide) 142 rfl (fun c35 => ?_) (fun c35 => ?_)
        · have h := z_it c35 h
          refine r_sub [(0, .ref (b + t0)), (1, .int a1), (3, .int (x7 - 1)), (4, .int x8), (5, .int (x9 + 1))] [0, 1, 2, 3, 4] rfl ?_
          have e := hx18 _ (Option.some.inj h).symm
          cases e
          exact hK18
        · have h := z_ie c35 h
          refine r_aload_n X 0 rfl dX7_promote_142 143 rfl ?_
          refine r_get (v := .ref (b + (t0 + 1))) X ht0 rfl zv_X7 zi_X7 rfl kf_X7_7 rfl rfl dX7_promote_143 146 rfl ?_
          refine r_sipush (v := 2316) X rfl dX7_promote_146 149 rfl ?_
          refine r_bipush (v := 12) X rfl dX7_promote_149 151 rfl ?_
          refine r_iload X 3 rfl dX7_promote_151 153 rfl ?_
          refine r_imul X dX7_promote_153 154 rfl ?_
          refine r_iadd X dX7_promote_154 155 rfl ?_
          refine r_iload X 5 rfl dX7_promote_155 157 rfl ?_
          refine r_iadd X dX7_promote_157 158 rfl ?_
          obtain ⟨x36, e36, h⟩ := z_bd h
          refine r_iaload X (zk_7_0 ht0) (zn_7_0 ht0) e36 dX7_promote_158 159 rfl ?_
          refine r_istore X dX7_promote_159 161 rfl [(0, .ref (b + t0)), (1, .int a1), (3, .int (x7 - 1)), (4, .int x8), (5, .int (x9 + 1)), (6, .int x15), (7, .int x36)] (by decide) [1, 2, 3, 4, 5, 6, 0] rfl ?_
          refine r_aload_n X 0 rfl dX7_promote_161 162 rfl ?_
          refine r_get (v := .ref (b + (t0 + 1))) X ht0 rfl zv_X7 zi_X7 rfl kf_X7_7 rfl rfl dX7_promote_162 165 rfl ?_
          refine r_sipush (v := 2316) X rfl dX7_promote_165 168 rfl ?_
          refine r_bipush (v := 12) X rfl dX7_promote_168 170 rfl ?_
          refine r_iload_n X 1 rfl dX7_promote_170 171 rfl ?_
          refine r_imul X dX7_promote_171 172 rfl ?_
          refine r_iadd X dX7_promote_172 173 rfl ?_
          refine r_iload X 5 rfl dX7_promote_173 175 rfl ?_
          refine r_iadd X dX7_promote_175 176 rfl ?_
          refine r_iload X 6 rfl dX7_promote_176 178 rfl ?_
          obtain ⟨M37, e37, h⟩ := z_bd h
          refine r_iastore X (zk_7_0 ht0) (zn_7_0 ht0) e37 dX7_promote_178 179 rfl ?_
          refine r_aload_n X 0 rfl dX7_promote_179 180 rfl ?_
          refine r_get (v := .ref (b + (t0 + 1))) X ht0 rfl zv_X7 zi_X7 rfl kf_X7_7 rfl rfl dX7_promote_180 183 rfl ?_
          refine r_sipush (v := 2418) X rfl dX7_promote_183 186 rfl ?_
          refine r_iload X 6 rfl dX7_promote_186 188 rfl ?_
          refine r_iadd X dX7_promote_188 189 rfl ?_
          refine r_iload_n X 1 rfl dX7_promote_189 190 rfl ?_
          obtain ⟨M38, e38, h⟩ := z_bd h
          refine r_iastore X (zk_7_0 ht0) (zn_7_0 ht0) e38 dX7_promote_190 191 rfl ?_
          refine r_iinc X dX7_promote_191 194 rfl [(0, .ref (b + t0)), (1, .int a1), (3, .int (x7 - 1)), (4, .int x8), (5, .int (x9 + 1)), (6, .int (x15 + 1))] (by decide) 5 rfl (x15 + 1) rfl [1, 2, 3, 4, 5, 0] rfl ?_
          refine r_goto X dX7_promote_194 135 (by decide) ?_
          exact hP18 ((x15 + 1), M38) (Option.some.inj h).symm
      clear h
      refine z_loopP (fun (s : (Int32 × zM)) => GW Γ G b 0 0 s.2 86 [(0, .ref (b + t0)), (1, .int a1), (3, .int (x7 - 1)), (4, .int x8), (5, .int (x9 + 1)), (6, .int s.1)] []) (fun s q14 hb hP14 hx14 => ?_) _ _ hL14
      obtain ⟨x11, M12⟩ := s
      have h : fX7_promote_L1 t0 a1 x9 x11 M12 = some q14 := hb
      unfold fX7_promote_L1 at h
      refine r_iload X 5 rfl dX7_promote_86 88 rfl ?_
      refine r_if_lt X dX7_promote_88 132 (by decide) 91 rfl (fun c39 => ?_) (fun c39 => ?_)
      · have h := z_it c39 h
        refine r_sub [(0, .ref (b + t0)), (1, .int a1), (3, .int (x7 - 1)), (4, .int x8), (5, .int (x9 + 1))] [0, 1, 2, 3, 4] rfl ?_
        have e := hx14 _ (Option.some.inj h).symm
        cases e
        exact hK14
      · have h := z_ie c39 h
        refine r_aload_n X 0 rfl dX7_promote_91 92 rfl ?_
        refine r_get (v := .ref (b + (t0 + 1))) X ht0 rfl zv_X7 zi_X7 rfl kf_X7_7 rfl rfl dX7_promote_92 95 rfl ?_
        refine r_sipush (v := 2316) X rfl dX7_promote_95 98 rfl ?_
        refine r_bipush (v := 12) X rfl dX7_promote_98 100 rfl ?_
        refine r_iload_n X 1 rfl dX7_promote_100 101 rfl ?_
        refine r_imul X dX7_promote_101 102 rfl ?_
        refine r_iadd X dX7_promote_102 103 rfl ?_
        refine r_iload X 5 rfl dX7_promote_103 105 rfl ?_
        refine r_iadd X dX7_promote_105 106 rfl ?_
        refine r_iload X 4 rfl dX7_promote_106 108 rfl ?_
        refine r_iadd X dX7_promote_108 109 rfl ?_
        refine r_aload_n X 0 rfl dX7_promote_109 110 rfl ?_
        refine r_get (v := .ref (b + (t0 + 1))) X ht0 rfl zv_X7 zi_X7 rfl kf_X7_7 rfl rfl dX7_promote_110 113 rfl ?_
        refine r_sipush (v := 2316) X rfl dX7_promote_113 116 rfl ?_
        refine r_bipush (v := 12) X rfl dX7_promote_116 118 rfl ?_
        refine r_iload_n X 1 rfl dX7_promote_118 119 rfl ?_
        refine r_imul X dX7_promote_119 120 rfl ?_
        refine r_iadd X dX7_promote_120 121 rfl ?_
        refine r_iload X 5 rfl dX7_promote_121 123 rfl ?_
        refine r_iadd X dX7_promote_123 124 rfl ?_
        obtain ⟨x40, e40, h⟩ := z_bd h
        refine r_iaload X (zk_7_0 ht0) (zn_7_0 ht0) e40 dX7_promote_124 125 rfl ?_
        obtain ⟨M41, e41, h⟩ := z_bd h
        refine r_iastore X (zk_7_0 ht0) (zn_7_0 ht0) e41 dX7_promote_125 126 rfl ?_
        refine r_iinc X dX7_promote_126 129 rfl [(0, .ref (b + t0)), (1, .int a1), (3, .int (x7 - 1)), (4, .int x8), (5, .int (x9 + 1)), (6, .int (x11 + (-1)))] (by decide) 5 rfl (x11 + (-1)) rfl [1, 2, 3, 4, 5, 0] rfl ?_
        refine r_goto X dX7_promote_129 86 (by decide) ?_
        exact hP14 ((x11 + (-1)), M41) (Option.some.inj h).symm
    · have h := z_it c6 h
      refine r_iconst (v := 0) X rfl dX7_promote_36 37 rfl ?_
      cases h
      exact r_iret X R rfl dX7_promote_37
  have h := hT3
  refine r_if_eq X dX7_promote_9 29 (by decide) 12 rfl (fun c2 => ?_) (fun c2 => ?_)
  · have h := z_it c2 h
    refine r_iconst (v := 0) X rfl dX7_promote_29 30 rfl ?_
    refine r_sub [(0, .ref (b + t0)), (1, .int a1)] [0, 1] rfl ?_
    cases h
    exact hJ3
  · have h := z_ie c2 h
    refine r_aload_n X 0 rfl dX7_promote_12 13 rfl ?_
    refine r_get (v := .ref (b + (t0 + 1))) X ht0 rfl zv_X7 zi_X7 rfl kf_X7_7 rfl rfl dX7_promote_13 16 rfl ?_
    refine r_sipush (v := 2310) X rfl dX7_promote_16 19 rfl ?_
    refine r_iload_n X 1 rfl dX7_promote_19 20 rfl ?_
    refine r_iadd X dX7_promote_20 21 rfl ?_
    obtain ⟨x42, e42, h⟩ := z_bd h
    refine r_iaload X (zk_7_0 ht0) (zn_7_0 ht0) e42 dX7_promote_21 22 rfl ?_
    refine r_if_le X dX7_promote_22 29 (by decide) 25 rfl (fun c43 => ?_) (fun c43 => ?_)
    · have h := z_it c43 h
      refine r_iconst (v := 0) X rfl dX7_promote_29 30 rfl ?_
      refine r_sub [(0, .ref (b + t0)), (1, .int a1)] [0, 1] rfl ?_
      cases h
      exact hJ3
    · have h := z_ie c43 h
      refine r_iconst (v := 1) X rfl dX7_promote_25 26 rfl ?_
      refine r_goto X dX7_promote_26 30 (by decide) ?_
      refine r_sub [(0, .ref (b + t0)), (1, .int a1)] [0, 1] rfl ?_
      cases h
      exact hJ3
set_option maxRecDepth 100000 in
set_option maxHeartbeats 1000000 in
theorem tX7_destroy {l : Launch} (hl : l.stackTraces = false) (G : zG) (b : Nat) (t0 : Nat) (ht0 : z_kd t0 = 7) (a1 : Int32) (M : zM) {r9 : Int32} {M9 : zM} (h : fX7_destroy t0 a1 M = some (r9, M9)) : z_MN l yX7_destroy cX7_destroy 4 (some .int) { frames := 2, cells := 0, slots := 0, locals := 43 } G b [.ref (b + t0), .int a1] M (some (.int r9)) M9 := by
  refine z_met (own := RX7) hl (by decide) rfl rfl (fun Γ hΓ X R => ?_)
  subst hΓ
  show GW Γ G b 0 0 M 0 [(0, .ref (b + t0)), (1, .int a1)] []
  unfold fX7_destroy at h
  refine r_aload_n X 0 rfl dX7_destroy_0 1 rfl ?_
  refine r_iload_n X 1 rfl dX7_destroy_1 2 rfl ?_
  obtain ⟨x1, e1, h⟩ := z_bd h
  refine r_callV (rest := []) X (tX7_isSet hl G b t0 ht0 a1 M e1) zy_X7_isSet zw_X7_isSet km_X7_41 ht0 rfl zv_X7 rfl ⟨rfl, rfl⟩ ⟨rfl, rfl⟩ rfl rfl (Nat.le_of_ble_eq_true rfl) ⟨Nat.zero_le _, Nat.zero_le _⟩ dX7_destroy_2 5 rfl [.int x1] rfl ?_
  refine r_istore_n X dX7_destroy_5 6 rfl [(0, .ref (b + t0)), (1, .int a1), (2, .int x1)] (by decide) [1, 2, 0] rfl ?_
  refine r_aload_n X 0 rfl dX7_destroy_6 7 rfl ?_
  refine r_iload_n X 2 rfl dX7_destroy_7 8 rfl ?_
  refine r_iload_n X 2 rfl dX7_destroy_8 9 rfl ?_
  obtain ⟨j3, hT3, h⟩ := z_bd h
  have hJ3 : GW Γ G b 0 0 M 38 [(0, .ref (b + t0)), (1, .int a1)] [.int j3, .int x1, .ref (b + t0)] := by
    obtain ⟨x4, M5, e5, h⟩ := z_bd2 h
    refine r_callV (rest := []) X (tX7_fits hl G b t0 ht0 x1 j3 M e5) zy_X7_fits zw_X7_fits km_X7_59 ht0 rfl zv_X7 rfl ⟨rfl, rfl⟩ ⟨rfl, rfl⟩ rfl rfl (Nat.le_of_ble_eq_true rfl) ⟨Nat.zero_le _, Nat.zero_le _⟩ dX7_destroy_38 41 rfl [.int x4] rfl ?_
    refine r_if_ne X dX7_destroy_41 46 (by decide) 44 rfl (fun c6 => ?_) (fun c6 => ?_)
    · have h := z_ie c6 h
      refine r_aload_n X 0 rfl dX7_destroy_46 47 rfl ?_
      refine r_get (v := .ref (b + (t0 + 1))) X ht0 rfl zv_X7 zi_X7 rfl kf_X7_7 rfl rfl dX7_destroy_47 50 rfl ?_
      refine r_sipush (v := 2304) X rfl dX7_destroy_50 53 rfl ?_
      refine r_iload_n X 1 rfl dX7_destroy_53 54 rfl ?_
      refine r_iadd X dX7_destroy_54 55 rfl ?_
      refine r_iconst (v := 0) X rfl dX7_destroy_55 56 rfl ?_
      obtain ⟨M7, e7, h⟩ := z_bd h
      refine r_iastore X (zk_7_0 ht0) (zn_7_0 ht0) e7 dX7_destroy_56 57 rfl ?_
      refine r_aload_n X 0 rfl dX7_destroy_57 58 rfl ?_
      refine r_get (v := .ref (b + (t0 + 1))) X ht0 rfl zv_X7 zi_X7 rfl kf_X7_7 rfl rfl dX7_destroy_58 61 rfl ?_
      refine r_sipush (v := 2310) X rfl dX7_destroy_61 64 rfl ?_
      refine r_iload_n X 1 rfl dX7_destroy_64 65 rfl ?_
      refine r_iadd X dX7_destroy_65 66 rfl ?_
      refine r_iconst (v := 0) X rfl dX7_destroy_66 67 rfl ?_
      obtain ⟨M8, e8, h⟩ := z_bd h
      refine r_iastore X (zk_7_0 ht0) (zn_7_0 ht0) e8 dX7_destroy_67 68 rfl ?_
      refine r_iconst (v := 0) X rfl dX7_destroy_68 69 rfl ?_
      refine r_istore_n X dX7_destroy_69 70 rfl [(0, .ref (b + t0)), (1, .int a1), (3, .int 0)] (by decide) [1, 2, 0] rfl ?_
      obtain ⟨M11, hL12, h⟩ := z_bd h
      have hK12 : GW Γ G b 0 0 M11 98 [(0, .ref (b + t0))] [] := by
        refine r_aload_n X 0 rfl dX7_destroy_98 99 rfl ?_
        obtain ⟨x13, M14, e14, h⟩ := z_bd2 h
        refine r_callV (rest := []) X (tX7_counts hl G b t0 ht0 M11 e14) zy_X7_counts zw_X7_counts km_X7_56 ht0 rfl zv_X7 rfl ⟨rfl, rfl⟩ ⟨rfl, rfl⟩ rfl rfl (Nat.le_of_ble_eq_true rfl) ⟨Nat.zero_le _, Nat.zero_le _⟩ dX7_destroy_99 102 rfl [.int x13] rfl ?_
        cases h
        exact r_iret X R rfl dX7_destroy_102
      clear h
      refine z_loopP (fun (s : (Int32 × zM)) => GW Γ G b 0 0 s.2 70 [(0, .ref (b + t0)), (1, .int a1), (3, .int s.1)] []) (fun s q12 hb hP12 hx12 => ?_) _ _ hL12
      obtain ⟨x9, M10⟩ := s
      have h : fX7_destroy_L1 t0 a1 x9 M10 = some q12 := hb
      unfold fX7_destroy_L1 at h
      refine r_iload_n X 2 rfl dX7_destroy_70 71 rfl ?_
      refine r_sipush (v := 128) X rfl dX7_destroy_71 74 rfl ?_
      refine r_icmp_ge X dX7_destroy_74 98 (by decide) 77 rfl (fun c15 => ?_) (fun c15 => ?_)
      · have h := z_it c15 h
        refine r_sub [(0, .ref (b + t0))] [0] rfl ?_
        have e := hx12 _ (Option.some.inj h).symm
        cases e
        exact hK12
      · have h := z_ie c15 h
        refine r_aload_n X 0 rfl dX7_destroy_77 78 rfl ?_
        refine r_get (v := .ref (b + (t0 + 1))) X ht0 rfl zv_X7 zi_X7 rfl kf_X7_7 rfl rfl dX7_destroy_78 81 rfl ?_
        refine r_iconst (v := 0) X rfl dX7_destroy_81 82 rfl ?_
        refine r_sipush (v := 128) X rfl dX7_destroy_82 85 rfl ?_
        refine r_iload_n X 1 rfl dX7_destroy_85 86 rfl ?_
        refine r_imul X dX7_destroy_86 87 rfl ?_
        refine r_iadd X dX7_destroy_87 88 rfl ?_
        refine r_iload_n X 2 rfl dX7_destroy_88 89 rfl ?_
        refine r_iadd X dX7_destroy_89 90 rfl ?_
        refine r_iconst (v := 0) X rfl dX7_destroy_90 91 rfl ?_
        obtain ⟨M16, e16, h⟩ := z_bd h
        refine r_iastore X (zk_7_0 ht0) (zn_7_0 ht0) e16 dX7_destroy_91 92 rfl ?_
        refine r_iinc X dX7_destroy_92 95 rfl [(0, .ref (b + t0)), (1, .int a1), (3, .int (x9 + 1))] (by decide) 2 rfl (x9 + 1) rfl [1, 2, 0] rfl ?_
        refine r_goto X dX7_destroy_95 70 (by decide) ?_
        exact hP12 ((x9 + 1), M16) (Option.some.inj h).symm
    · have h := z_it c6 h
      refine r_iconst (v := 0) X rfl dX7_destroy_44 45 rfl ?_
      cases h
      exact r_iret X R rfl dX7_destroy_45
  have h := hT3
  refine r_if_eq X dX7_destroy_9 37 (by decide) 12 rfl (fun c2 => ?_) (fun c2 => ?_)
  · have h := z_it c2 h
    refine r_iconst (v := 0) X rfl dX7_destroy_37 38 rfl ?_
    refine r_sub [(0, .ref (b + t0)), (1, .int a1)] [0, 1] rfl ?_
    cases h
    exact hJ3
  · have h := z_ie c2 h
    refine r_aload_n X 0 rfl dX7_destroy_12 13 rfl ?_
    refine r_get (v := .ref (b + (t0 + 1))) X ht0 rfl zv_X7 zi_X7 rfl kf_X7_7 rfl rfl dX7_destroy_13 16 rfl ?_
    refine r_sipush (v := 2388) X rfl dX7_destroy_16 19 rfl ?_
    refine r_iload_n X 1 rfl dX7_destroy_19 20 rfl ?_
    refine r_iadd X dX7_destroy_20 21 rfl ?_
    obtain ⟨x17, e17, h⟩ := z_bd h
    refine r_iaload X (zk_7_0 ht0) (zn_7_0 ht0) e17 dX7_destroy_21 22 rfl ?_
    refine r_if_ne X dX7_destroy_22 37 (by decide) 25 rfl (fun c18 => ?_) (fun c18 => ?_)
    · have h := z_ie c18 h
      refine r_iconst (v := 0) X rfl dX7_destroy_37 38 rfl ?_
      refine r_sub [(0, .ref (b + t0)), (1, .int a1)] [0, 1] rfl ?_
      cases h
      exact hJ3
    · have h := z_it c18 h
      refine r_aload_n X 0 rfl dX7_destroy_25 26 rfl ?_
      obtain ⟨x19, e19, h⟩ := z_bd h
      refine r_callV (rest := [.int x1, .ref (b + t0)]) X (tX7_countSets hl G b t0 ht0 M e19) zy_X7_countSets zw_X7_countSets km_X7_102 ht0 rfl zv_X7 rfl ⟨rfl, rfl⟩ ⟨rfl, rfl⟩ rfl rfl (Nat.le_of_ble_eq_true rfl) ⟨Nat.zero_le _, Nat.zero_le _⟩ dX7_destroy_26 29 rfl [.int x19, .int x1, .ref (b + t0)] rfl ?_
      refine r_iconst (v := 1) X rfl dX7_destroy_29 30 rfl ?_
      refine r_icmp_le X dX7_destroy_30 37 (by decide) 33 rfl (fun c20 => ?_) (fun c20 => ?_)
      · have h := z_it c20 h
        refine r_iconst (v := 0) X rfl dX7_destroy_37 38 rfl ?_
        refine r_sub [(0, .ref (b + t0)), (1, .int a1)] [0, 1] rfl ?_
        cases h
        exact hJ3
      · have h := z_ie c20 h
        refine r_iconst (v := 1) X rfl dX7_destroy_33 34 rfl ?_
        refine r_goto X dX7_destroy_34 38 (by decide) ?_
        refine r_sub [(0, .ref (b + t0)), (1, .int a1)] [0, 1] rfl ?_
        cases h
        exact hJ3
set_option maxRecDepth 100000 in
set_option maxHeartbeats 1000000 in
theorem tX7_referenced {l : Launch} (hl : l.stackTraces = false) (G : zG) (b : Nat) (t0 : Nat) (ht0 : z_kd t0 = 7) (a1 : Int32) (M : zM) {r9 : Int32} {M9 : zM} (h : fX7_referenced t0 a1 M = some (r9, M9)) : z_MN l yX7_referenced cX7_referenced 2 (some .int) { frames := 2, cells := 0, slots := 0, locals := 43 } G b [.ref (b + t0), .int a1] M (some (.int r9)) M9 := by
  refine z_met (own := RX7) hl (by decide) rfl rfl (fun Γ hΓ X R => ?_)
  subst hΓ
  show GW Γ G b 0 0 M 0 [(0, .ref (b + t0)), (1, .int a1)] []
  unfold fX7_referenced at h
  refine r_aload_n X 0 rfl dX7_referenced_0 1 rfl ?_
  refine r_aload_n X 0 rfl dX7_referenced_1 2 rfl ?_
  refine r_iload_n X 1 rfl dX7_referenced_2 3 rfl ?_
  obtain ⟨x1, e1, h⟩ := z_bd h
  refine r_callV (rest := [.ref (b + t0)]) X (tX7_isSet hl G b t0 ht0 a1 M e1) zy_X7_isSet zw_X7_isSet km_X7_41 ht0 rfl zv_X7 rfl ⟨rfl, rfl⟩ ⟨rfl, rfl⟩ rfl rfl (Nat.le_of_ble_eq_true rfl) ⟨Nat.zero_le _, Nat.zero_le _⟩ dX7_referenced_3 6 rfl [.int x1, .ref (b + t0)] rfl ?_
  refine r_iconst (v := 1) X rfl dX7_referenced_6 7 rfl ?_
  obtain ⟨x2, M3, e3, h⟩ := z_bd2 h
  refine r_callV (rest := []) X (tX7_fits hl G b t0 ht0 x1 1 M e3) zy_X7_fits zw_X7_fits km_X7_59 ht0 rfl zv_X7 rfl ⟨rfl, rfl⟩ ⟨rfl, rfl⟩ rfl rfl (Nat.le_of_ble_eq_true rfl) ⟨Nat.zero_le _, Nat.zero_le _⟩ dX7_referenced_7 10 rfl [.int x2] rfl ?_
  refine r_if_eq X dX7_referenced_10 28 (by decide) 13 rfl (fun c4 => ?_) (fun c4 => ?_)
  · have h := z_it c4 h
    refine r_iconst (v := 0) X rfl dX7_referenced_28 29 rfl ?_
    cases h
    exact r_iret X R rfl dX7_referenced_29
  · have h := z_ie c4 h
    refine r_aload_n X 0 rfl dX7_referenced_13 14 rfl ?_
    refine r_iconst (v := 0) X rfl dX7_referenced_14 15 rfl ?_
    refine r_sipush (v := 128) X rfl dX7_referenced_15 18 rfl ?_
    refine r_iload_n X 1 rfl dX7_referenced_18 19 rfl ?_
    refine r_imul X dX7_referenced_19 20 rfl ?_
    refine r_iadd X dX7_referenced_20 21 rfl ?_
    refine r_iconst (v := 0) X rfl dX7_referenced_21 22 rfl ?_
    obtain ⟨x5, M6, e6, h⟩ := z_bd2 h
    refine r_callV (rest := []) X (tX7_blocksIn hl G b t0 ht0 (0 + (128 * a1)) 0 M3 e6) zy_X7_blocksIn zw_X7_blocksIn km_X7_105 ht0 rfl zv_X7 rfl ⟨rfl, rfl⟩ ⟨rfl, rfl⟩ rfl rfl (Nat.le_of_ble_eq_true rfl) ⟨Nat.zero_le _, Nat.zero_le _⟩ dX7_referenced_22 25 rfl [.int x5] rfl ?_
    refine r_goto X dX7_referenced_25 29 (by decide) ?_
    cases h
    exact r_iret X R rfl dX7_referenced_29
set_option maxRecDepth 100000 in
set_option maxHeartbeats 1000000 in
theorem tX7_unique {l : Launch} (hl : l.stackTraces = false) (G : zG) (b : Nat) (t0 : Nat) (ht0 : z_kd t0 = 7) (a1 : Int32) (M : zM) {r9 : Int32} {M9 : zM} (h : fX7_unique t0 a1 M = some (r9, M9)) : z_MN l yX7_unique cX7_unique 2 (some .int) { frames := 2, cells := 0, slots := 0, locals := 43 } G b [.ref (b + t0), .int a1] M (some (.int r9)) M9 := by
  refine z_met (own := RX7) hl (by decide) rfl rfl (fun Γ hΓ X R => ?_)
  subst hΓ
  show GW Γ G b 0 0 M 0 [(0, .ref (b + t0)), (1, .int a1)] []
  unfold fX7_unique at h
  refine r_aload_n X 0 rfl dX7_unique_0 1 rfl ?_
  refine r_aload_n X 0 rfl dX7_unique_1 2 rfl ?_
  refine r_iload_n X 1 rfl dX7_unique_2 3 rfl ?_
  obtain ⟨x1, e1, h⟩ := z_bd h
  refine r_callV (rest := [.ref (b + t0)]) X (tX7_isSet hl G b t0 ht0 a1 M e1) zy_X7_isSet zw_X7_isSet km_X7_41 ht0 rfl zv_X7 rfl ⟨rfl, rfl⟩ ⟨rfl, rfl⟩ rfl rfl (Nat.le_of_ble_eq_true rfl) ⟨Nat.zero_le _, Nat.zero_le _⟩ dX7_unique_3 6 rfl [.int x1, .ref (b + t0)] rfl ?_
  refine r_iconst (v := 1) X rfl dX7_unique_6 7 rfl ?_
  obtain ⟨x2, M3, e3, h⟩ := z_bd2 h
  refine r_callV (rest := []) X (tX7_fits hl G b t0 ht0 x1 1 M e3) zy_X7_fits zw_X7_fits km_X7_59 ht0 rfl zv_X7 rfl ⟨rfl, rfl⟩ ⟨rfl, rfl⟩ rfl rfl (Nat.le_of_ble_eq_true rfl) ⟨Nat.zero_le _, Nat.zero_le _⟩ dX7_unique_7 10 rfl [.int x2] rfl ?_
  refine r_if_eq X dX7_unique_10 28 (by decide) 13 rfl (fun c4 => ?_) (fun c4 => ?_)
  · have h := z_it c4 h
    refine r_iconst (v := 0) X rfl dX7_unique_28 29 rfl ?_
    cases h
    exact r_iret X R rfl dX7_unique_29
  · have h := z_ie c4 h
    refine r_aload_n X 0 rfl dX7_unique_13 14 rfl ?_
    refine r_iconst (v := 0) X rfl dX7_unique_14 15 rfl ?_
    refine r_sipush (v := 128) X rfl dX7_unique_15 18 rfl ?_
    refine r_iload_n X 1 rfl dX7_unique_18 19 rfl ?_
    refine r_imul X dX7_unique_19 20 rfl ?_
    refine r_iadd X dX7_unique_20 21 rfl ?_
    refine r_iconst (v := 1) X rfl dX7_unique_21 22 rfl ?_
    obtain ⟨x5, M6, e6, h⟩ := z_bd2 h
    refine r_callV (rest := []) X (tX7_blocksIn hl G b t0 ht0 (0 + (128 * a1)) 1 M3 e6) zy_X7_blocksIn zw_X7_blocksIn km_X7_105 ht0 rfl zv_X7 rfl ⟨rfl, rfl⟩ ⟨rfl, rfl⟩ rfl rfl (Nat.le_of_ble_eq_true rfl) ⟨Nat.zero_le _, Nat.zero_le _⟩ dX7_unique_22 25 rfl [.int x5] rfl ?_
    refine r_goto X dX7_unique_25 29 (by decide) ?_
    cases h
    exact r_iret X R rfl dX7_unique_29
set_option maxRecDepth 100000 in
set_option maxHeartbeats 1000000 in
theorem tX7_uniqueOfSnapshot {l : Launch} (hl : l.stackTraces = false) (G : zG) (b : Nat) (t0 : Nat) (ht0 : z_kd t0 = 7) (a1 : Int32) (M : zM) {r9 : Int32} {M9 : zM} (h : fX7_uniqueOfSnapshot t0 a1 M = some (r9, M9)) : z_MN l yX7_uniqueOfSnapshot cX7_uniqueOfSnapshot 2 (some .int) { frames := 4, cells := 0, slots := 0, locals := 86 } G b [.ref (b + t0), .int a1] M (some (.int r9)) M9 := by
  refine z_met (own := RX7) hl (by decide) rfl rfl (fun Γ hΓ X R => ?_)
  subst hΓ
  show GW Γ G b 0 0 M 0 [(0, .ref (b + t0)), (1, .int a1)] []
  unfold fX7_uniqueOfSnapshot at h
  refine r_aload_n X 0 rfl dX7_uniqueOfSnapshot_0 1 rfl ?_
  refine r_iload_n X 1 rfl dX7_uniqueOfSnapshot_1 2 rfl ?_
  refine r_iconst (v := 0) X rfl dX7_uniqueOfSnapshot_2 3 rfl ?_
  refine r_iconst (v := 0) X rfl dX7_uniqueOfSnapshot_3 4 rfl ?_
  obtain ⟨x1, M2, e2, h⟩ := z_bd2 h
  refine r_callV (rest := []) X (tX7_isShot hl G b t0 ht0 a1 0 0 M e2) zy_X7_isShot zw_X7_isShot km_X7_86 ht0 rfl zv_X7 rfl ⟨rfl, rfl⟩ ⟨rfl, rfl⟩ rfl rfl (Nat.le_of_ble_eq_true rfl) ⟨Nat.zero_le _, Nat.zero_le _⟩ dX7_uniqueOfSnapshot_4 7 rfl [.int x1] rfl ?_
  refine r_if_eq X dX7_uniqueOfSnapshot_7 31 (by decide) 10 rfl (fun c3 => ?_) (fun c3 => ?_)
  · have h := z_it c3 h
    refine r_iconst (v := 0) X rfl dX7_uniqueOfSnapshot_31 32 rfl ?_
    cases h
    exact r_iret X R rfl dX7_uniqueOfSnapshot_32
  · have h := z_ie c3 h
    refine r_aload_n X 0 rfl dX7_uniqueOfSnapshot_10 11 rfl ?_
    refine r_sipush (v := 768) X rfl dX7_uniqueOfSnapshot_11 14 rfl ?_
    refine r_sipush (v := 128) X rfl dX7_uniqueOfSnapshot_14 17 rfl ?_
    refine r_aload_n X 0 rfl dX7_uniqueOfSnapshot_17 18 rfl ?_
    refine r_iload_n X 1 rfl dX7_uniqueOfSnapshot_18 19 rfl ?_
    obtain ⟨x4, e4, h⟩ := z_bd h
    refine r_callV (rest := [.int 128, .int 768, .ref (b + t0)]) X (tX7_slotOf hl G b t0 ht0 a1 M2 e4) zy_X7_slotOf zw_X7_slotOf km_X7_83 ht0 rfl zv_X7 rfl ⟨rfl, rfl⟩ ⟨rfl, rfl⟩ rfl rfl (Nat.le_of_ble_eq_true rfl) ⟨Nat.zero_le _, Nat.zero_le _⟩ dX7_uniqueOfSnapshot_19 22 rfl [.int x4, .int 128, .int 768, .ref (b + t0)] rfl ?_
    refine r_imul X dX7_uniqueOfSnapshot_22 23 rfl ?_
    refine r_iadd X dX7_uniqueOfSnapshot_23 24 rfl ?_
    refine r_iconst (v := 1) X rfl dX7_uniqueOfSnapshot_24 25 rfl ?_
    obtain ⟨x5, M6, e6, h⟩ := z_bd2 h
    refine r_callV (rest := []) X (tX7_blocksIn hl G b t0 ht0 (768 + (128 * x4)) 1 M2 e6) zy_X7_blocksIn zw_X7_blocksIn km_X7_105 ht0 rfl zv_X7 rfl ⟨rfl, rfl⟩ ⟨rfl, rfl⟩ rfl rfl (Nat.le_of_ble_eq_true rfl) ⟨Nat.zero_le _, Nat.zero_le _⟩ dX7_uniqueOfSnapshot_25 28 rfl [.int x5] rfl ?_
    refine r_goto X dX7_uniqueOfSnapshot_28 32 (by decide) ?_
    cases h
    exact r_iret X R rfl dX7_uniqueOfSnapshot_32
set_option maxRecDepth 100000 in
set_option maxHeartbeats 1000000 in
theorem tX7_newer {l : Launch} (hl : l.stackTraces = false) (G : zG) (b : Nat) (t0 : Nat) (ht0 : z_kd t0 = 7) (a1 : Int32) (a2 : Int32) (M : zM) {r9 : Int32} {M9 : zM} (h : fX7_newer t0 a1 a2 M = some (r9, M9)) : z_MN l yX7_newer cX7_newer 7 (some .int) { frames := 2, cells := 0, slots := 0, locals := 43 } G b [.ref (b + t0), .int a1, .int a2] M (some (.int r9)) M9 := by
  refine z_met (own := RX7) hl (by decide) rfl rfl (fun Γ hΓ X R => ?_)
  subst hΓ
  show GW Γ G b 0 0 M 0 [(0, .ref (b + t0)), (1, .int a1), (2, .int a2)] []
  unfold fX7_newer at h
  refine r_iconst (v := 0) X rfl dX7_newer_0 1 rfl ?_
  refine r_istore_n X dX7_newer_1 2 rfl [(0, .ref (b + t0)), (1, .int a1), (2, .int a2), (3, .int 0)] (by decide) [1, 2, 3, 0] rfl ?_
  refine r_aload_n X 0 rfl dX7_newer_2 3 rfl ?_
  refine r_aload_n X 0 rfl dX7_newer_3 4 rfl ?_
  refine r_iload_n X 1 rfl dX7_newer_4 5 rfl ?_
  obtain ⟨x1, e1, h⟩ := z_bd h
  refine r_callV (rest := [.ref (b + t0)]) X (tX7_isSet hl G b t0 ht0 a1 M e1) zy_X7_isSet zw_X7_isSet km_X7_41 ht0 rfl zv_X7 rfl ⟨rfl, rfl⟩ ⟨rfl, rfl⟩ rfl rfl (Nat.le_of_ble_eq_true rfl) ⟨Nat.zero_le _, Nat.zero_le _⟩ dX7_newer_5 8 rfl [.int x1, .ref (b + t0)] rfl ?_
  refine r_iconst (v := 1) X rfl dX7_newer_8 9 rfl ?_
  obtain ⟨x2, M3, e3, h⟩ := z_bd2 h
  refine r_callV (rest := []) X (tX7_fits hl G b t0 ht0 x1 1 M e3) zy_X7_fits zw_X7_fits km_X7_59 ht0 rfl zv_X7 rfl ⟨rfl, rfl⟩ ⟨rfl, rfl⟩ rfl rfl (Nat.le_of_ble_eq_true rfl) ⟨Nat.zero_le _, Nat.zero_le _⟩ dX7_newer_9 12 rfl [.int x2] rfl ?_
  refine r_istore X dX7_newer_12 14 rfl [(0, .ref (b + t0)), (1, .int a1), (2, .int a2), (3, .int 0), (4, .int x2)] (by decide) [1, 2, 3, 4, 0] rfl ?_
  refine r_iconst (v := 0) X rfl dX7_newer_14 15 rfl ?_
  refine r_istore X dX7_newer_15 17 rfl [(0, .ref (b + t0)), (1, .int a1), (2, .int a2), (3, .int 0), (4, .int x2), (5, .int 0)] (by decide) [1, 2, 3, 4, 5, 0] rfl ?_
  obtain ⟨x6, hL7, h⟩ := z_bd h
  have hK7 : GW Γ G b 0 0 M3 83 [(3, .int x6)] [] := by
    refine r_iload_n X 0 rfl dX7_newer_83 84 rfl ?_
    cases h
    exact r_iret X R rfl dX7_newer_84
  clear h
  refine z_loopP (fun (s : (Int32 × Int32)) => GW Γ G b 0 0 M3 17 [(0, .ref (b + t0)), (1, .int a1), (2, .int a2), (3, .int s.1), (4, .int x2), (5, .int s.2)] []) (fun s q7 hb hP7 hx7 => ?_) _ _ hL7
  obtain ⟨x4, x5⟩ := s
  have h : fX7_newer_L1 t0 a1 a2 x2 M3 x4 x5 = some q7 := hb
  unfold fX7_newer_L1 at h
  refine r_iload X 5 rfl dX7_newer_17 19 rfl ?_
  refine r_sipush (v := 128) X rfl dX7_newer_19 22 rfl ?_
  refine r_icmp_ge X dX7_newer_22 83 (by decide) 25 rfl (fun c8 => ?_) (fun c8 => ?_)
  · have h := z_it c8 h
    refine r_sub [(3, .int x4)] [3] rfl ?_
    have e := hx7 _ (Option.some.inj h).symm
    cases e
    exact hK7
  · have h := z_ie c8 h
    refine r_iload X 4 rfl dX7_newer_25 27 rfl ?_
    refine r_if_eq X dX7_newer_27 83 (by decide) 30 rfl (fun c9 => ?_) (fun c9 => ?_)
    · have h := z_it c9 h
      refine r_sub [(3, .int x4)] [3] rfl ?_
      have e := hx7 _ (Option.some.inj h).symm
      cases e
      exact hK7
    · have h := z_ie c9 h
      refine r_aload_n X 0 rfl dX7_newer_30 31 rfl ?_
      refine r_get (v := .ref (b + (t0 + 1))) X ht0 rfl zv_X7 zi_X7 rfl kf_X7_7 rfl rfl dX7_newer_31 34 rfl ?_
      refine r_iconst (v := 0) X rfl dX7_newer_34 35 rfl ?_
      refine r_sipush (v := 128) X rfl dX7_newer_35 38 rfl ?_
      refine r_iload_n X 1 rfl dX7_newer_38 39 rfl ?_
      refine r_imul X dX7_newer_39 40 rfl ?_
      refine r_iadd X dX7_newer_40 41 rfl ?_
      refine r_iload X 5 rfl dX7_newer_41 43 rfl ?_
      refine r_iadd X dX7_newer_43 44 rfl ?_
      obtain ⟨x10, e10, h⟩ := z_bd h
      refine r_iaload X (zk_7_0 ht0) (zn_7_0 ht0) e10 dX7_newer_44 45 rfl ?_
      refine r_iconst (v := 1) X rfl dX7_newer_45 46 rfl ?_
      refine r_isub X dX7_newer_46 47 rfl ?_
      refine r_istore X dX7_newer_47 49 rfl [(0, .ref (b + t0)), (1, .int a1), (2, .int a2), (3, .int x4), (4, .int x2), (5, .int x5), (6, .int (x10 - 1))] (by decide) [1, 2, 3, 4, 5, 6, 0] rfl ?_
      refine r_iload_n X 3 rfl dX7_newer_49 50 rfl ?_
      refine r_iload X 6 rfl dX7_newer_50 52 rfl ?_
      refine r_if_lt X dX7_newer_52 74 (by decide) 55 rfl (fun c11 => ?_) (fun c11 => ?_)
      · have h := z_it c11 h
        refine r_iconst (v := 0) X rfl dX7_newer_74 75 rfl ?_
        refine r_iadd X dX7_newer_75 76 rfl ?_
        refine r_istore_n X dX7_newer_76 77 rfl [(0, .ref (b + t0)), (1, .int a1), (2, .int a2), (3, .int (x4 + 0)), (4, .int x2), (5, .int x5)] (by decide) [1, 2, 3, 0, 4, 5] rfl ?_
        refine r_iinc X dX7_newer_77 80 rfl [(0, .ref (b + t0)), (1, .int a1), (2, .int a2), (3, .int (x4 + 0)), (4, .int x2), (5, .int (x5 + 1))] (by decide) 5 rfl (x5 + 1) rfl [1, 2, 3, 4, 5, 0] rfl ?_
        refine r_goto X dX7_newer_80 17 (by decide) ?_
        exact hP7 ((x4 + 0), (x5 + 1)) (Option.some.inj h).symm
      · have h := z_ie c11 h
        refine r_aload_n X 0 rfl dX7_newer_55 56 rfl ?_
        refine r_get (v := .ref (b + (t0 + 1))) X ht0 rfl zv_X7 zi_X7 rfl kf_X7_7 rfl rfl dX7_newer_56 59 rfl ?_
        refine r_sipush (v := 2558) X rfl dX7_newer_59 62 rfl ?_
        refine r_iload X 6 rfl dX7_newer_62 64 rfl ?_
        refine r_iadd X dX7_newer_64 65 rfl ?_
        obtain ⟨x12, e12, h⟩ := z_bd h
        refine r_iaload X (zk_7_0 ht0) (zn_7_0 ht0) e12 dX7_newer_65 66 rfl ?_
        refine r_iload_n X 2 rfl dX7_newer_66 67 rfl ?_
        refine r_icmp_le X dX7_newer_67 74 (by decide) 70 rfl (fun c13 => ?_) (fun c13 => ?_)
        · have h := z_it c13 h
          refine r_iconst (v := 0) X rfl dX7_newer_74 75 rfl ?_
          refine r_iadd X dX7_newer_75 76 rfl ?_
          refine r_istore_n X dX7_newer_76 77 rfl [(0, .ref (b + t0)), (1, .int a1), (2, .int a2), (3, .int (x4 + 0)), (4, .int x2), (5, .int x5)] (by decide) [1, 2, 3, 0, 4, 5] rfl ?_
          refine r_iinc X dX7_newer_77 80 rfl [(0, .ref (b + t0)), (1, .int a1), (2, .int a2), (3, .int (x4 + 0)), (4, .int x2), (5, .int (x5 + 1))] (by decide) 5 rfl (x5 + 1) rfl [1, 2, 3, 4, 5, 0] rfl ?_
          refine r_goto X dX7_newer_80 17 (by decide) ?_
          exact hP7 ((x4 + 0), (x5 + 1)) (Option.some.inj h).symm
        · have h := z_ie c13 h
          refine r_iconst (v := 1) X rfl dX7_newer_70 71 rfl ?_
          refine r_goto X dX7_newer_71 75 (by decide) ?_
          refine r_iadd X dX7_newer_75 76 rfl ?_
          refine r_istore_n X dX7_newer_76 77 rfl [(0, .ref (b + t0)), (1, .int a1), (2, .int a2), (3, .int (x4 + 1)), (4, .int x2), (5, .int x5)] (by decide) [1, 2, 3, 0, 4, 5] rfl ?_
          refine r_iinc X dX7_newer_77 80 rfl [(0, .ref (b + t0)), (1, .int a1), (2, .int a2), (3, .int (x4 + 1)), (4, .int x2), (5, .int (x5 + 1))] (by decide) 5 rfl (x5 + 1) rfl [1, 2, 3, 4, 5, 0] rfl ?_
          refine r_goto X dX7_newer_80 17 (by decide) ?_
          exact hP7 ((x4 + 1), (x5 + 1)) (Option.some.inj h).symm
set_option maxRecDepth 100000 in
set_option maxHeartbeats 1000000 in
theorem tX7_birth {l : Launch} (hl : l.stackTraces = false) (G : zG) (b : Nat) (t0 : Nat) (ht0 : z_kd t0 = 7) (a1 : Int32) (M : zM) {r9 : Int32} {M9 : zM} (h : fX7_birth t0 a1 M = some (r9, M9)) : z_MN l yX7_birth cX7_birth 3 (some .int) { frames := 1, cells := 0, slots := 0, locals := 22 } G b [.ref (b + t0), .int a1] M (some (.int r9)) M9 := by
  refine z_met (own := RX7) hl (by decide) rfl rfl (fun Γ hΓ X R => ?_)
  subst hΓ
  show GW Γ G b 0 0 M 0 [(0, .ref (b + t0)), (1, .int a1)] []
  unfold fX7_birth at h
  refine r_iload_n X 1 rfl dX7_birth_0 1 rfl ?_
  refine r_iconst (v := 0) X rfl dX7_birth_1 2 rfl ?_
  refine r_bipush (v := 127) X rfl dX7_birth_2 4 rfl ?_
  obtain ⟨x1, e1, h⟩ := z_bd h
  refine r_callS (rest := []) X (tX7_in hl G b a1 0 127 M e1) zy_X7_in zs_X7_in km_X7_26 rfl ⟨rfl, rfl⟩ ⟨rfl, rfl⟩ rfl rfl (Nat.le_of_ble_eq_true rfl) ⟨Nat.zero_le _, Nat.zero_le _⟩ dX7_birth_4 7 rfl [.int x1] rfl ?_
  refine r_istore_n X dX7_birth_7 8 rfl [(0, .ref (b + t0)), (1, .int a1), (2, .int x1)] (by decide) [1, 2, 0] rfl ?_
  refine r_aload_n X 0 rfl dX7_birth_8 9 rfl ?_
  refine r_iload_n X 2 rfl dX7_birth_9 10 rfl ?_
  refine r_iload_n X 2 rfl dX7_birth_10 11 rfl ?_
  obtain ⟨j3, hT3, h⟩ := z_bd h
  have hJ3 : GW Γ G b 0 0 M 27 [(0, .ref (b + t0)), (1, .int a1)] [.int j3, .int x1, .ref (b + t0)] := by
    obtain ⟨x4, M5, e5, h⟩ := z_bd2 h
    refine r_callV (rest := []) X (tX7_fits hl G b t0 ht0 x1 j3 M e5) zy_X7_fits zw_X7_fits km_X7_59 ht0 rfl zv_X7 rfl ⟨rfl, rfl⟩ ⟨rfl, rfl⟩ rfl rfl (Nat.le_of_ble_eq_true rfl) ⟨Nat.zero_le _, Nat.zero_le _⟩ dX7_birth_27 30 rfl [.int x4] rfl ?_
    refine r_if_eq X dX7_birth_30 46 (by decide) 33 rfl (fun c6 => ?_) (fun c6 => ?_)
    · have h := z_it c6 h
      refine r_iconst (v := 0) X rfl dX7_birth_46 47 rfl ?_
      cases h
      exact r_iret X R rfl dX7_birth_47
    · have h := z_ie c6 h
      refine r_aload_n X 0 rfl dX7_birth_33 34 rfl ?_
      refine r_get (v := .ref (b + (t0 + 1))) X ht0 rfl zv_X7 zi_X7 rfl kf_X7_7 rfl rfl dX7_birth_34 37 rfl ?_
      refine r_sipush (v := 2558) X rfl dX7_birth_37 40 rfl ?_
      refine r_iload_n X 1 rfl dX7_birth_40 41 rfl ?_
      refine r_iadd X dX7_birth_41 42 rfl ?_
      obtain ⟨x7, e7, h⟩ := z_bd h
      refine r_iaload X (zk_7_0 ht0) (zn_7_0 ht0) e7 dX7_birth_42 43 rfl ?_
      refine r_goto X dX7_birth_43 47 (by decide) ?_
      cases h
      exact r_iret X R rfl dX7_birth_47
  have h := hT3
  refine r_if_eq X dX7_birth_11 26 (by decide) 14 rfl (fun c2 => ?_) (fun c2 => ?_)
  · have h := z_it c2 h
    refine r_iconst (v := 0) X rfl dX7_birth_26 27 rfl ?_
    refine r_sub [(0, .ref (b + t0)), (1, .int a1)] [0, 1] rfl ?_
    cases h
    exact hJ3
  · have h := z_ie c2 h
    refine r_aload_n X 0 rfl dX7_birth_14 15 rfl ?_
    refine r_iload_n X 1 rfl dX7_birth_15 16 rfl ?_
    obtain ⟨x8, e8, h⟩ := z_bd h
    refine r_callV (rest := [.int x1, .ref (b + t0)]) X (tX7_isAllocated hl G b t0 ht0 a1 M e8) zy_X7_isAllocated zw_X7_isAllocated km_X7_70 ht0 rfl zv_X7 rfl ⟨rfl, rfl⟩ ⟨rfl, rfl⟩ rfl rfl (Nat.le_of_ble_eq_true rfl) ⟨Nat.zero_le _, Nat.zero_le _⟩ dX7_birth_16 19 rfl [.int x8, .int x1, .ref (b + t0)] rfl ?_
    refine r_if_eq X dX7_birth_19 26 (by decide) 22 rfl (fun c9 => ?_) (fun c9 => ?_)
    · have h := z_it c9 h
      refine r_iconst (v := 0) X rfl dX7_birth_26 27 rfl ?_
      refine r_sub [(0, .ref (b + t0)), (1, .int a1)] [0, 1] rfl ?_
      cases h
      exact hJ3
    · have h := z_ie c9 h
      refine r_iconst (v := 1) X rfl dX7_birth_22 23 rfl ?_
      refine r_goto X dX7_birth_23 27 (by decide) ?_
      refine r_sub [(0, .ref (b + t0)), (1, .int a1)] [0, 1] rfl ?_
      cases h
      exact hJ3
set_option maxRecDepth 100000 in
set_option maxHeartbeats 1000000 in
theorem tX7_references {l : Launch} (hl : l.stackTraces = false) (G : zG) (b : Nat) (t0 : Nat) (ht0 : z_kd t0 = 7) (a1 : Int32) (M : zM) {r9 : Int32} {M9 : zM} (h : fX7_references t0 a1 M = some (r9, M9)) : z_MN l yX7_references cX7_references 2 (some .int) { frames := 1, cells := 0, slots := 0, locals := 22 } G b [.ref (b + t0), .int a1] M (some (.int r9)) M9 := by
  refine z_met (own := RX7) hl (by decide) rfl rfl (fun Γ hΓ X R => ?_)
  subst hΓ
  show GW Γ G b 0 0 M 0 [(0, .ref (b + t0)), (1, .int a1)] []
  unfold fX7_references at h
  refine r_aload_n X 0 rfl dX7_references_0 1 rfl ?_
  refine r_iload_n X 1 rfl dX7_references_1 2 rfl ?_
  refine r_iconst (v := 0) X rfl dX7_references_2 3 rfl ?_
  refine r_bipush (v := 127) X rfl dX7_references_3 5 rfl ?_
  obtain ⟨x1, e1, h⟩ := z_bd h
  refine r_callS (rest := [.ref (b + t0)]) X (tX7_in hl G b a1 0 127 M e1) zy_X7_in zs_X7_in km_X7_26 rfl ⟨rfl, rfl⟩ ⟨rfl, rfl⟩ rfl rfl (Nat.le_of_ble_eq_true rfl) ⟨Nat.zero_le _, Nat.zero_le _⟩ dX7_references_5 8 rfl [.int x1, .ref (b + t0)] rfl ?_
  refine r_iconst (v := 1) X rfl dX7_references_8 9 rfl ?_
  obtain ⟨x2, M3, e3, h⟩ := z_bd2 h
  refine r_callV (rest := []) X (tX7_fits hl G b t0 ht0 x1 1 M e3) zy_X7_fits zw_X7_fits km_X7_59 ht0 rfl zv_X7 rfl ⟨rfl, rfl⟩ ⟨rfl, rfl⟩ rfl rfl (Nat.le_of_ble_eq_true rfl) ⟨Nat.zero_le _, Nat.zero_le _⟩ dX7_references_9 12 rfl [.int x2] rfl ?_
  refine r_if_eq X dX7_references_12 28 (by decide) 15 rfl (fun c4 => ?_) (fun c4 => ?_)
  · have h := z_it c4 h
    refine r_iconst (v := 0) X rfl dX7_references_28 29 rfl ?_
    cases h
    exact r_iret X R rfl dX7_references_29
  · have h := z_ie c4 h
    refine r_aload_n X 0 rfl dX7_references_15 16 rfl ?_
    refine r_get (v := .ref (b + (t0 + 1))) X ht0 rfl zv_X7 zi_X7 rfl kf_X7_7 rfl rfl dX7_references_16 19 rfl ?_
    refine r_sipush (v := 2814) X rfl dX7_references_19 22 rfl ?_
    refine r_iload_n X 1 rfl dX7_references_22 23 rfl ?_
    refine r_iadd X dX7_references_23 24 rfl ?_
    obtain ⟨x5, e5, h⟩ := z_bd h
    refine r_iaload X (zk_7_0 ht0) (zn_7_0 ht0) e5 dX7_references_24 25 rfl ?_
    refine r_goto X dX7_references_25 29 (by decide) ?_
    cases h
    exact r_iret X R rfl dX7_references_29
set_option maxRecDepth 100000 in
set_option maxHeartbeats 1000000 in
theorem tX7_free {l : Launch} (hl : l.stackTraces = false) (G : zG) (b : Nat) (t0 : Nat) (ht0 : z_kd t0 = 7) (M : zM) {r9 : Int32} {M9 : zM} (h : fX7_free t0 M = some (r9, M9)) : z_MN l yX7_free cX7_free 1 (some .int) { frames := 2, cells := 0, slots := 0, locals := 45 } G b [.ref (b + t0)] M (some (.int r9)) M9 := by
  refine z_met (own := RX7) hl (by decide) rfl rfl (fun Γ hΓ X R => ?_)
  subst hΓ
  show GW Γ G b 0 0 M 0 [(0, .ref (b + t0))] []
  unfold fX7_free at h
  refine r_aload_n X 0 rfl dX7_free_0 1 rfl ?_
  refine r_iconst (v := 0) X rfl dX7_free_1 2 rfl ?_
  obtain ⟨M1, e1, h⟩ := z_bd h
  refine r_put X ht0 rfl zv_X7 zi_X7 rfl kf_X7_22 rfl tyX7_ok nmX7 rfl rfl rfl rfl rfl rfl (Option.some.inj e1) dX7_free_2 5 rfl ?_
  refine r_aload_n X 0 rfl dX7_free_5 6 rfl ?_
  refine r_iconst (v := 0) X rfl dX7_free_6 7 rfl ?_
  refine r_sipush (v := 128) X rfl dX7_free_7 10 rfl ?_
  obtain ⟨x2, e2, h⟩ := z_bd h
  refine r_callV (rest := []) X (tX7_countFree hl G b t0 ht0 0 128 M1 e2) zy_X7_countFree zw_X7_countFree km_X7_37 ht0 rfl zv_X7 rfl ⟨rfl, rfl⟩ ⟨rfl, rfl⟩ rfl rfl (Nat.le_of_ble_eq_true rfl) ⟨Nat.zero_le _, Nat.zero_le _⟩ dX7_free_10 13 rfl [.int x2] rfl ?_
  cases h
  exact r_iret X R rfl dX7_free_13
set_option maxRecDepth 100000 in
set_option maxHeartbeats 1000000 in
theorem tX7_pending {l : Launch} (hl : l.stackTraces = false) (G : zG) (b : Nat) (t0 : Nat) (ht0 : z_kd t0 = 7) (M : zM) {r9 : Int32} {M9 : zM} (h : fX7_pending t0 M = some (r9, M9)) : z_MN l yX7_pending cX7_pending 3 (some .int) { frames := 0, cells := 0, slots := 0, locals := 0 } G b [.ref (b + t0)] M (some (.int r9)) M9 := by
  refine z_met (own := RX7) hl (by decide) rfl rfl (fun Γ hΓ X R => ?_)
  subst hΓ
  show GW Γ G b 0 0 M 0 [(0, .ref (b + t0))] []
  unfold fX7_pending at h
  refine r_aload_n X 0 rfl dX7_pending_0 1 rfl ?_
  refine r_iconst (v := 0) X rfl dX7_pending_1 2 rfl ?_
  obtain ⟨M1, e1, h⟩ := z_bd h
  refine r_put X ht0 rfl zv_X7 zi_X7 rfl kf_X7_22 rfl tyX7_ok nmX7 rfl rfl rfl rfl rfl rfl (Option.some.inj e1) dX7_pending_2 5 rfl ?_
  refine r_iconst (v := 0) X rfl dX7_pending_5 6 rfl ?_
  refine r_istore_n X dX7_pending_6 7 rfl [(0, .ref (b + t0)), (1, .int 0)] (by decide) [1, 0] rfl ?_
  refine r_iconst (v := 0) X rfl dX7_pending_7 8 rfl ?_
  refine r_istore_n X dX7_pending_8 9 rfl [(0, .ref (b + t0)), (1, .int 0), (2, .int 0)] (by decide) [1, 2, 0] rfl ?_
  obtain ⟨x4, hL5, h⟩ := z_bd h
  have hK5 : GW Γ G b 0 0 M1 35 [(1, .int x4)] [] := by
    refine r_iload_n X 0 rfl dX7_pending_35 36 rfl ?_
    cases h
    exact r_iret X R rfl dX7_pending_36
  clear h
  refine z_loopP (fun (s : (Int32 × Int32)) => GW Γ G b 0 0 M1 9 [(0, .ref (b + t0)), (1, .int s.1), (2, .int s.2)] []) (fun s q5 hb hP5 hx5 => ?_) _ _ hL5
  obtain ⟨x2, x3⟩ := s
  have h : fX7_pending_L1 t0 M1 x2 x3 = some q5 := hb
  unfold fX7_pending_L1 at h
  refine r_iload_n X 2 rfl dX7_pending_9 10 rfl ?_
  refine r_sipush (v := 128) X rfl dX7_pending_10 13 rfl ?_
  refine r_icmp_ge X dX7_pending_13 35 (by decide) 16 rfl (fun c6 => ?_) (fun c6 => ?_)
  · have h := z_it c6 h
    refine r_sub [(1, .int x2)] [1] rfl ?_
    have e := hx5 _ (Option.some.inj h).symm
    cases e
    exact hK5
  · have h := z_ie c6 h
    refine r_iload_n X 1 rfl dX7_pending_16 17 rfl ?_
    refine r_aload_n X 0 rfl dX7_pending_17 18 rfl ?_
    refine r_get (v := .ref (b + (t0 + 1))) X ht0 rfl zv_X7 zi_X7 rfl kf_X7_7 rfl rfl dX7_pending_18 21 rfl ?_
    refine r_sipush (v := 2686) X rfl dX7_pending_21 24 rfl ?_
    refine r_iload_n X 2 rfl dX7_pending_24 25 rfl ?_
    refine r_iadd X dX7_pending_25 26 rfl ?_
    obtain ⟨x7, e7, h⟩ := z_bd h
    refine r_iaload X (zk_7_0 ht0) (zn_7_0 ht0) e7 dX7_pending_26 27 rfl ?_
    refine r_iadd X dX7_pending_27 28 rfl ?_
    refine r_istore_n X dX7_pending_28 29 rfl [(0, .ref (b + t0)), (1, .int (x2 + x7)), (2, .int x3)] (by decide) [1, 0, 2] rfl ?_
    refine r_iinc X dX7_pending_29 32 rfl [(0, .ref (b + t0)), (1, .int (x2 + x7)), (2, .int (x3 + 1))] (by decide) 2 rfl (x3 + 1) rfl [1, 2, 0] rfl ?_
    refine r_goto X dX7_pending_32 9 (by decide) ?_
    exact hP5 ((x2 + x7), (x3 + 1)) (Option.some.inj h).symm
set_option maxRecDepth 100000 in
set_option maxHeartbeats 1000000 in
theorem tX7_freeIn {l : Launch} (hl : l.stackTraces = false) (G : zG) (b : Nat) (t0 : Nat) (ht0 : z_kd t0 = 7) (a1 : Int32) (M : zM) {r9 : Int32} {M9 : zM} (h : fX7_freeIn t0 a1 M = some (r9, M9)) : z_MN l yX7_freeIn cX7_freeIn 2 (some .int) { frames := 2, cells := 0, slots := 0, locals := 45 } G b [.ref (b + t0), .int a1] M (some (.int r9)) M9 := by
  refine z_met (own := RX7) hl (by decide) rfl rfl (fun Γ hΓ X R => ?_)
  subst hΓ
  show GW Γ G b 0 0 M 0 [(0, .ref (b + t0)), (1, .int a1)] []
  unfold fX7_freeIn at h
  refine r_aload_n X 0 rfl dX7_freeIn_0 1 rfl ?_
  refine r_iload_n X 1 rfl dX7_freeIn_1 2 rfl ?_
  obtain ⟨x1, M2, e2, h⟩ := z_bd2 h
  refine r_callV (rest := []) X (tX7_isRegion hl G b t0 ht0 a1 M e2) zy_X7_isRegion zw_X7_isRegion km_X7_109 ht0 rfl zv_X7 rfl ⟨rfl, rfl⟩ ⟨rfl, rfl⟩ rfl rfl (Nat.le_of_ble_eq_true rfl) ⟨Nat.zero_le _, Nat.zero_le _⟩ dX7_freeIn_2 5 rfl [.int x1] rfl ?_
  refine r_if_eq X dX7_freeIn_5 26 (by decide) 8 rfl (fun c3 => ?_) (fun c3 => ?_)
  · have h := z_it c3 h
    refine r_iconst (v := 0) X rfl dX7_freeIn_26 27 rfl ?_
    cases h
    exact r_iret X R rfl dX7_freeIn_27
  · have h := z_ie c3 h
    refine r_aload_n X 0 rfl dX7_freeIn_8 9 rfl ?_
    refine r_bipush (v := 32) X rfl dX7_freeIn_9 11 rfl ?_
    refine r_iload_n X 1 rfl dX7_freeIn_11 12 rfl ?_
    refine r_imul X dX7_freeIn_12 13 rfl ?_
    refine r_bipush (v := 32) X rfl dX7_freeIn_13 15 rfl ?_
    refine r_iload_n X 1 rfl dX7_freeIn_15 16 rfl ?_
    refine r_imul X dX7_freeIn_16 17 rfl ?_
    refine r_bipush (v := 32) X rfl dX7_freeIn_17 19 rfl ?_
    refine r_iadd X dX7_freeIn_19 20 rfl ?_
    obtain ⟨x4, e4, h⟩ := z_bd h
    refine r_callV (rest := []) X (tX7_countFree hl G b t0 ht0 (32 * a1) ((32 * a1) + 32) M2 e4) zy_X7_countFree zw_X7_countFree km_X7_37 ht0 rfl zv_X7 rfl ⟨rfl, rfl⟩ ⟨rfl, rfl⟩ rfl rfl (Nat.le_of_ble_eq_true rfl) ⟨Nat.zero_le _, Nat.zero_le _⟩ dX7_freeIn_20 23 rfl [.int x4] rfl ?_
    refine r_goto X dX7_freeIn_23 27 (by decide) ?_
    cases h
    exact r_iret X R rfl dX7_freeIn_27
set_option maxRecDepth 100000 in
set_option maxHeartbeats 1000000 in
theorem tX7_logEntries {l : Launch} (hl : l.stackTraces = false) (G : zG) (b : Nat) (t0 : Nat) (ht0 : z_kd t0 = 7) (a1 : Int32) (M : zM) {r9 : Int32} {M9 : zM} (h : fX7_logEntries t0 a1 M = some (r9, M9)) : z_MN l yX7_logEntries cX7_logEntries 2 (some .int) { frames := 2, cells := 0, slots := 0, locals := 43 } G b [.ref (b + t0), .int a1] M (some (.int r9)) M9 := by
  refine z_met (own := RX7) hl (by decide) rfl rfl (fun Γ hΓ X R => ?_)
  subst hΓ
  show GW Γ G b 0 0 M 0 [(0, .ref (b + t0)), (1, .int a1)] []
  unfold fX7_logEntries at h
  refine r_aload_n X 0 rfl dX7_logEntries_0 1 rfl ?_
  refine r_iload_n X 1 rfl dX7_logEntries_1 2 rfl ?_
  obtain ⟨x1, M2, e2, h⟩ := z_bd2 h
  refine r_callV (rest := []) X (tX7_isRegion hl G b t0 ht0 a1 M e2) zy_X7_isRegion zw_X7_isRegion km_X7_109 ht0 rfl zv_X7 rfl ⟨rfl, rfl⟩ ⟨rfl, rfl⟩ rfl rfl (Nat.le_of_ble_eq_true rfl) ⟨Nat.zero_le _, Nat.zero_le _⟩ dX7_logEntries_2 5 rfl [.int x1] rfl ?_
  refine r_if_eq X dX7_logEntries_5 21 (by decide) 8 rfl (fun c3 => ?_) (fun c3 => ?_)
  · have h := z_it c3 h
    refine r_iconst (v := 0) X rfl dX7_logEntries_21 22 rfl ?_
    cases h
    exact r_iret X R rfl dX7_logEntries_22
  · have h := z_ie c3 h
    refine r_aload_n X 0 rfl dX7_logEntries_8 9 rfl ?_
    refine r_get (v := .ref (b + (t0 + 1))) X ht0 rfl zv_X7 zi_X7 rfl kf_X7_7 rfl rfl dX7_logEntries_9 12 rfl ?_
    refine r_sipush (v := 3390) X rfl dX7_logEntries_12 15 rfl ?_
    refine r_iload_n X 1 rfl dX7_logEntries_15 16 rfl ?_
    refine r_iadd X dX7_logEntries_16 17 rfl ?_
    obtain ⟨x4, e4, h⟩ := z_bd h
    refine r_iaload X (zk_7_0 ht0) (zn_7_0 ht0) e4 dX7_logEntries_17 18 rfl ?_
    refine r_goto X dX7_logEntries_18 22 (by decide) ?_
    cases h
    exact r_iret X R rfl dX7_logEntries_22
set_option maxRecDepth 100000 in
set_option maxHeartbeats 1000000 in
theorem tX7_runAt {l : Launch} (hl : l.stackTraces = false) (G : zG) (b : Nat) (t0 : Nat) (ht0 : z_kd t0 = 7) (a1 : Int32) (a2 : Int32) (M : zM) {r9 : Int32} {M9 : zM} (h : fX7_runAt t0 a1 a2 M = some (r9, M9)) : z_MN l yX7_runAt cX7_runAt 4 (some .int) { frames := 2, cells := 0, slots := 0, locals := 44 } G b [.ref (b + t0), .int a1, .int a2] M (some (.int r9)) M9 := by
  refine z_met (own := RX7) hl (by decide) rfl rfl (fun Γ hΓ X R => ?_)
  subst hΓ
  show GW Γ G b 0 0 M 0 [(0, .ref (b + t0)), (1, .int a1), (2, .int a2)] []
  unfold fX7_runAt at h
  refine r_aload_n X 0 rfl dX7_runAt_0 1 rfl ?_
  refine r_iload_n X 1 rfl dX7_runAt_1 2 rfl ?_
  refine r_iload_n X 2 rfl dX7_runAt_2 3 rfl ?_
  obtain ⟨x1, M2, e2, h⟩ := z_bd2 h
  refine r_callV (rest := []) X (tX7_isEntry hl G b t0 ht0 a1 a2 M e2) zy_X7_isEntry zw_X7_isEntry km_X7_112 ht0 rfl zv_X7 rfl ⟨rfl, rfl⟩ ⟨rfl, rfl⟩ rfl rfl (Nat.le_of_ble_eq_true rfl) ⟨Nat.zero_le _, Nat.zero_le _⟩ dX7_runAt_3 6 rfl [.int x1] rfl ?_
  refine r_if_ne X dX7_runAt_6 11 (by decide) 9 rfl (fun c3 => ?_) (fun c3 => ?_)
  · have h := z_ie c3 h
    refine r_aload_n X 0 rfl dX7_runAt_11 12 rfl ?_
    refine r_get (v := .ref (b + (t0 + 1))) X ht0 rfl zv_X7 zi_X7 rfl kf_X7_7 rfl rfl dX7_runAt_12 15 rfl ?_
    refine r_sipush (v := 3070) X rfl dX7_runAt_15 18 rfl ?_
    refine r_bipush (v := 80) X rfl dX7_runAt_18 20 rfl ?_
    refine r_iload_n X 1 rfl dX7_runAt_20 21 rfl ?_
    refine r_imul X dX7_runAt_21 22 rfl ?_
    refine r_iadd X dX7_runAt_22 23 rfl ?_
    refine r_iload_n X 2 rfl dX7_runAt_23 24 rfl ?_
    refine r_iadd X dX7_runAt_24 25 rfl ?_
    obtain ⟨x4, e4, h⟩ := z_bd h
    refine r_iaload X (zk_7_0 ht0) (zn_7_0 ht0) e4 dX7_runAt_25 26 rfl ?_
    refine r_istore_n X dX7_runAt_26 27 rfl [(3, .int x4)] (by decide) [0] rfl ?_
    refine r_iload_n X 0 rfl dX7_runAt_27 28 rfl ?_
    refine r_if_ge X dX7_runAt_28 36 (by decide) 31 rfl (fun c5 => ?_) (fun c5 => ?_)
    · have h := z_it c5 h
      refine r_iload_n X 0 rfl dX7_runAt_36 37 rfl ?_
      cases h
      exact r_iret X R rfl dX7_runAt_37
    · have h := z_ie c5 h
      refine r_iload_n X 0 rfl dX7_runAt_31 32 rfl ?_
      refine r_ineg X dX7_runAt_32 33 rfl ?_
      refine r_goto X dX7_runAt_33 37 (by decide) ?_
      cases h
      exact r_iret X R rfl dX7_runAt_37
  · have h := z_it c3 h
    refine r_iconst (v := 0) X rfl dX7_runAt_9 10 rfl ?_
    cases h
    exact r_iret X R rfl dX7_runAt_10
set_option maxRecDepth 100000 in
set_option maxHeartbeats 1000000 in
theorem tX7_allocates {l : Launch} (hl : l.stackTraces = false) (G : zG) (b : Nat) (t0 : Nat) (ht0 : z_kd t0 = 7) (a1 : Int32) (a2 : Int32) (M : zM) {r9 : Int32} {M9 : zM} (h : fX7_allocates t0 a1 a2 M = some (r9, M9)) : z_MN l yX7_allocates cX7_allocates 3 (some .boolean) { frames := 2, cells := 0, slots := 0, locals := 44 } G b [.ref (b + t0), .int a1, .int a2] M (some (.int r9)) M9 := by
  refine z_met (own := RX7) hl (by decide) rfl rfl (fun Γ hΓ X R => ?_)
  subst hΓ
  show GW Γ G b 0 0 M 0 [(0, .ref (b + t0)), (1, .int a1), (2, .int a2)] []
  unfold fX7_allocates at h
  refine r_aload_n X 0 rfl dX7_allocates_0 1 rfl ?_
  refine r_iload_n X 1 rfl dX7_allocates_1 2 rfl ?_
  refine r_iload_n X 2 rfl dX7_allocates_2 3 rfl ?_
  obtain ⟨x1, M2, e2, h⟩ := z_bd2 h
  refine r_callV (rest := []) X (tX7_isEntry hl G b t0 ht0 a1 a2 M e2) zy_X7_isEntry zw_X7_isEntry km_X7_112 ht0 rfl zv_X7 rfl ⟨rfl, rfl⟩ ⟨rfl, rfl⟩ rfl rfl (Nat.le_of_ble_eq_true rfl) ⟨Nat.zero_le _, Nat.zero_le _⟩ dX7_allocates_3 6 rfl [.int x1] rfl ?_
  refine r_if_eq X dX7_allocates_6 31 (by decide) 9 rfl (fun c3 => ?_) (fun c3 => ?_)
  · have h := z_it c3 h
    refine r_iconst (v := 0) X rfl dX7_allocates_31 32 rfl ?_
    cases h
    exact r_iret X R rfl dX7_allocates_32
  · have h := z_ie c3 h
    refine r_aload_n X 0 rfl dX7_allocates_9 10 rfl ?_
    refine r_get (v := .ref (b + (t0 + 1))) X ht0 rfl zv_X7 zi_X7 rfl kf_X7_7 rfl rfl dX7_allocates_10 13 rfl ?_
    refine r_sipush (v := 3070) X rfl dX7_allocates_13 16 rfl ?_
    refine r_bipush (v := 80) X rfl dX7_allocates_16 18 rfl ?_
    refine r_iload_n X 1 rfl dX7_allocates_18 19 rfl ?_
    refine r_imul X dX7_allocates_19 20 rfl ?_
    refine r_iadd X dX7_allocates_20 21 rfl ?_
    refine r_iload_n X 2 rfl dX7_allocates_21 22 rfl ?_
    refine r_iadd X dX7_allocates_22 23 rfl ?_
    obtain ⟨x4, e4, h⟩ := z_bd h
    refine r_iaload X (zk_7_0 ht0) (zn_7_0 ht0) e4 dX7_allocates_23 24 rfl ?_
    refine r_if_le X dX7_allocates_24 31 (by decide) 27 rfl (fun c5 => ?_) (fun c5 => ?_)
    · have h := z_it c5 h
      refine r_iconst (v := 0) X rfl dX7_allocates_31 32 rfl ?_
      cases h
      exact r_iret X R rfl dX7_allocates_32
    · have h := z_ie c5 h
      refine r_iconst (v := 1) X rfl dX7_allocates_27 28 rfl ?_
      refine r_goto X dX7_allocates_28 32 (by decide) ?_
      cases h
      exact r_iret X R rfl dX7_allocates_32
set_option maxRecDepth 100000 in
set_option maxHeartbeats 1000000 in
theorem tX7_replay {l : Launch} (hl : l.stackTraces = false) (G : zG) (b : Nat) (t0 : Nat) (ht0 : z_kd t0 = 7) (a1 : Int32) (M : zM) {r9 : Int32} {M9 : zM} (h : fX7_replay t0 a1 M = some (r9, M9)) : z_MN l yX7_replay cX7_replay 6 (some .int) { frames := 2, cells := 0, slots := 0, locals := 43 } G b [.ref (b + t0), .int a1] M (some (.int r9)) M9 := by
  refine z_met (own := RX7) hl (by decide) rfl rfl (fun Γ hΓ X R => ?_)
  subst hΓ
  show GW Γ G b 0 0 M 0 [(0, .ref (b + t0)), (1, .int a1)] []
  unfold fX7_replay at h
  refine r_aload_n X 0 rfl dX7_replay_0 1 rfl ?_
  refine r_iload_n X 1 rfl dX7_replay_1 2 rfl ?_
  obtain ⟨x1, M2, e2, h⟩ := z_bd2 h
  refine r_callV (rest := []) X (tX7_isRegion hl G b t0 ht0 a1 M e2) zy_X7_isRegion zw_X7_isRegion km_X7_109 ht0 rfl zv_X7 rfl ⟨rfl, rfl⟩ ⟨rfl, rfl⟩ rfl rfl (Nat.le_of_ble_eq_true rfl) ⟨Nat.zero_le _, Nat.zero_le _⟩ dX7_replay_2 5 rfl [.int x1] rfl ?_
  refine r_if_ne X dX7_replay_5 10 (by decide) 8 rfl (fun c3 => ?_) (fun c3 => ?_)
  · have h := z_ie c3 h
    refine r_iconst (v := 0) X rfl dX7_replay_10 11 rfl ?_
    refine r_istore_n X dX7_replay_11 12 rfl [(0, .ref (b + t0)), (1, .int a1), (2, .int 0)] (by decide) [1, 2, 0] rfl ?_
    obtain ⟨M6, hL7, h⟩ := z_bd h
    have hK7 : GW Γ G b 0 0 M6 31 [(0, .ref (b + t0)), (1, .int a1)] [] := by
      refine r_iconst (v := 0) X rfl dX7_replay_31 32 rfl ?_
      refine r_istore_n X dX7_replay_32 33 rfl [(0, .ref (b + t0)), (1, .int a1), (2, .int 0)] (by decide) [1, 2, 0] rfl ?_
      obtain ⟨M10, hL11, h⟩ := z_bd h
      have hK11 : GW Γ G b 0 0 M10 127 [(0, .ref (b + t0))] [] := by
        refine r_iconst (v := 0) X rfl dX7_replay_127 128 rfl ?_
        refine r_istore_n X dX7_replay_128 129 rfl [(0, .ref (b + t0)), (2, .int 0)] (by decide) [1, 0] rfl ?_
        refine r_iconst (v := 0) X rfl dX7_replay_129 130 rfl ?_
        refine r_istore_n X dX7_replay_130 131 rfl [(0, .ref (b + t0)), (2, .int 0), (3, .int 0)] (by decide) [1, 2, 0] rfl ?_
        obtain ⟨x14, hL15, h⟩ := z_bd h
        have hK15 : GW Γ G b 0 0 M10 152 [(2, .int x14)] [] := by
          refine r_iload_n X 0 rfl dX7_replay_152 153 rfl ?_
          cases h
          exact r_iret X R rfl dX7_replay_153
        clear h
        refine z_loopP (fun (s : (Int32 × Int32)) => GW Γ G b 0 0 M10 131 [(0, .ref (b + t0)), (2, .int s.1), (3, .int s.2)] []) (fun s q15 hb hP15 hx15 => ?_) _ _ hL15
        obtain ⟨x12, x13⟩ := s
        have h : fX7_replay_L3 t0 M10 x12 x13 = some q15 := hb
        unfold fX7_replay_L3 at h
        refine r_iload_n X 2 rfl dX7_replay_131 132 rfl ?_
        refine r_bipush (v := 32) X rfl dX7_replay_132 134 rfl ?_
        refine r_icmp_ge X dX7_replay_134 152 (by decide) 137 rfl (fun c16 => ?_) (fun c16 => ?_)
        · have h := z_it c16 h
          refine r_sub [(2, .int x12)] [1] rfl ?_
          have e := hx15 _ (Option.some.inj h).symm
          cases e
          exact hK15
        · have h := z_ie c16 h
          refine r_iload_n X 1 rfl dX7_replay_137 138 rfl ?_
          refine r_aload_n X 0 rfl dX7_replay_138 139 rfl ?_
          refine r_get (v := .ref (b + (t0 + 3))) X ht0 rfl zv_X7 zi_X7 rfl kf_X7_16 rfl rfl dX7_replay_139 142 rfl ?_
          refine r_iload_n X 2 rfl dX7_replay_142 143 rfl ?_
          obtain ⟨x17, e17, h⟩ := z_bd h
          refine r_iaload X (zk_7_2 ht0) (zn_7_2 ht0) e17 dX7_replay_143 144 rfl ?_
          refine r_iadd X dX7_replay_144 145 rfl ?_
          refine r_istore_n X dX7_replay_145 146 rfl [(0, .ref (b + t0)), (2, .int (x12 + x17)), (3, .int x13)] (by decide) [1, 0, 2] rfl ?_
          refine r_iinc X dX7_replay_146 149 rfl [(0, .ref (b + t0)), (2, .int (x12 + x17)), (3, .int (x13 + 1))] (by decide) 2 rfl (x13 + 1) rfl [1, 2, 0] rfl ?_
          refine r_goto X dX7_replay_149 131 (by decide) ?_
          exact hP15 ((x12 + x17), (x13 + 1)) (Option.some.inj h).symm
      clear h
      refine z_loopP (fun (s : (Int32 × zM)) => GW Γ G b 0 0 s.2 33 [(0, .ref (b + t0)), (1, .int a1), (2, .int s.1)] []) (fun s q11 hb hP11 hx11 => ?_) _ _ hL11
      obtain ⟨x8, M9⟩ := s
      have h : fX7_replay_L2 t0 a1 x8 M9 = some q11 := hb
      unfold fX7_replay_L2 at h
      refine r_iload_n X 2 rfl dX7_replay_33 34 rfl ?_
      refine r_aload_n X 0 rfl dX7_replay_34 35 rfl ?_
      refine r_get (v := .ref (b + (t0 + 1))) X ht0 rfl zv_X7 zi_X7 rfl kf_X7_7 rfl rfl dX7_replay_35 38 rfl ?_
      refine r_sipush (v := 3390) X rfl dX7_replay_38 41 rfl ?_
      refine r_iload_n X 1 rfl dX7_replay_41 42 rfl ?_
      refine r_iadd X dX7_replay_42 43 rfl ?_
      obtain ⟨x18, e18, h⟩ := z_bd h
      refine r_iaload X (zk_7_0 ht0) (zn_7_0 ht0) e18 dX7_replay_43 44 rfl ?_
      refine r_icmp_ge X dX7_replay_44 127 (by decide) 47 rfl (fun c19 => ?_) (fun c19 => ?_)
      · have h := z_it c19 h
        refine r_sub [(0, .ref (b + t0))] [0] rfl ?_
        have e := hx11 _ (Option.some.inj h).symm
        cases e
        exact hK11
      · have h := z_ie c19 h
        refine r_aload_n X 0 rfl dX7_replay_47 48 rfl ?_
        refine r_get (v := .ref (b + (t0 + 1))) X ht0 rfl zv_X7 zi_X7 rfl kf_X7_7 rfl rfl dX7_replay_48 51 rfl ?_
        refine r_sipush (v := 3070) X rfl dX7_replay_51 54 rfl ?_
        refine r_bipush (v := 80) X rfl dX7_replay_54 56 rfl ?_
        refine r_iload_n X 1 rfl dX7_replay_56 57 rfl ?_
        refine r_imul X dX7_replay_57 58 rfl ?_
        refine r_iadd X dX7_replay_58 59 rfl ?_
        refine r_iload_n X 2 rfl dX7_replay_59 60 rfl ?_
        refine r_iadd X dX7_replay_60 61 rfl ?_
        obtain ⟨x20, e20, h⟩ := z_bd h
        refine r_iaload X (zk_7_0 ht0) (zn_7_0 ht0) e20 dX7_replay_61 62 rfl ?_
        refine r_istore_n X dX7_replay_62 63 rfl [(0, .ref (b + t0)), (1, .int a1), (2, .int x8), (3, .int x20)] (by decide) [1, 2, 3, 0] rfl ?_
        refine r_iload_n X 3 rfl dX7_replay_63 64 rfl ?_
        obtain ⟨j22, hT22, h⟩ := z_bd h
        have hJ22 : GW Γ G b 0 0 M9 73 [(0, .ref (b + t0)), (1, .int a1), (2, .int x8), (3, .int x20)] [.int j22] := by
          refine r_istore X dX7_replay_73 75 rfl [(0, .ref (b + t0)), (1, .int a1), (2, .int x8), (3, .int x20), (4, .int j22)] (by decide) [1, 2, 3, 4, 0] rfl ?_
          refine r_iconst (v := 0) X rfl dX7_replay_75 76 rfl ?_
          refine r_istore X dX7_replay_76 78 rfl [(0, .ref (b + t0)), (1, .int a1), (2, .int x8), (3, .int x20), (4, .int j22), (5, .int 0)] (by decide) [1, 2, 3, 4, 5, 0] rfl ?_
          obtain ⟨M25, hL26, h⟩ := z_bd h
          have hK26 : GW Γ G b 0 0 M25 121 [(0, .ref (b + t0)), (1, .int a1), (2, .int x8)] [] := by
            refine r_iinc X dX7_replay_121 124 rfl [(0, .ref (b + t0)), (1, .int a1), (2, .int (x8 + 1))] (by decide) 2 rfl (x8 + 1) rfl [1, 2, 0] rfl ?_
            refine r_goto X dX7_replay_124 33 (by decide) ?_
            exact hP11 ((x8 + 1), M25) (Option.some.inj h).symm
          clear h
          refine z_loopP (fun (s : (Int32 × zM)) => GW Γ G b 0 0 s.2 78 [(0, .ref (b + t0)), (1, .int a1), (2, .int x8), (3, .int x20), (4, .int j22), (5, .int s.1)] []) (fun s q26 hb hP26 hx26 => ?_) _ _ hL26
          obtain ⟨x23, M24⟩ := s
          have h : fX7_replay_L4 t0 a1 x20 j22 x23 M24 = some q26 := hb
          unfold fX7_replay_L4 at h
          refine r_iload X 5 rfl dX7_replay_78 80 rfl ?_
          refine r_iload X 4 rfl dX7_replay_80 82 rfl ?_
          refine r_bipush (v := 100) X rfl dX7_replay_82 84 rfl ?_
          refine r_irem X (by decide) dX7_replay_84 85 rfl ?_
          refine r_icmp_ge X dX7_replay_85 121 (by decide) 88 rfl (fun c27 => ?_) (fun c27 => ?_)
          · have h := z_it c27 h
            refine r_sub [(0, .ref (b + t0)), (1, .int a1), (2, .int x8)] [0, 1, 2] rfl ?_
            have e := hx26 _ (Option.some.inj h).symm
            cases e
            exact hK26
          · have h := z_ie c27 h
            refine r_aload_n X 0 rfl dX7_replay_88 89 rfl ?_
            refine r_get (v := .ref (b + (t0 + 3))) X ht0 rfl zv_X7 zi_X7 rfl kf_X7_16 rfl rfl dX7_replay_89 92 rfl ?_
            refine r_iload X 4 rfl dX7_replay_92 94 rfl ?_
            refine r_bipush (v := 100) X rfl dX7_replay_94 96 rfl ?_
            refine r_idiv X (by decide) dX7_replay_96 97 rfl ?_
            refine r_bipush (v := 32) X rfl dX7_replay_97 99 rfl ?_
            refine r_iload_n X 1 rfl dX7_replay_99 100 rfl ?_
            refine r_imul X dX7_replay_100 101 rfl ?_
            refine r_isub X dX7_replay_101 102 rfl ?_
            refine r_iload X 5 rfl dX7_replay_102 104 rfl ?_
            refine r_iadd X dX7_replay_104 105 rfl ?_
            refine r_iload_n X 3 rfl dX7_replay_105 106 rfl ?_
            refine r_if_ge X dX7_replay_106 113 (by decide) 109 rfl (fun c28 => ?_) (fun c28 => ?_)
            · have h := z_it c28 h
              refine r_iconst (v := 1) X rfl dX7_replay_113 114 rfl ?_
              obtain ⟨M29, e29, h⟩ := z_bd h
              refine r_iastore X (zk_7_2 ht0) (zn_7_2 ht0) e29 dX7_replay_114 115 rfl ?_
              refine r_iinc X dX7_replay_115 118 rfl [(0, .ref (b + t0)), (1, .int a1), (2, .int x8), (3, .int x20), (4, .int j22), (5, .int (x23 + 1))] (by decide) 5 rfl (x23 + 1) rfl [1, 2, 3, 4, 5, 0] rfl ?_
              refine r_goto X dX7_replay_118 78 (by decide) ?_
              exact hP26 ((x23 + 1), M29) (Option.some.inj h).symm
            · have h := z_ie c28 h
              refine r_iconst (v := 0) X rfl dX7_replay_109 110 rfl ?_
              refine r_goto X dX7_replay_110 114 (by decide) ?_
              obtain ⟨M30, e30, h⟩ := z_bd h
              refine r_iastore X (zk_7_2 ht0) (zn_7_2 ht0) e30 dX7_replay_114 115 rfl ?_
              refine r_iinc X dX7_replay_115 118 rfl [(0, .ref (b + t0)), (1, .int a1), (2, .int x8), (3, .int x20), (4, .int j22), (5, .int (x23 + 1))] (by decide) 5 rfl (x23 + 1) rfl [1, 2, 3, 4, 5, 0] rfl ?_
              refine r_goto X dX7_replay_118 78 (by decide) ?_
              exact hP26 ((x23 + 1), M30) (Option.some.inj h).symm
        have h := hT22
        refine r_if_ge X dX7_replay_64 72 (by decide) 67 rfl (fun c21 => ?_) (fun c21 => ?_)
        · have h := z_it c21 h
          refine r_iload_n X 3 rfl dX7_replay_72 73 rfl ?_
          cases h
          exact hJ22
        · have h := z_ie c21 h
          refine r_iload_n X 3 rfl dX7_replay_67 68 rfl ?_
          refine r_ineg X dX7_replay_68 69 rfl ?_
          refine r_goto X dX7_replay_69 73 (by decide) ?_
          cases h
          exact hJ22
    clear h
    refine z_loopP (fun (s : (Int32 × zM)) => GW Γ G b 0 0 s.2 12 [(0, .ref (b + t0)), (1, .int a1), (2, .int s.1)] []) (fun s q7 hb hP7 hx7 => ?_) _ _ hL7
    obtain ⟨x4, M5⟩ := s
    have h : fX7_replay_L1 t0 x4 M5 = some q7 := hb
    unfold fX7_replay_L1 at h
    refine r_iload_n X 2 rfl dX7_replay_12 13 rfl ?_
    refine r_bipush (v := 32) X rfl dX7_replay_13 15 rfl ?_
    refine r_icmp_ge X dX7_replay_15 31 (by decide) 18 rfl (fun c31 => ?_) (fun c31 => ?_)
    · have h := z_it c31 h
      refine r_sub [(0, .ref (b + t0)), (1, .int a1)] [0, 1] rfl ?_
      have e := hx7 _ (Option.some.inj h).symm
      cases e
      exact hK7
    · have h := z_ie c31 h
      refine r_aload_n X 0 rfl dX7_replay_18 19 rfl ?_
      refine r_get (v := .ref (b + (t0 + 3))) X ht0 rfl zv_X7 zi_X7 rfl kf_X7_16 rfl rfl dX7_replay_19 22 rfl ?_
      refine r_iload_n X 2 rfl dX7_replay_22 23 rfl ?_
      refine r_iconst (v := 0) X rfl dX7_replay_23 24 rfl ?_
      obtain ⟨M32, e32, h⟩ := z_bd h
      refine r_iastore X (zk_7_2 ht0) (zn_7_2 ht0) e32 dX7_replay_24 25 rfl ?_
      refine r_iinc X dX7_replay_25 28 rfl [(0, .ref (b + t0)), (1, .int a1), (2, .int (x4 + 1))] (by decide) 2 rfl (x4 + 1) rfl [1, 2, 0] rfl ?_
      refine r_goto X dX7_replay_28 12 (by decide) ?_
      exact hP7 ((x4 + 1), M32) (Option.some.inj h).symm
  · have h := z_it c3 h
    refine r_iconst (v := 0) X rfl dX7_replay_8 9 rfl ?_
    cases h
    exact r_iret X R rfl dX7_replay_9
set_option maxRecDepth 100000 in
set_option maxHeartbeats 1000000 in
theorem tX7_condensed {l : Launch} (hl : l.stackTraces = false) (G : zG) (b : Nat) (t0 : Nat) (ht0 : z_kd t0 = 7) (M : zM) {r9 : Int32} {M9 : zM} (h : fX7_condensed t0 M = some (r9, M9)) : z_MN l yX7_condensed cX7_condensed 1 (some .int) { frames := 0, cells := 0, slots := 0, locals := 0 } G b [.ref (b + t0)] M (some (.int r9)) M9 := by
  refine z_met (own := RX7) hl (by decide) rfl rfl (fun Γ hΓ X R => ?_)
  subst hΓ
  show GW Γ G b 0 0 M 0 [(0, .ref (b + t0))] []
  unfold fX7_condensed at h
  refine r_aload_n X 0 rfl dX7_condensed_0 1 rfl ?_
  refine r_iconst (v := 0) X rfl dX7_condensed_1 2 rfl ?_
  obtain ⟨M1, e1, h⟩ := z_bd h
  refine r_put X ht0 rfl zv_X7 zi_X7 rfl kf_X7_22 rfl tyX7_ok nmX7 rfl rfl rfl rfl rfl rfl (Option.some.inj e1) dX7_condensed_2 5 rfl ?_
  refine r_aload_n X 0 rfl dX7_condensed_5 6 rfl ?_
  refine r_get (v := .ref (b + (t0 + 1))) X ht0 rfl zv_X7 zi_X7 rfl kf_X7_7 rfl rfl dX7_condensed_6 9 rfl ?_
  refine r_sipush (v := 3396) X rfl dX7_condensed_9 12 rfl ?_
  obtain ⟨x2, e2, h⟩ := z_bd h
  refine r_iaload X (zk_7_0 ht0) (zn_7_0 ht0) e2 dX7_condensed_12 13 rfl ?_
  cases h
  exact r_iret X R rfl dX7_condensed_13
