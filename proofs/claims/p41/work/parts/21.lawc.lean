set_option maxRecDepth 100000 in
set_option maxHeartbeats 1000000 in
theorem tL_isLogged {l : Launch} (hl : l.stackTraces = false) (G : zG) (b : Nat) (a0 : Nat) (ha0 : z_kd a0 = 6) (a1 : Nat) (ha1 : z_kd a1 = 10) (a2 : Nat) (ha2 : z_kd a2 = 8) (hna2 : z_ln a2 = 32) (a3 : Nat) (ha3 : z_kd a3 = 8) (hna3 : z_ln a3 = 4) (M : zM) {r9 : Int32} {M9 : zM} (h : fL_isLogged a0 a1 a2 a3 M = some (r9, M9)) : z_MN l yL_isLogged cL_isLogged 12 (some .boolean) { frames := 10, cells := 0, slots := 0, locals := 185 } G b [.ref (b + a0), .ref (b + a1), .ref (b + a2), .ref (b + a3)] M (some (.int r9)) M9 := by
  refine z_met (own := RL) hl (by decide) rfl rfl (fun Γ hΓ X R => ?_)
  subst hΓ
  show GW Γ G b 0 0 M 0 [(0, .ref (b + a0)), (1, .ref (b + a1)), (2, .ref (b + a2)), (3, .ref (b + a3))] []
  unfold fL_isLogged at h
  refine r_iconst (v := 1) X rfl dL_isLogged_0 1 rfl ?_
  refine r_istore X dL_isLogged_1 3 rfl [(0, .ref (b + a0)), (1, .ref (b + a1)), (2, .ref (b + a2)), (3, .ref (b + a3)), (4, .int 1)] (by decide) [1, 2, 3, 4, 0] rfl ?_
  refine r_iconst (v := 0) X rfl dL_isLogged_3 4 rfl ?_
  refine r_istore X dL_isLogged_4 6 rfl [(0, .ref (b + a0)), (1, .ref (b + a1)), (2, .ref (b + a2)), (3, .ref (b + a3)), (4, .int 1), (5, .int 0)] (by decide) [1, 2, 3, 4, 5, 0] rfl ?_
  obtain ⟨x4, M5, hL6, h⟩ := z_bd2 h
  have hK6 : GW Γ G b 0 0 M5 249 [(0, .ref (b + a0)), (1, .ref (b + a1)), (2, .ref (b + a2)), (4, .int x4)] [] := by
    refine r_iconst (v := 0) X rfl dL_isLogged_249 250 rfl ?_
    refine r_istore X dL_isLogged_250 252 rfl [(0, .ref (b + a0)), (1, .ref (b + a1)), (2, .ref (b + a2)), (4, .int x4), (5, .int 0)] (by decide) [1, 2, 3, 4, 0] rfl ?_
    obtain ⟨M9, hL10, h⟩ := z_bd h
    have hK10 : GW Γ G b 0 0 M9 292 [(0, .ref (b + a0)), (2, .ref (b + a2)), (4, .int x4)] [] := by
      refine r_aload_n X 1 rfl dL_isLogged_292 293 rfl ?_
      refine r_iconst (v := 0) X rfl dL_isLogged_293 294 rfl ?_
      refine r_dup2 X rfl rfl dL_isLogged_294 295 rfl ?_
      obtain ⟨x11, e11, h⟩ := z_bd h
      refine r_iaload X ha2 hna2 e11 dL_isLogged_295 296 rfl ?_
      refine r_iconst (v := 1) X rfl dL_isLogged_296 297 rfl ?_
      refine r_iadd X dL_isLogged_297 298 rfl ?_
      obtain ⟨M12, e12, h⟩ := z_bd h
      refine r_iastore X ha2 hna2 e12 dL_isLogged_298 299 rfl ?_
      refine r_iload X 2 rfl dL_isLogged_299 301 rfl ?_
      refine r_if_eq X dL_isLogged_301 328 (by decide) 304 rfl (fun c13 => ?_) (fun c13 => ?_)
      · have h := z_it c13 h
        refine r_iconst (v := 0) X rfl dL_isLogged_328 329 rfl ?_
        cases h
        exact r_iret X R rfl dL_isLogged_329
      · have h := z_ie c13 h
        refine r_aload_n X 0 rfl dL_isLogged_304 305 rfl ?_
        obtain ⟨x14, e14, h⟩ := z_bd h
        refine r_callV (rest := []) X (tX6_condensed hl G b a0 ha0 M12 e14) zy_X6_condensed zw_X6_condensed km_L_62 ha0 rfl zv_X6 rfl ⟨rfl, rfl⟩ ⟨rfl, rfl⟩ rfl rfl (Nat.le_of_ble_eq_true rfl) ⟨Nat.zero_le _, Nat.zero_le _⟩ dL_isLogged_305 308 rfl [.int x14] rfl ?_
        refine r_aload_n X 1 rfl dL_isLogged_308 309 rfl ?_
        refine r_iconst (v := 2) X rfl dL_isLogged_309 310 rfl ?_
        obtain ⟨x15, e15, h⟩ := z_bd h
        refine r_iaload X ha2 hna2 e15 dL_isLogged_310 311 rfl ?_
        refine r_icmp_ne X dL_isLogged_311 328 (by decide) 314 rfl (fun c16 => ?_) (fun c16 => ?_)
        · have h := z_ie c16 h
          refine r_iconst (v := 0) X rfl dL_isLogged_328 329 rfl ?_
          cases h
          exact r_iret X R rfl dL_isLogged_329
        · have h := z_it c16 h
          refine r_aload_n X 0 rfl dL_isLogged_314 315 rfl ?_
          obtain ⟨x17, e17, h⟩ := z_bd h
          refine r_callV (rest := []) X (tX6_transaction hl G b a0 ha0 M12 e17) zy_X6_transaction zw_X6_transaction km_L_66 ha0 rfl zv_X6 rfl ⟨rfl, rfl⟩ ⟨rfl, rfl⟩ rfl rfl (Nat.le_of_ble_eq_true rfl) ⟨Nat.zero_le _, Nat.zero_le _⟩ dL_isLogged_315 318 rfl [.int x17] rfl ?_
          refine r_aload_n X 1 rfl dL_isLogged_318 319 rfl ?_
          refine r_iconst (v := 0) X rfl dL_isLogged_319 320 rfl ?_
          obtain ⟨x18, e18, h⟩ := z_bd h
          refine r_iaload X ha2 hna2 e18 dL_isLogged_320 321 rfl ?_
          refine r_icmp_ne X dL_isLogged_321 328 (by decide) 324 rfl (fun c19 => ?_) (fun c19 => ?_)
          · have h := z_ie c19 h
            refine r_iconst (v := 0) X rfl dL_isLogged_328 329 rfl ?_
            cases h
            exact r_iret X R rfl dL_isLogged_329
          · have h := z_it c19 h
            refine r_iconst (v := 1) X rfl dL_isLogged_324 325 rfl ?_
            refine r_goto X dL_isLogged_325 329 (by decide) ?_
            cases h
            exact r_iret X R rfl dL_isLogged_329
    clear h
    refine z_loopP (fun (s : (Int32 × zM)) => GW Γ G b 0 0 s.2 252 [(0, .ref (b + a0)), (1, .ref (b + a1)), (2, .ref (b + a2)), (4, .int x4), (5, .int s.1)] []) (fun s q10 hb hP10 hx10 => ?_) _ _ hL10
    obtain ⟨x7, M8⟩ := s
    have h : fL_isLogged_L2 a1 x7 M8 = some q10 := hb
    unfold fL_isLogged_L2 at h
    refine r_iload X 4 rfl dL_isLogged_252 254 rfl ?_
    refine r_bipush (v := 64) X rfl dL_isLogged_254 256 rfl ?_
    refine r_icmp_ge X dL_isLogged_256 292 (by decide) 259 rfl (fun c20 => ?_) (fun c20 => ?_)
    · have h := z_it c20 h
      refine r_sub [(0, .ref (b + a0)), (2, .ref (b + a2)), (4, .int x4)] [0, 2, 3] rfl ?_
      have e := hx10 _ (Option.some.inj h).symm
      cases e
      exact hK10
    · have h := z_ie c20 h
      refine r_aload_n X 1 rfl dL_isLogged_259 260 rfl ?_
      refine r_iload X 4 rfl dL_isLogged_260 262 rfl ?_
      refine r_aload_n X 1 rfl dL_isLogged_262 263 rfl ?_
      refine r_iload X 4 rfl dL_isLogged_263 265 rfl ?_
      obtain ⟨x21, e21, h⟩ := z_bd h
      refine r_laload X ha1 (zn_10 ha1) e21 dL_isLogged_265 266 rfl ?_
      refine r_bipush (v := 60) X rfl dL_isLogged_266 268 rfl ?_
      refine r_iconst (v := 0) X rfl dL_isLogged_268 269 rfl ?_
      obtain ⟨x22, e22, h⟩ := z_bd h
      refine r_callS (rest := [.int x7, .ref (b + a1)]) X (tL_with hl G b x21 60 0 M8 e22) zy_L_with zs_L_with km_L_31 rfl ⟨rfl, rfl⟩ ⟨rfl, rfl⟩ rfl rfl (Nat.le_of_ble_eq_true rfl) ⟨Nat.zero_le _, Nat.zero_le _⟩ dL_isLogged_269 272 rfl [.long x22, .int x7, .ref (b + a1)] rfl ?_
      refine r_bipush (v := 61) X rfl dL_isLogged_272 274 rfl ?_
      refine r_aload_n X 1 rfl dL_isLogged_274 275 rfl ?_
      refine r_iload X 4 rfl dL_isLogged_275 277 rfl ?_
      refine r_bipush (v := 62) X rfl dL_isLogged_277 279 rfl ?_
      obtain ⟨x23, e23, h⟩ := z_bd h
      refine r_callS (rest := [.int 61, .long x22, .int x7, .ref (b + a1)]) X (tL_has hl G b a1 ha1 x7 62 M8 e23) zy_L_has zs_L_has km_L_23 rfl ⟨rfl, rfl⟩ ⟨rfl, rfl⟩ rfl rfl (Nat.le_of_ble_eq_true rfl) ⟨Nat.zero_le _, Nat.zero_le _⟩ dL_isLogged_279 282 rfl [.int x23, .int 61, .long x22, .int x7, .ref (b + a1)] rfl ?_
      obtain ⟨x24, e24, h⟩ := z_bd h
      refine r_callS (rest := [.int x7, .ref (b + a1)]) X (tL_with hl G b x22 61 x23 M8 e24) zy_L_with zs_L_with km_L_31 rfl ⟨rfl, rfl⟩ ⟨rfl, rfl⟩ rfl rfl (Nat.le_of_ble_eq_true rfl) ⟨Nat.zero_le _, Nat.zero_le _⟩ dL_isLogged_282 285 rfl [.long x24, .int x7, .ref (b + a1)] rfl ?_
      obtain ⟨M25, e25, h⟩ := z_bd h
      refine r_lastore X ha1 (zn_10 ha1) e25 dL_isLogged_285 286 rfl ?_
      refine r_iinc X dL_isLogged_286 289 rfl [(0, .ref (b + a0)), (1, .ref (b + a1)), (2, .ref (b + a2)), (4, .int x4), (5, .int (x7 + 1))] (by decide) 4 rfl (x7 + 1) rfl [1, 2, 3, 4, 0] rfl ?_
      refine r_goto X dL_isLogged_289 252 (by decide) ?_
      exact hP10 ((x7 + 1), M25) (Option.some.inj h).symm
  clear h
  refine z_loopP (fun (s : (Int32 × Int32 × zM)) => GW Γ G b 0 0 s.2.2 6 [(0, .ref (b + a0)), (1, .ref (b + a1)), (2, .ref (b + a2)), (3, .ref (b + a3)), (4, .int s.1), (5, .int s.2.1)] []) (fun s q6 hb hP6 hx6 => ?_) _ _ hL6
  obtain ⟨x1, x2, M3⟩ := s
  have h : fL_isLogged_L1 a0 a1 a2 a3 x1 x2 M3 = some q6 := hb
  unfold fL_isLogged_L1 at h
  refine r_iload X 5 rfl dL_isLogged_6 8 rfl ?_
  refine r_iconst (v := 4) X rfl dL_isLogged_8 9 rfl ?_
  refine r_icmp_ge X dL_isLogged_9 249 (by decide) 12 rfl (fun c26 => ?_) (fun c26 => ?_)
  · have h := z_it c26 h
    refine r_sub [(0, .ref (b + a0)), (1, .ref (b + a1)), (2, .ref (b + a2)), (4, .int x1)] [0, 1, 2, 4] rfl ?_
    have e := hx6 _ (Option.some.inj h).symm
    cases e
    exact hK6
  · have h := z_ie c26 h
    refine r_iload X 4 rfl dL_isLogged_12 14 rfl ?_
    refine r_if_eq X dL_isLogged_14 249 (by decide) 17 rfl (fun c27 => ?_) (fun c27 => ?_)
    · have h := z_it c27 h
      refine r_sub [(0, .ref (b + a0)), (1, .ref (b + a1)), (2, .ref (b + a2)), (4, .int x1)] [0, 1, 2, 4] rfl ?_
      have e := hx6 _ (Option.some.inj h).symm
      cases e
      exact hK6
    · have h := z_ie c27 h
      refine r_aload_n X 0 rfl dL_isLogged_17 18 rfl ?_
      refine r_aload_n X 1 rfl dL_isLogged_18 19 rfl ?_
      refine r_iload X 5 rfl dL_isLogged_19 21 rfl ?_
      refine r_iconst (v := 1) X rfl dL_isLogged_21 22 rfl ?_
      refine r_iconst (v := (-1)) X rfl dL_isLogged_22 23 rfl ?_
      obtain ⟨x28, e28, h⟩ := z_bd h
      refine r_callS (rest := []) X (tL_runs hl G b a0 ha0 a1 ha1 x2 1 (-1) M3 e28) zy_L_runs zs_L_runs km_L_52 rfl ⟨rfl, rfl⟩ ⟨rfl, rfl⟩ rfl rfl (Nat.le_of_ble_eq_true rfl) ⟨Nat.zero_le _, Nat.zero_le _⟩ dL_isLogged_23 26 rfl [.int x28] rfl ?_
      refine r_istore X dL_isLogged_26 28 rfl [(0, .ref (b + a0)), (1, .ref (b + a1)), (2, .ref (b + a2)), (3, .ref (b + a3)), (5, .int x2), (6, .int x28)] (by decide) [1, 2, 3, 4, 6, 0] rfl ?_
      refine r_aload_n X 0 rfl dL_isLogged_28 29 rfl ?_
      refine r_aload_n X 1 rfl dL_isLogged_29 30 rfl ?_
      refine r_iload X 4 rfl dL_isLogged_30 32 rfl ?_
      refine r_iconst (v := 0) X rfl dL_isLogged_32 33 rfl ?_
      refine r_iconst (v := (-1)) X rfl dL_isLogged_33 34 rfl ?_
      obtain ⟨x29, e29, h⟩ := z_bd h
      refine r_callS (rest := []) X (tL_runs hl G b a0 ha0 a1 ha1 x2 0 (-1) M3 e29) zy_L_runs zs_L_runs km_L_52 rfl ⟨rfl, rfl⟩ ⟨rfl, rfl⟩ rfl rfl (Nat.le_of_ble_eq_true rfl) ⟨Nat.zero_le _, Nat.zero_le _⟩ dL_isLogged_34 37 rfl [.int x29] rfl ?_
      refine r_istore X dL_isLogged_37 39 rfl [(0, .ref (b + a0)), (1, .ref (b + a1)), (2, .ref (b + a2)), (3, .ref (b + a3)), (5, .int x2), (6, .int x28), (7, .int x29)] (by decide) [1, 2, 3, 4, 5, 6, 0] rfl ?_
      refine r_aload_n X 0 rfl dL_isLogged_39 40 rfl ?_
      refine r_aload_n X 1 rfl dL_isLogged_40 41 rfl ?_
      refine r_iload X 4 rfl dL_isLogged_41 43 rfl ?_
      refine r_iconst (v := 2) X rfl dL_isLogged_43 44 rfl ?_
      refine r_iconst (v := (-1)) X rfl dL_isLogged_44 45 rfl ?_
      obtain ⟨x30, e30, h⟩ := z_bd h
      refine r_callS (rest := []) X (tL_runs hl G b a0 ha0 a1 ha1 x2 2 (-1) M3 e30) zy_L_runs zs_L_runs km_L_52 rfl ⟨rfl, rfl⟩ ⟨rfl, rfl⟩ rfl rfl (Nat.le_of_ble_eq_true rfl) ⟨Nat.zero_le _, Nat.zero_le _⟩ dL_isLogged_45 48 rfl [.int x30] rfl ?_
      refine r_istore X dL_isLogged_48 50 rfl [(0, .ref (b + a0)), (1, .ref (b + a1)), (2, .ref (b + a2)), (3, .ref (b + a3)), (5, .int x2), (6, .int x28), (7, .int x29), (8, .int x30)] (by decide) [1, 2, 3, 4, 5, 6, 7, 0] rfl ?_
      refine r_aload_n X 3 rfl dL_isLogged_50 51 rfl ?_
      refine r_iload X 4 rfl dL_isLogged_51 53 rfl ?_
      obtain ⟨x31, e31, h⟩ := z_bd h
      refine r_iaload X ha3 hna3 e31 dL_isLogged_53 54 rfl ?_
      refine r_iload X 5 rfl dL_isLogged_54 56 rfl ?_
      refine r_iadd X dL_isLogged_56 57 rfl ?_
      refine r_iload X 6 rfl dL_isLogged_57 59 rfl ?_
      refine r_iadd X dL_isLogged_59 60 rfl ?_
      refine r_istore X dL_isLogged_60 62 rfl [(0, .ref (b + a0)), (1, .ref (b + a1)), (2, .ref (b + a2)), (3, .ref (b + a3)), (5, .int x2), (6, .int x28), (7, .int x29), (8, .int x30), (9, .int ((x31 + x28) + x29))] (by decide) [1, 2, 3, 4, 5, 6, 7, 8, 0] rfl ?_
      refine r_iload X 8 rfl dL_isLogged_62 64 rfl ?_
      refine r_iconst (v := 2) X rfl dL_isLogged_64 65 rfl ?_
      refine r_iload X 7 rfl dL_isLogged_65 67 rfl ?_
      refine r_imul X dL_isLogged_67 68 rfl ?_
      refine r_iconst (v := 2) X rfl dL_isLogged_68 69 rfl ?_
      refine r_iadd X dL_isLogged_69 70 rfl ?_
      obtain ⟨j33, M34, hT34, h⟩ := z_bd2 h
      have hJ34 : GW Γ G b 0 0 M34 170 [(0, .ref (b + a0)), (1, .ref (b + a1)), (2, .ref (b + a2)), (3, .ref (b + a3)), (4, .int j33), (5, .int x2)] [] := by
        refine r_iconst (v := 0) X rfl dL_isLogged_170 171 rfl ?_
        refine r_istore X dL_isLogged_171 173 rfl [(0, .ref (b + a0)), (1, .ref (b + a1)), (2, .ref (b + a2)), (3, .ref (b + a3)), (4, .int j33), (5, .int x2), (10, .int 0)] (by decide) [1, 2, 3, 4, 5, 6, 0] rfl ?_
        refine r_bipush (v := 16) X rfl dL_isLogged_173 175 rfl ?_
        refine r_iload X 5 rfl dL_isLogged_175 177 rfl ?_
        refine r_imul X dL_isLogged_177 178 rfl ?_
        refine r_istore X dL_isLogged_178 180 rfl [(0, .ref (b + a0)), (1, .ref (b + a1)), (2, .ref (b + a2)), (3, .ref (b + a3)), (4, .int j33), (5, .int x2), (10, .int 0), (11, .int (16 * x2))] (by decide) [1, 2, 3, 4, 5, 6, 7, 0] rfl ?_
        obtain ⟨x37, hL38, h⟩ := z_bd h
        have hK38 : GW Γ G b 0 0 M34 220 [(0, .ref (b + a0)), (1, .ref (b + a1)), (2, .ref (b + a2)), (3, .ref (b + a3)), (4, .int j33), (5, .int x2), (10, .int x37)] [] := by
          refine r_iload X 4 rfl dL_isLogged_220 222 rfl ?_
          refine r_if_eq X dL_isLogged_222 240 (by decide) 225 rfl (fun c39 => ?_) (fun c39 => ?_)
          · have h := z_it c39 h
            refine r_iconst (v := 0) X rfl dL_isLogged_240 241 rfl ?_
            refine r_istore X dL_isLogged_241 243 rfl [(0, .ref (b + a0)), (1, .ref (b + a1)), (2, .ref (b + a2)), (3, .ref (b + a3)), (4, .int 0), (5, .int x2)] (by decide) [1, 2, 3, 4, 0, 5] rfl ?_
            refine r_iinc X dL_isLogged_243 246 rfl [(0, .ref (b + a0)), (1, .ref (b + a1)), (2, .ref (b + a2)), (3, .ref (b + a3)), (4, .int 0), (5, .int (x2 + 1))] (by decide) 5 rfl (x2 + 1) rfl [1, 2, 3, 4, 5, 0] rfl ?_
            refine r_goto X dL_isLogged_246 6 (by decide) ?_
            exact hP6 (0, (x2 + 1), M34) (Option.some.inj h).symm
          · have h := z_ie c39 h
            refine r_aload_n X 0 rfl dL_isLogged_225 226 rfl ?_
            refine r_iload X 5 rfl dL_isLogged_226 228 rfl ?_
            obtain ⟨x40, M41, e40, h⟩ := z_bd2 h
            have e40 := z_ntw_of e40
            refine r_callV (rest := []) X (z_MX_ret (tX6_replay hl G b a0 ha0 x2 M34 (r9 := .inr x40) e40)) zy_X6_replay zw_X6_replay km_L_59 ha0 rfl zv_X6 rfl ⟨rfl, rfl⟩ ⟨rfl, rfl⟩ rfl rfl (Nat.le_of_ble_eq_true rfl) ⟨Nat.zero_le _, Nat.zero_le _⟩ dL_isLogged_228 231 rfl [.int x40] rfl ?_
            refine r_iload X 6 rfl dL_isLogged_231 233 rfl ?_
            refine r_icmp_ne X dL_isLogged_233 240 (by decide) 236 rfl (fun c42 => ?_) (fun c42 => ?_)
            · have h := z_ie c42 h
              refine r_iconst (v := 0) X rfl dL_isLogged_240 241 rfl ?_
              refine r_istore X dL_isLogged_241 243 rfl [(0, .ref (b + a0)), (1, .ref (b + a1)), (2, .ref (b + a2)), (3, .ref (b + a3)), (4, .int 0), (5, .int x2)] (by decide) [1, 2, 3, 4, 0, 5] rfl ?_
              refine r_iinc X dL_isLogged_243 246 rfl [(0, .ref (b + a0)), (1, .ref (b + a1)), (2, .ref (b + a2)), (3, .ref (b + a3)), (4, .int 0), (5, .int (x2 + 1))] (by decide) 5 rfl (x2 + 1) rfl [1, 2, 3, 4, 5, 0] rfl ?_
              refine r_goto X dL_isLogged_246 6 (by decide) ?_
              exact hP6 (0, (x2 + 1), M41) (Option.some.inj h).symm
            · have h := z_it c42 h
              refine r_iconst (v := 1) X rfl dL_isLogged_236 237 rfl ?_
              refine r_goto X dL_isLogged_237 241 (by decide) ?_
              refine r_istore X dL_isLogged_241 243 rfl [(0, .ref (b + a0)), (1, .ref (b + a1)), (2, .ref (b + a2)), (3, .ref (b + a3)), (4, .int 1), (5, .int x2)] (by decide) [1, 2, 3, 4, 0, 5] rfl ?_
              refine r_iinc X dL_isLogged_243 246 rfl [(0, .ref (b + a0)), (1, .ref (b + a1)), (2, .ref (b + a2)), (3, .ref (b + a3)), (4, .int 1), (5, .int (x2 + 1))] (by decide) 5 rfl (x2 + 1) rfl [1, 2, 3, 4, 5, 0] rfl ?_
              refine r_goto X dL_isLogged_246 6 (by decide) ?_
              exact hP6 (1, (x2 + 1), M41) (Option.some.inj h).symm
        clear h
        refine z_loopP (fun (s : (Int32 × Int32)) => GW Γ G b 0 0 M34 180 [(0, .ref (b + a0)), (1, .ref (b + a1)), (2, .ref (b + a2)), (3, .ref (b + a3)), (4, .int j33), (5, .int x2), (10, .int s.1), (11, .int s.2)] []) (fun s q38 hb hP38 hx38 => ?_) _ _ hL38
        obtain ⟨x35, x36⟩ := s
        have h : fL_isLogged_L3 a1 x2 M34 x35 x36 = some q38 := hb
        unfold fL_isLogged_L3 at h
        refine r_iload X 7 rfl dL_isLogged_180 182 rfl ?_
        refine r_bipush (v := 16) X rfl dL_isLogged_182 184 rfl ?_
        refine r_iload X 5 rfl dL_isLogged_184 186 rfl ?_
        refine r_imul X dL_isLogged_186 187 rfl ?_
        refine r_bipush (v := 16) X rfl dL_isLogged_187 189 rfl ?_
        refine r_iadd X dL_isLogged_189 190 rfl ?_
        refine r_icmp_ge X dL_isLogged_190 220 (by decide) 193 rfl (fun c43 => ?_) (fun c43 => ?_)
        · have h := z_it c43 h
          refine r_sub [(0, .ref (b + a0)), (1, .ref (b + a1)), (2, .ref (b + a2)), (3, .ref (b + a3)), (4, .int j33), (5, .int x2), (10, .int x35)] [0, 1, 2, 3, 4, 5, 6] rfl ?_
          have e := hx38 _ (Option.some.inj h).symm
          cases e
          exact hK38
        · have h := z_ie c43 h
          refine r_iload X 6 rfl dL_isLogged_193 195 rfl ?_
          refine r_aload_n X 1 rfl dL_isLogged_195 196 rfl ?_
          refine r_iload X 7 rfl dL_isLogged_196 198 rfl ?_
          refine r_bipush (v := 62) X rfl dL_isLogged_198 200 rfl ?_
          obtain ⟨x44, e44, h⟩ := z_bd h
          refine r_callS (rest := [.int x35]) X (tL_has hl G b a1 ha1 x36 62 M34 e44) zy_L_has zs_L_has km_L_23 rfl ⟨rfl, rfl⟩ ⟨rfl, rfl⟩ rfl rfl (Nat.le_of_ble_eq_true rfl) ⟨Nat.zero_le _, Nat.zero_le _⟩ dL_isLogged_200 203 rfl [.int x44, .int x35] rfl ?_
          refine r_if_eq X dL_isLogged_203 210 (by decide) 206 rfl (fun c45 => ?_) (fun c45 => ?_)
          · have h := z_it c45 h
            refine r_iconst (v := 0) X rfl dL_isLogged_210 211 rfl ?_
            refine r_iadd X dL_isLogged_211 212 rfl ?_
            refine r_istore X dL_isLogged_212 214 rfl [(0, .ref (b + a0)), (1, .ref (b + a1)), (2, .ref (b + a2)), (3, .ref (b + a3)), (4, .int j33), (5, .int x2), (10, .int (x35 + 0)), (11, .int x36)] (by decide) [1, 2, 3, 4, 5, 6, 0, 7] rfl ?_
            refine r_iinc X dL_isLogged_214 217 rfl [(0, .ref (b + a0)), (1, .ref (b + a1)), (2, .ref (b + a2)), (3, .ref (b + a3)), (4, .int j33), (5, .int x2), (10, .int (x35 + 0)), (11, .int (x36 + 1))] (by decide) 7 rfl (x36 + 1) rfl [1, 2, 3, 4, 5, 6, 7, 0] rfl ?_
            refine r_goto X dL_isLogged_217 180 (by decide) ?_
            exact hP38 ((x35 + 0), (x36 + 1)) (Option.some.inj h).symm
          · have h := z_ie c45 h
            refine r_iconst (v := 1) X rfl dL_isLogged_206 207 rfl ?_
            refine r_goto X dL_isLogged_207 211 (by decide) ?_
            refine r_iadd X dL_isLogged_211 212 rfl ?_
            refine r_istore X dL_isLogged_212 214 rfl [(0, .ref (b + a0)), (1, .ref (b + a1)), (2, .ref (b + a2)), (3, .ref (b + a3)), (4, .int j33), (5, .int x2), (10, .int (x35 + 1)), (11, .int x36)] (by decide) [1, 2, 3, 4, 5, 6, 0, 7] rfl ?_
            refine r_iinc X dL_isLogged_214 217 rfl [(0, .ref (b + a0)), (1, .ref (b + a1)), (2, .ref (b + a2)), (3, .ref (b + a3)), (4, .int j33), (5, .int x2), (10, .int (x35 + 1)), (11, .int (x36 + 1))] (by decide) 7 rfl (x36 + 1) rfl [1, 2, 3, 4, 5, 6, 7, 0] rfl ?_
            refine r_goto X dL_isLogged_217 180 (by decide) ?_
            exact hP38 ((x35 + 1), (x36 + 1)) (Option.some.inj h).symm
      have h := hT34
      refine r_icmp_le X dL_isLogged_70 115 (by decide) 73 rfl (fun c32 => ?_) (fun c32 => ?_)
      · have h := z_it c32 h
        refine r_aload_n X 0 rfl dL_isLogged_115 116 rfl ?_
        refine r_iload X 4 rfl dL_isLogged_116 118 rfl ?_
        obtain ⟨x46, e46, h⟩ := z_bd h
        have e46 := z_nt_of e46
        refine r_callV (rest := []) X (z_MX_ret (tX6_logEntries hl G b a0 ha0 x2 M3 (r9 := .inr x46) e46)) zy_X6_logEntries zw_X6_logEntries km_L_56 ha0 rfl zv_X6 rfl ⟨rfl, rfl⟩ ⟨rfl, rfl⟩ rfl rfl (Nat.le_of_ble_eq_true rfl) ⟨Nat.zero_le _, Nat.zero_le _⟩ dL_isLogged_118 121 rfl [.int x46] rfl ?_
        refine r_iload X 8 rfl dL_isLogged_121 123 rfl ?_
        refine r_icmp_ne X dL_isLogged_123 167 (by decide) 126 rfl (fun c47 => ?_) (fun c47 => ?_)
        · have h := z_ie c47 h
          refine r_iconst (v := 0) X rfl dL_isLogged_167 168 rfl ?_
          refine r_istore X dL_isLogged_168 170 rfl [(0, .ref (b + a0)), (1, .ref (b + a1)), (2, .ref (b + a2)), (3, .ref (b + a3)), (4, .int 0), (5, .int x2)] (by decide) [1, 2, 3, 4, 0, 5] rfl ?_
          cases h
          exact hJ34
        · have h := z_it c47 h
          refine r_aload_n X 0 rfl dL_isLogged_126 127 rfl ?_
          refine r_aload_n X 1 rfl dL_isLogged_127 128 rfl ?_
          refine r_iload X 4 rfl dL_isLogged_128 130 rfl ?_
          refine r_iconst (v := 1) X rfl dL_isLogged_130 131 rfl ?_
          refine r_aload_n X 3 rfl dL_isLogged_131 132 rfl ?_
          refine r_iload X 4 rfl dL_isLogged_132 134 rfl ?_
          obtain ⟨x48, e48, h⟩ := z_bd h
          refine r_iaload X ha3 hna3 e48 dL_isLogged_134 135 rfl ?_
          obtain ⟨x49, e49, h⟩ := z_bd h
          refine r_callS (rest := []) X (tL_runs hl G b a0 ha0 a1 ha1 x2 1 x48 M3 e49) zy_L_runs zs_L_runs km_L_52 rfl ⟨rfl, rfl⟩ ⟨rfl, rfl⟩ rfl rfl (Nat.le_of_ble_eq_true rfl) ⟨Nat.zero_le _, Nat.zero_le _⟩ dL_isLogged_135 138 rfl [.int x49] rfl ?_
          refine r_iload X 5 rfl dL_isLogged_138 140 rfl ?_
          refine r_icmp_ne X dL_isLogged_140 167 (by decide) 143 rfl (fun c50 => ?_) (fun c50 => ?_)
          · have h := z_ie c50 h
            refine r_iconst (v := 0) X rfl dL_isLogged_167 168 rfl ?_
            refine r_istore X dL_isLogged_168 170 rfl [(0, .ref (b + a0)), (1, .ref (b + a1)), (2, .ref (b + a2)), (3, .ref (b + a3)), (4, .int 0), (5, .int x2)] (by decide) [1, 2, 3, 4, 0, 5] rfl ?_
            cases h
            exact hJ34
          · have h := z_it c50 h
            refine r_aload_n X 0 rfl dL_isLogged_143 144 rfl ?_
            refine r_aload_n X 1 rfl dL_isLogged_144 145 rfl ?_
            refine r_iload X 4 rfl dL_isLogged_145 147 rfl ?_
            refine r_iconst (v := 0) X rfl dL_isLogged_147 148 rfl ?_
            refine r_aload_n X 3 rfl dL_isLogged_148 149 rfl ?_
            refine r_iload X 4 rfl dL_isLogged_149 151 rfl ?_
            obtain ⟨x51, e51, h⟩ := z_bd h
            refine r_iaload X ha3 hna3 e51 dL_isLogged_151 152 rfl ?_
            refine r_iload X 5 rfl dL_isLogged_152 154 rfl ?_
            refine r_iadd X dL_isLogged_154 155 rfl ?_
            obtain ⟨x52, e52, h⟩ := z_bd h
            refine r_callS (rest := []) X (tL_runs hl G b a0 ha0 a1 ha1 x2 0 (x51 + x28) M3 e52) zy_L_runs zs_L_runs km_L_52 rfl ⟨rfl, rfl⟩ ⟨rfl, rfl⟩ rfl rfl (Nat.le_of_ble_eq_true rfl) ⟨Nat.zero_le _, Nat.zero_le _⟩ dL_isLogged_155 158 rfl [.int x52] rfl ?_
            refine r_iload X 6 rfl dL_isLogged_158 160 rfl ?_
            refine r_icmp_ne X dL_isLogged_160 167 (by decide) 163 rfl (fun c53 => ?_) (fun c53 => ?_)
            · have h := z_ie c53 h
              refine r_iconst (v := 0) X rfl dL_isLogged_167 168 rfl ?_
              refine r_istore X dL_isLogged_168 170 rfl [(0, .ref (b + a0)), (1, .ref (b + a1)), (2, .ref (b + a2)), (3, .ref (b + a3)), (4, .int 0), (5, .int x2)] (by decide) [1, 2, 3, 4, 0, 5] rfl ?_
              cases h
              exact hJ34
            · have h := z_it c53 h
              refine r_iconst (v := 1) X rfl dL_isLogged_163 164 rfl ?_
              refine r_goto X dL_isLogged_164 168 (by decide) ?_
              refine r_istore X dL_isLogged_168 170 rfl [(0, .ref (b + a0)), (1, .ref (b + a1)), (2, .ref (b + a2)), (3, .ref (b + a3)), (4, .int 1), (5, .int x2)] (by decide) [1, 2, 3, 4, 0, 5] rfl ?_
              cases h
              exact hJ34
      · have h := z_ie c32 h
        refine r_aload_n X 2 rfl dL_isLogged_73 74 rfl ?_
        refine r_iconst (v := 2) X rfl dL_isLogged_74 75 rfl ?_
        refine r_dup2 X rfl rfl dL_isLogged_75 76 rfl ?_
        obtain ⟨x54, e54, h⟩ := z_bd h
        refine r_iaload X ha2 hna2 e54 dL_isLogged_76 77 rfl ?_
        refine r_iconst (v := 1) X rfl dL_isLogged_77 78 rfl ?_
        refine r_iadd X dL_isLogged_78 79 rfl ?_
        obtain ⟨M55, e55, h⟩ := z_bd h
        refine r_iastore X ha2 hna2 e55 dL_isLogged_79 80 rfl ?_
        refine r_aload_n X 0 rfl dL_isLogged_80 81 rfl ?_
        refine r_iload X 4 rfl dL_isLogged_81 83 rfl ?_
        obtain ⟨x56, e56, h⟩ := z_bd h
        have e56 := z_nt_of e56
        refine r_callV (rest := []) X (z_MX_ret (tX6_logEntries hl G b a0 ha0 x2 M55 (r9 := .inr x56) e56)) zy_X6_logEntries zw_X6_logEntries km_L_56 ha0 rfl zv_X6 rfl ⟨rfl, rfl⟩ ⟨rfl, rfl⟩ rfl rfl (Nat.le_of_ble_eq_true rfl) ⟨Nat.zero_le _, Nat.zero_le _⟩ dL_isLogged_83 86 rfl [.int x56] rfl ?_
        refine r_iload X 7 rfl dL_isLogged_86 88 rfl ?_
        refine r_icmp_ne X dL_isLogged_88 109 (by decide) 91 rfl (fun c57 => ?_) (fun c57 => ?_)
        · have h := z_ie c57 h
          refine r_iconst (v := 0) X rfl dL_isLogged_109 110 rfl ?_
          refine r_istore X dL_isLogged_110 112 rfl [(0, .ref (b + a0)), (1, .ref (b + a1)), (2, .ref (b + a2)), (3, .ref (b + a3)), (4, .int 0), (5, .int x2)] (by decide) [1, 2, 3, 4, 0, 5] rfl ?_
          refine r_goto X dL_isLogged_112 170 (by decide) ?_
          cases h
          exact hJ34
        · have h := z_it c57 h
          refine r_aload_n X 0 rfl dL_isLogged_91 92 rfl ?_
          refine r_aload_n X 1 rfl dL_isLogged_92 93 rfl ?_
          refine r_iload X 4 rfl dL_isLogged_93 95 rfl ?_
          refine r_iconst (v := 2) X rfl dL_isLogged_95 96 rfl ?_
          refine r_iconst (v := 0) X rfl dL_isLogged_96 97 rfl ?_
          obtain ⟨x58, e58, h⟩ := z_bd h
          refine r_callS (rest := []) X (tL_runs hl G b a0 ha0 a1 ha1 x2 2 0 M55 e58) zy_L_runs zs_L_runs km_L_52 rfl ⟨rfl, rfl⟩ ⟨rfl, rfl⟩ rfl rfl (Nat.le_of_ble_eq_true rfl) ⟨Nat.zero_le _, Nat.zero_le _⟩ dL_isLogged_97 100 rfl [.int x58] rfl ?_
          refine r_iload X 7 rfl dL_isLogged_100 102 rfl ?_
          refine r_icmp_ne X dL_isLogged_102 109 (by decide) 105 rfl (fun c59 => ?_) (fun c59 => ?_)
          · have h := z_ie c59 h
            refine r_iconst (v := 0) X rfl dL_isLogged_109 110 rfl ?_
            refine r_istore X dL_isLogged_110 112 rfl [(0, .ref (b + a0)), (1, .ref (b + a1)), (2, .ref (b + a2)), (3, .ref (b + a3)), (4, .int 0), (5, .int x2)] (by decide) [1, 2, 3, 4, 0, 5] rfl ?_
            refine r_goto X dL_isLogged_112 170 (by decide) ?_
            cases h
            exact hJ34
          · have h := z_it c59 h
            refine r_iconst (v := 1) X rfl dL_isLogged_105 106 rfl ?_
            refine r_goto X dL_isLogged_106 110 (by decide) ?_
            refine r_istore X dL_isLogged_110 112 rfl [(0, .ref (b + a0)), (1, .ref (b + a1)), (2, .ref (b + a2)), (3, .ref (b + a3)), (4, .int 1), (5, .int x2)] (by decide) [1, 2, 3, 4, 0, 5] rfl ?_
            refine r_goto X dL_isLogged_112 170 (by decide) ?_
            cases h
            exact hJ34
set_option maxRecDepth 100000 in
set_option maxHeartbeats 1000000 in
theorem tL_areBlocks {l : Launch} (hl : l.stackTraces = false) (G : zG) (b : Nat) (a0 : Nat) (ha0 : z_kd a0 = 6) (a1 : Nat) (ha1 : z_kd a1 = 8) (hna1 : z_ln a1 = 28) (a2 : Nat) (ha2 : z_kd a2 = 10) (a3 : Nat) (ha3 : z_kd a3 = 8) (hna3 : z_ln a3 = 32) (M : zM) {r9 : Int32} (h : fL_areBlocks a0 a1 a2 a3 M = some r9) : z_MN l yL_areBlocks cL_areBlocks 10 (some .boolean) { frames := 8, cells := 0, slots := 0, locals := 131 } G b [.ref (b + a0), .ref (b + a1), .ref (b + a2), .ref (b + a3)] M (some (.int r9)) M := by
  refine z_met (own := RL) hl (by decide) rfl rfl (fun Γ hΓ X R => ?_)
  subst hΓ
  show GW Γ G b 0 0 M 0 [(0, .ref (b + a0)), (1, .ref (b + a1)), (2, .ref (b + a2)), (3, .ref (b + a3))] []
  unfold fL_areBlocks at h
  refine r_iconst (v := 0) X rfl dL_areBlocks_0 1 rfl ?_
  refine r_istore X dL_areBlocks_1 3 rfl [(0, .ref (b + a0)), (1, .ref (b + a1)), (2, .ref (b + a2)), (3, .ref (b + a3)), (4, .int 0)] (by decide) [1, 2, 3, 4, 0] rfl ?_
  refine r_iconst (v := 0) X rfl dL_areBlocks_3 4 rfl ?_
  refine r_istore X dL_areBlocks_4 6 rfl [(0, .ref (b + a0)), (1, .ref (b + a1)), (2, .ref (b + a2)), (3, .ref (b + a3)), (4, .int 0), (5, .int 0)] (by decide) [1, 2, 3, 4, 5, 0] rfl ?_
  refine r_iconst (v := 1) X rfl dL_areBlocks_6 7 rfl ?_
  refine r_istore X dL_areBlocks_7 9 rfl [(0, .ref (b + a0)), (1, .ref (b + a1)), (2, .ref (b + a2)), (3, .ref (b + a3)), (4, .int 0), (5, .int 0), (6, .int 1)] (by decide) [1, 2, 3, 4, 5, 6, 0] rfl ?_
  refine r_iconst (v := 0) X rfl dL_areBlocks_9 10 rfl ?_
  refine r_istore X dL_areBlocks_10 12 rfl [(0, .ref (b + a0)), (1, .ref (b + a1)), (2, .ref (b + a2)), (3, .ref (b + a3)), (4, .int 0), (5, .int 0), (6, .int 1), (7, .int 0)] (by decide) [1, 2, 3, 4, 5, 6, 7, 0] rfl ?_
  obtain ⟨x5, x6, x7, hL8, h⟩ := z_bd3 h
  have hK8 : GW Γ G b 0 0 M 237 [(0, .ref (b + a0)), (3, .ref (b + a3)), (4, .int x5), (5, .int x6), (6, .int x7)] [] := by
    refine r_iload X 4 rfl dL_areBlocks_237 239 rfl ?_
    refine r_if_eq X dL_areBlocks_239 278 (by decide) 242 rfl (fun c9 => ?_) (fun c9 => ?_)
    · have h := z_it c9 h
      refine r_iconst (v := 0) X rfl dL_areBlocks_278 279 rfl ?_
      cases h
      exact r_iret X R rfl dL_areBlocks_279
    · have h := z_ie c9 h
      refine r_aload_n X 0 rfl dL_areBlocks_242 243 rfl ?_
      obtain ⟨x10, e10, h⟩ := z_bd h
      refine r_callV (rest := []) X (tX6_pending hl G b a0 ha0 M e10) zy_X6_pending zw_X6_pending km_L_77 ha0 rfl zv_X6 rfl ⟨rfl, rfl⟩ ⟨rfl, rfl⟩ rfl rfl (Nat.le_of_ble_eq_true rfl) ⟨Nat.zero_le _, Nat.zero_le _⟩ dL_areBlocks_243 246 rfl [.int x10] rfl ?_
      refine r_iload X 2 rfl dL_areBlocks_246 248 rfl ?_
      refine r_icmp_ne X dL_areBlocks_248 278 (by decide) 251 rfl (fun c11 => ?_) (fun c11 => ?_)
      · have h := z_ie c11 h
        refine r_iconst (v := 0) X rfl dL_areBlocks_278 279 rfl ?_
        cases h
        exact r_iret X R rfl dL_areBlocks_279
      · have h := z_it c11 h
        refine r_aload_n X 0 rfl dL_areBlocks_251 252 rfl ?_
        obtain ⟨x12, e12, h⟩ := z_bd h
        refine r_callV (rest := []) X (tX6_free hl G b a0 ha0 M e12) zy_X6_free zw_X6_free km_L_80 ha0 rfl zv_X6 rfl ⟨rfl, rfl⟩ ⟨rfl, rfl⟩ rfl rfl (Nat.le_of_ble_eq_true rfl) ⟨Nat.zero_le _, Nat.zero_le _⟩ dL_areBlocks_252 255 rfl [.int x12] rfl ?_
        refine r_sipush (v := 128) X rfl dL_areBlocks_255 258 rfl ?_
        refine r_iload X 3 rfl dL_areBlocks_258 260 rfl ?_
        refine r_isub X dL_areBlocks_260 261 rfl ?_
        refine r_icmp_ne X dL_areBlocks_261 278 (by decide) 264 rfl (fun c13 => ?_) (fun c13 => ?_)
        · have h := z_ie c13 h
          refine r_iconst (v := 0) X rfl dL_areBlocks_278 279 rfl ?_
          cases h
          exact r_iret X R rfl dL_areBlocks_279
        · have h := z_it c13 h
          refine r_aload_n X 0 rfl dL_areBlocks_264 265 rfl ?_
          obtain ⟨x14, e14, h⟩ := z_bd h
          refine r_callV (rest := []) X (tX6_transaction hl G b a0 ha0 M e14) zy_X6_transaction zw_X6_transaction km_L_66 ha0 rfl zv_X6 rfl ⟨rfl, rfl⟩ ⟨rfl, rfl⟩ rfl rfl (Nat.le_of_ble_eq_true rfl) ⟨Nat.zero_le _, Nat.zero_le _⟩ dL_areBlocks_265 268 rfl [.int x14] rfl ?_
          refine r_aload_n X 1 rfl dL_areBlocks_268 269 rfl ?_
          refine r_iconst (v := 0) X rfl dL_areBlocks_269 270 rfl ?_
          obtain ⟨x15, e15, h⟩ := z_bd h
          refine r_iaload X ha3 hna3 e15 dL_areBlocks_270 271 rfl ?_
          refine r_icmp_ne X dL_areBlocks_271 278 (by decide) 274 rfl (fun c16 => ?_) (fun c16 => ?_)
          · have h := z_ie c16 h
            refine r_iconst (v := 0) X rfl dL_areBlocks_278 279 rfl ?_
            cases h
            exact r_iret X R rfl dL_areBlocks_279
          · have h := z_it c16 h
            refine r_iconst (v := 1) X rfl dL_areBlocks_274 275 rfl ?_
            refine r_goto X dL_areBlocks_275 279 (by decide) ?_
            cases h
            exact r_iret X R rfl dL_areBlocks_279
  clear h
  refine z_loopP (fun (s : (Int32 × Int32 × Int32 × Int32)) => GW Γ G b 0 0 M 12 [(0, .ref (b + a0)), (1, .ref (b + a1)), (2, .ref (b + a2)), (3, .ref (b + a3)), (4, .int s.1), (5, .int s.2.1), (6, .int s.2.2.1), (7, .int s.2.2.2)] []) (fun s q8 hb hP8 hx8 => ?_) _ _ hL8
  obtain ⟨x1, x2, x3, x4⟩ := s
  have h : fL_areBlocks_L1 a0 a1 a2 M x1 x2 x3 x4 = some q8 := hb
  unfold fL_areBlocks_L1 at h
  refine r_iload X 7 rfl dL_areBlocks_12 14 rfl ?_
  refine r_bipush (v := 64) X rfl dL_areBlocks_14 16 rfl ?_
  refine r_icmp_ge X dL_areBlocks_16 237 (by decide) 19 rfl (fun c17 => ?_) (fun c17 => ?_)
  · have h := z_it c17 h
    refine r_sub [(0, .ref (b + a0)), (3, .ref (b + a3)), (4, .int x1), (5, .int x2), (6, .int x3)] [0, 3, 4, 5, 6] rfl ?_
    have e := hx8 _ (Option.some.inj h).symm
    cases e
    exact hK8
  · have h := z_ie c17 h
    refine r_iload X 6 rfl dL_areBlocks_19 21 rfl ?_
    refine r_if_eq X dL_areBlocks_21 237 (by decide) 24 rfl (fun c18 => ?_) (fun c18 => ?_)
    · have h := z_it c18 h
      refine r_sub [(0, .ref (b + a0)), (3, .ref (b + a3)), (4, .int x1), (5, .int x2), (6, .int x3)] [0, 3, 4, 5, 6] rfl ?_
      have e := hx8 _ (Option.some.inj h).symm
      cases e
      exact hK8
    · have h := z_ie c18 h
      refine r_iload X 4 rfl dL_areBlocks_24 26 rfl ?_
      refine r_aload_n X 2 rfl dL_areBlocks_26 27 rfl ?_
      refine r_iload X 7 rfl dL_areBlocks_27 29 rfl ?_
      refine r_bipush (v := 60) X rfl dL_areBlocks_29 31 rfl ?_
      obtain ⟨x19, e19, h⟩ := z_bd h
      refine r_callS (rest := [.int x1]) X (tL_has hl G b a2 ha2 x4 60 M e19) zy_L_has zs_L_has km_L_23 rfl ⟨rfl, rfl⟩ ⟨rfl, rfl⟩ rfl rfl (Nat.le_of_ble_eq_true rfl) ⟨Nat.zero_le _, Nat.zero_le _⟩ dL_areBlocks_31 34 rfl [.int x19, .int x1] rfl ?_
      obtain ⟨j21, hT21, h⟩ := z_bd h
      have hJ21 : GW Γ G b 0 0 M 42 [(0, .ref (b + a0)), (1, .ref (b + a1)), (2, .ref (b + a2)), (3, .ref (b + a3)), (5, .int x2), (7, .int x4)] [.int j21, .int x1] := by
        refine r_iadd X dL_areBlocks_42 43 rfl ?_
        refine r_istore X dL_areBlocks_43 45 rfl [(0, .ref (b + a0)), (1, .ref (b + a1)), (2, .ref (b + a2)), (3, .ref (b + a3)), (4, .int (x1 + j21)), (5, .int x2), (7, .int x4)] (by decide) [1, 2, 3, 4, 0, 5, 6] rfl ?_
        refine r_iload X 5 rfl dL_areBlocks_45 47 rfl ?_
        refine r_aload_n X 2 rfl dL_areBlocks_47 48 rfl ?_
        refine r_iload X 6 rfl dL_areBlocks_48 50 rfl ?_
        refine r_bipush (v := 60) X rfl dL_areBlocks_50 52 rfl ?_
        obtain ⟨x22, e22, h⟩ := z_bd h
        refine r_callS (rest := [.int x2]) X (tL_has hl G b a2 ha2 x4 60 M e22) zy_L_has zs_L_has km_L_23 rfl ⟨rfl, rfl⟩ ⟨rfl, rfl⟩ rfl rfl (Nat.le_of_ble_eq_true rfl) ⟨Nat.zero_le _, Nat.zero_le _⟩ dL_areBlocks_52 55 rfl [.int x22, .int x2] rfl ?_
        obtain ⟨j24, hT24, h⟩ := z_bd h
        have hJ24 : GW Γ G b 0 0 M 74 [(0, .ref (b + a0)), (1, .ref (b + a1)), (2, .ref (b + a2)), (3, .ref (b + a3)), (4, .int (x1 + j21)), (7, .int x4)] [.int j24, .int x2] := by
          refine r_iadd X dL_areBlocks_74 75 rfl ?_
          refine r_istore X dL_areBlocks_75 77 rfl [(0, .ref (b + a0)), (1, .ref (b + a1)), (2, .ref (b + a2)), (3, .ref (b + a3)), (4, .int (x1 + j21)), (5, .int (x2 + j24)), (7, .int x4)] (by decide) [1, 2, 3, 4, 5, 0, 6] rfl ?_
          refine r_aload_n X 0 rfl dL_areBlocks_77 78 rfl ?_
          refine r_iload X 6 rfl dL_areBlocks_78 80 rfl ?_
          obtain ⟨x25, e25, h⟩ := z_bd h
          refine r_callS (rest := [.ref (b + a0)]) X (tL_block hl G b x4 M e25) zy_L_block zs_L_block km_L_13 rfl ⟨rfl, rfl⟩ ⟨rfl, rfl⟩ rfl rfl (Nat.le_of_ble_eq_true rfl) ⟨Nat.zero_le _, Nat.zero_le _⟩ dL_areBlocks_80 83 rfl [.int x25, .ref (b + a0)] rfl ?_
          obtain ⟨x26, e26, h⟩ := z_bd h
          have e26 := z_nt_of e26
          refine r_callV (rest := []) X (z_MX_ret (tX6_references hl G b a0 ha0 x25 M (r9 := .inr x26) e26)) zy_X6_references zw_X6_references km_L_69 ha0 rfl zv_X6 rfl ⟨rfl, rfl⟩ ⟨rfl, rfl⟩ rfl rfl (Nat.le_of_ble_eq_true rfl) ⟨Nat.zero_le _, Nat.zero_le _⟩ dL_areBlocks_83 86 rfl [.int x26] rfl ?_
          refine r_aload_n X 1 rfl dL_areBlocks_86 87 rfl ?_
          refine r_iload X 6 rfl dL_areBlocks_87 89 rfl ?_
          obtain ⟨x27, e27, h⟩ := z_bd h
          refine r_callS (rest := [.ref (b + a1), .int x26]) X (tL_block hl G b x4 M e27) zy_L_block zs_L_block km_L_13 rfl ⟨rfl, rfl⟩ ⟨rfl, rfl⟩ rfl rfl (Nat.le_of_ble_eq_true rfl) ⟨Nat.zero_le _, Nat.zero_le _⟩ dL_areBlocks_89 92 rfl [.int x27, .ref (b + a1), .int x26] rfl ?_
          refine r_iconst (v := 0) X rfl dL_areBlocks_92 93 rfl ?_
          refine r_bipush (v := 28) X rfl dL_areBlocks_93 95 rfl ?_
          obtain ⟨x28, e28, h⟩ := z_bd h
          refine r_callS (rest := [.int x26]) X (tL_count hl G b a1 ha1 hna1 x27 0 28 M e28) zy_L_count zs_L_count km_L_19 rfl ⟨rfl, rfl⟩ ⟨rfl, rfl⟩ rfl rfl (Nat.le_of_ble_eq_true rfl) ⟨Nat.zero_le _, Nat.zero_le _⟩ dL_areBlocks_95 98 rfl [.int x28, .int x26] rfl ?_
          obtain ⟨j30, hT30, h⟩ := z_bd h
          have hJ30 : GW Γ G b 0 0 M 135 [(0, .ref (b + a0)), (1, .ref (b + a1)), (2, .ref (b + a2)), (3, .ref (b + a3)), (4, .int (x1 + j21)), (5, .int (x2 + j24)), (7, .int x4)] [.int j30] := by
            refine r_istore X dL_areBlocks_135 137 rfl [(0, .ref (b + a0)), (1, .ref (b + a1)), (2, .ref (b + a2)), (3, .ref (b + a3)), (4, .int (x1 + j21)), (5, .int (x2 + j24)), (6, .int j30), (7, .int x4)] (by decide) [1, 2, 3, 4, 5, 6, 0, 7] rfl ?_
            refine r_iload X 7 rfl dL_areBlocks_137 139 rfl ?_
            refine r_bipush (v := 16) X rfl dL_areBlocks_139 141 rfl ?_
            refine r_irem X (by decide) dL_areBlocks_141 142 rfl ?_
            refine r_bipush (v := 15) X rfl dL_areBlocks_142 144 rfl ?_
            refine r_icmp_ne X dL_areBlocks_144 231 (by decide) 147 rfl (fun c31 => ?_) (fun c31 => ?_)
            · have h := z_ie c31 h
              refine r_iinc X dL_areBlocks_231 234 rfl [(0, .ref (b + a0)), (1, .ref (b + a1)), (2, .ref (b + a2)), (3, .ref (b + a3)), (4, .int (x1 + j21)), (5, .int (x2 + j24)), (6, .int j30), (7, .int (x4 + 1))] (by decide) 7 rfl (x4 + 1) rfl [1, 2, 3, 4, 5, 6, 7, 0] rfl ?_
              refine r_goto X dL_areBlocks_234 12 (by decide) ?_
              exact hP8 ((x1 + j21), (x2 + j24), j30, (x4 + 1)) (Option.some.inj h).symm
            · have h := z_it c31 h
              refine r_iconst (v := 0) X rfl dL_areBlocks_147 148 rfl ?_
              refine r_istore X dL_areBlocks_148 150 rfl [(0, .ref (b + a0)), (1, .ref (b + a1)), (2, .ref (b + a2)), (3, .ref (b + a3)), (4, .int (x1 + j21)), (5, .int (x2 + j24)), (6, .int j30), (7, .int x4), (8, .int 0)] (by decide) [1, 2, 3, 4, 5, 6, 7, 8, 0] rfl ?_
              refine r_iload X 7 rfl dL_areBlocks_150 152 rfl ?_
              refine r_bipush (v := 15) X rfl dL_areBlocks_152 154 rfl ?_
              refine r_isub X dL_areBlocks_154 155 rfl ?_
              refine r_istore X dL_areBlocks_155 157 rfl [(0, .ref (b + a0)), (1, .ref (b + a1)), (2, .ref (b + a2)), (3, .ref (b + a3)), (4, .int (x1 + j21)), (5, .int (x2 + j24)), (6, .int j30), (7, .int x4), (8, .int 0), (9, .int (x4 - 15))] (by decide) [1, 2, 3, 4, 5, 6, 7, 8, 9, 0] rfl ?_
              obtain ⟨x34, hL35, h⟩ := z_bd h
              have hK35 : GW Γ G b 0 0 M 202 [(0, .ref (b + a0)), (1, .ref (b + a1)), (2, .ref (b + a2)), (3, .ref (b + a3)), (4, .int (x1 + j21)), (5, .int (x2 + j24)), (6, .int j30), (7, .int x4), (8, .int x34)] [] := by
                refine r_iload X 6 rfl dL_areBlocks_202 204 rfl ?_
                refine r_if_eq X dL_areBlocks_204 228 (by decide) 207 rfl (fun c36 => ?_) (fun c36 => ?_)
                · have h := z_it c36 h
                  refine r_iconst (v := 0) X rfl dL_areBlocks_228 229 rfl ?_
                  refine r_istore X dL_areBlocks_229 231 rfl [(0, .ref (b + a0)), (1, .ref (b + a1)), (2, .ref (b + a2)), (3, .ref (b + a3)), (4, .int (x1 + j21)), (5, .int (x2 + j24)), (6, .int 0), (7, .int x4)] (by decide) [1, 2, 3, 4, 5, 6, 0, 7] rfl ?_
                  refine r_iinc X dL_areBlocks_231 234 rfl [(0, .ref (b + a0)), (1, .ref (b + a1)), (2, .ref (b + a2)), (3, .ref (b + a3)), (4, .int (x1 + j21)), (5, .int (x2 + j24)), (6, .int 0), (7, .int (x4 + 1))] (by decide) 7 rfl (x4 + 1) rfl [1, 2, 3, 4, 5, 6, 7, 0] rfl ?_
                  refine r_goto X dL_areBlocks_234 12 (by decide) ?_
                  exact hP8 ((x1 + j21), (x2 + j24), 0, (x4 + 1)) (Option.some.inj h).symm
                · have h := z_ie c36 h
                  refine r_aload_n X 0 rfl dL_areBlocks_207 208 rfl ?_
                  refine r_iload X 7 rfl dL_areBlocks_208 210 rfl ?_
                  refine r_bipush (v := 16) X rfl dL_areBlocks_210 212 rfl ?_
                  refine r_idiv X (by decide) dL_areBlocks_212 213 rfl ?_
                  obtain ⟨x37, e37, h⟩ := z_bd h
                  have e37 := z_nt_of e37
                  refine r_callV (rest := []) X (z_MX_ret (tX6_freeIn hl G b a0 ha0 (x4 / 16) M (r9 := .inr x37) e37)) zy_X6_freeIn zw_X6_freeIn km_L_74 ha0 rfl zv_X6 rfl ⟨rfl, rfl⟩ ⟨rfl, rfl⟩ rfl rfl (Nat.le_of_ble_eq_true rfl) ⟨Nat.zero_le _, Nat.zero_le _⟩ dL_areBlocks_213 216 rfl [.int x37] rfl ?_
                  refine r_bipush (v := 32) X rfl dL_areBlocks_216 218 rfl ?_
                  refine r_iload X 8 rfl dL_areBlocks_218 220 rfl ?_
                  refine r_isub X dL_areBlocks_220 221 rfl ?_
                  refine r_icmp_ne X dL_areBlocks_221 228 (by decide) 224 rfl (fun c38 => ?_) (fun c38 => ?_)
                  · have h := z_ie c38 h
                    refine r_iconst (v := 0) X rfl dL_areBlocks_228 229 rfl ?_
                    refine r_istore X dL_areBlocks_229 231 rfl [(0, .ref (b + a0)), (1, .ref (b + a1)), (2, .ref (b + a2)), (3, .ref (b + a3)), (4, .int (x1 + j21)), (5, .int (x2 + j24)), (6, .int 0), (7, .int x4)] (by decide) [1, 2, 3, 4, 5, 6, 0, 7] rfl ?_
                    refine r_iinc X dL_areBlocks_231 234 rfl [(0, .ref (b + a0)), (1, .ref (b + a1)), (2, .ref (b + a2)), (3, .ref (b + a3)), (4, .int (x1 + j21)), (5, .int (x2 + j24)), (6, .int 0), (7, .int (x4 + 1))] (by decide) 7 rfl (x4 + 1) rfl [1, 2, 3, 4, 5, 6, 7, 0] rfl ?_
                    refine r_goto X dL_areBlocks_234 12 (by decide) ?_
                    exact hP8 ((x1 + j21), (x2 + j24), 0, (x4 + 1)) (Option.some.inj h).symm
                  · have h := z_it c38 h
                    refine r_iconst (v := 1) X rfl dL_areBlocks_224 225 rfl ?_
                    refine r_goto X dL_areBlocks_225 229 (by decide) ?_
                    refine r_istore X dL_areBlocks_229 231 rfl [(0, .ref (b + a0)), (1, .ref (b + a1)), (2, .ref (b + a2)), (3, .ref (b + a3)), (4, .int (x1 + j21)), (5, .int (x2 + j24)), (6, .int 1), (7, .int x4)] (by decide) [1, 2, 3, 4, 5, 6, 0, 7] rfl ?_
                    refine r_iinc X dL_areBlocks_231 234 rfl [(0, .ref (b + a0)), (1, .ref (b + a1)), (2, .ref (b + a2)), (3, .ref (b + a3)), (4, .int (x1 + j21)), (5, .int (x2 + j24)), (6, .int 1), (7, .int (x4 + 1))] (by decide) 7 rfl (x4 + 1) rfl [1, 2, 3, 4, 5, 6, 7, 0] rfl ?_
                    refine r_goto X dL_areBlocks_234 12 (by decide) ?_
                    exact hP8 ((x1 + j21), (x2 + j24), 1, (x4 + 1)) (Option.some.inj h).symm
              clear h
              refine z_loopP (fun (s : (Int32 × Int32)) => GW Γ G b 0 0 M 157 [(0, .ref (b + a0)), (1, .ref (b + a1)), (2, .ref (b + a2)), (3, .ref (b + a3)), (4, .int (x1 + j21)), (5, .int (x2 + j24)), (6, .int j30), (7, .int x4), (8, .int s.1), (9, .int s.2)] []) (fun s q35 hb hP35 hx35 => ?_) _ _ hL35
              obtain ⟨x32, x33⟩ := s
              have h : fL_areBlocks_L2 a2 M x4 x32 x33 = some q35 := hb
              unfold fL_areBlocks_L2 at h
              refine r_iload X 9 rfl dL_areBlocks_157 159 rfl ?_
              refine r_iload X 7 rfl dL_areBlocks_159 161 rfl ?_
              refine r_icmp_gt X dL_areBlocks_161 202 (by decide) 164 rfl (fun c39 => ?_) (fun c39 => ?_)
              · have h := z_it c39 h
                refine r_sub [(0, .ref (b + a0)), (1, .ref (b + a1)), (2, .ref (b + a2)), (3, .ref (b + a3)), (4, .int (x1 + j21)), (5, .int (x2 + j24)), (6, .int j30), (7, .int x4), (8, .int x32)] [0, 1, 2, 3, 4, 5, 6, 7, 8] rfl ?_
                have e := hx35 _ (Option.some.inj h).symm
                cases e
                exact hK35
              · have h := z_ie c39 h
                refine r_iload X 8 rfl dL_areBlocks_164 166 rfl ?_
                refine r_aload_n X 2 rfl dL_areBlocks_166 167 rfl ?_
                refine r_iload X 9 rfl dL_areBlocks_167 169 rfl ?_
                refine r_bipush (v := 60) X rfl dL_areBlocks_169 171 rfl ?_
                obtain ⟨x40, e40, h⟩ := z_bd h
                refine r_callS (rest := [.int x32]) X (tL_has hl G b a2 ha2 x33 60 M e40) zy_L_has zs_L_has km_L_23 rfl ⟨rfl, rfl⟩ ⟨rfl, rfl⟩ rfl rfl (Nat.le_of_ble_eq_true rfl) ⟨Nat.zero_le _, Nat.zero_le _⟩ dL_areBlocks_171 174 rfl [.int x40, .int x32] rfl ?_
                refine r_if_ne X dL_areBlocks_174 188 (by decide) 177 rfl (fun c41 => ?_) (fun c41 => ?_)
                · have h := z_ie c41 h
                  refine r_iconst (v := 1) X rfl dL_areBlocks_188 189 rfl ?_
                  refine r_goto X dL_areBlocks_189 193 (by decide) ?_
                  refine r_iadd X dL_areBlocks_193 194 rfl ?_
                  refine r_istore X dL_areBlocks_194 196 rfl [(0, .ref (b + a0)), (1, .ref (b + a1)), (2, .ref (b + a2)), (3, .ref (b + a3)), (4, .int (x1 + j21)), (5, .int (x2 + j24)), (6, .int j30), (7, .int x4), (8, .int (x32 + 1)), (9, .int x33)] (by decide) [1, 2, 3, 4, 5, 6, 7, 8, 0, 9] rfl ?_
                  refine r_iinc X dL_areBlocks_196 199 rfl [(0, .ref (b + a0)), (1, .ref (b + a1)), (2, .ref (b + a2)), (3, .ref (b + a3)), (4, .int (x1 + j21)), (5, .int (x2 + j24)), (6, .int j30), (7, .int x4), (8, .int (x32 + 1)), (9, .int (x33 + 1))] (by decide) 9 rfl (x33 + 1) rfl [1, 2, 3, 4, 5, 6, 7, 8, 9, 0] rfl ?_
                  refine r_goto X dL_areBlocks_199 157 (by decide) ?_
                  exact hP35 ((x32 + 1), (x33 + 1)) (Option.some.inj h).symm
                · have h := z_it c41 h
                  refine r_aload_n X 2 rfl dL_areBlocks_177 178 rfl ?_
                  refine r_iload X 9 rfl dL_areBlocks_178 180 rfl ?_
                  refine r_bipush (v := 62) X rfl dL_areBlocks_180 182 rfl ?_
                  obtain ⟨x42, e42, h⟩ := z_bd h
                  refine r_callS (rest := [.int x32]) X (tL_has hl G b a2 ha2 x33 62 M e42) zy_L_has zs_L_has km_L_23 rfl ⟨rfl, rfl⟩ ⟨rfl, rfl⟩ rfl rfl (Nat.le_of_ble_eq_true rfl) ⟨Nat.zero_le _, Nat.zero_le _⟩ dL_areBlocks_182 185 rfl [.int x42, .int x32] rfl ?_
                  refine r_if_eq X dL_areBlocks_185 192 (by decide) 188 rfl (fun c43 => ?_) (fun c43 => ?_)
                  · have h := z_it c43 h
                    refine r_iconst (v := 0) X rfl dL_areBlocks_192 193 rfl ?_
                    refine r_iadd X dL_areBlocks_193 194 rfl ?_
                    refine r_istore X dL_areBlocks_194 196 rfl [(0, .ref (b + a0)), (1, .ref (b + a1)), (2, .ref (b + a2)), (3, .ref (b + a3)), (4, .int (x1 + j21)), (5, .int (x2 + j24)), (6, .int j30), (7, .int x4), (8, .int (x32 + 0)), (9, .int x33)] (by decide) [1, 2, 3, 4, 5, 6, 7, 8, 0, 9] rfl ?_
                    refine r_iinc X dL_areBlocks_196 199 rfl [(0, .ref (b + a0)), (1, .ref (b + a1)), (2, .ref (b + a2)), (3, .ref (b + a3)), (4, .int (x1 + j21)), (5, .int (x2 + j24)), (6, .int j30), (7, .int x4), (8, .int (x32 + 0)), (9, .int (x33 + 1))] (by decide) 9 rfl (x33 + 1) rfl [1, 2, 3, 4, 5, 6, 7, 8, 9, 0] rfl ?_
                    refine r_goto X dL_areBlocks_199 157 (by decide) ?_
                    exact hP35 ((x32 + 0), (x33 + 1)) (Option.some.inj h).symm
                  · have h := z_ie c43 h
                    refine r_iconst (v := 1) X rfl dL_areBlocks_188 189 rfl ?_
                    refine r_goto X dL_areBlocks_189 193 (by decide) ?_
                    refine r_iadd X dL_areBlocks_193 194 rfl ?_
                    refine r_istore X dL_areBlocks_194 196 rfl [(0, .ref (b + a0)), (1, .ref (b + a1)), (2, .ref (b + a2)), (3, .ref (b + a3)), (4, .int (x1 + j21)), (5, .int (x2 + j24)), (6, .int j30), (7, .int x4), (8, .int (x32 + 1)), (9, .int x33)] (by decide) [1, 2, 3, 4, 5, 6, 7, 8, 0, 9] rfl ?_
                    refine r_iinc X dL_areBlocks_196 199 rfl [(0, .ref (b + a0)), (1, .ref (b + a1)), (2, .ref (b + a2)), (3, .ref (b + a3)), (4, .int (x1 + j21)), (5, .int (x2 + j24)), (6, .int j30), (7, .int x4), (8, .int (x32 + 1)), (9, .int (x33 + 1))] (by decide) 9 rfl (x33 + 1) rfl [1, 2, 3, 4, 5, 6, 7, 8, 9, 0] rfl ?_
                    refine r_goto X dL_areBlocks_199 157 (by decide) ?_
                    exact hP35 ((x32 + 1), (x33 + 1)) (Option.some.inj h).symm
          have h := hT30
          refine r_icmp_ne X dL_areBlocks_98 134 (by decide) 101 rfl (fun c29 => ?_) (fun c29 => ?_)
          · have h := z_ie c29 h
            refine r_iconst (v := 0) X rfl dL_areBlocks_134 135 rfl ?_
            cases h
            exact hJ30
          · have h := z_it c29 h
            refine r_aload_n X 2 rfl dL_areBlocks_101 102 rfl ?_
            refine r_iload X 6 rfl dL_areBlocks_102 104 rfl ?_
            refine r_bipush (v := 62) X rfl dL_areBlocks_104 106 rfl ?_
            obtain ⟨x44, e44, h⟩ := z_bd h
            refine r_callS (rest := []) X (tL_has hl G b a2 ha2 x4 62 M e44) zy_L_has zs_L_has km_L_23 rfl ⟨rfl, rfl⟩ ⟨rfl, rfl⟩ rfl rfl (Nat.le_of_ble_eq_true rfl) ⟨Nat.zero_le _, Nat.zero_le _⟩ dL_areBlocks_106 109 rfl [.int x44] rfl ?_
            refine r_if_eq X dL_areBlocks_109 130 (by decide) 112 rfl (fun c45 => ?_) (fun c45 => ?_)
            · have h := z_it c45 h
              refine r_iconst (v := 1) X rfl dL_areBlocks_130 131 rfl ?_
              refine r_goto X dL_areBlocks_131 135 (by decide) ?_
              cases h
              exact hJ30
            · have h := z_ie c45 h
              refine r_aload_n X 0 rfl dL_areBlocks_112 113 rfl ?_
              refine r_iload X 6 rfl dL_areBlocks_113 115 rfl ?_
              obtain ⟨x46, e46, h⟩ := z_bd h
              refine r_callS (rest := [.ref (b + a0)]) X (tL_block hl G b x4 M e46) zy_L_block zs_L_block km_L_13 rfl ⟨rfl, rfl⟩ ⟨rfl, rfl⟩ rfl rfl (Nat.le_of_ble_eq_true rfl) ⟨Nat.zero_le _, Nat.zero_le _⟩ dL_areBlocks_115 118 rfl [.int x46, .ref (b + a0)] rfl ?_
              obtain ⟨x47, e47, h⟩ := z_bd h
              have e47 := z_nt_of e47
              refine r_callV (rest := []) X (z_MX_ret (tX6_birth hl G b a0 ha0 x46 M (r9 := .inr x47) e47)) zy_X6_birth zw_X6_birth km_L_72 ha0 rfl zv_X6 rfl ⟨rfl, rfl⟩ ⟨rfl, rfl⟩ rfl rfl (Nat.le_of_ble_eq_true rfl) ⟨Nat.zero_le _, Nat.zero_le _⟩ dL_areBlocks_118 121 rfl [.int x47] rfl ?_
              refine r_aload_n X 2 rfl dL_areBlocks_121 122 rfl ?_
              refine r_iload X 6 rfl dL_areBlocks_122 124 rfl ?_
              obtain ⟨x48, e48, h⟩ := z_bd h
              refine r_callS (rest := [.int x47]) X (tL_birth hl G b a2 ha2 x4 M e48) zy_L_birth zs_L_birth km_L_27 rfl ⟨rfl, rfl⟩ ⟨rfl, rfl⟩ rfl rfl (Nat.le_of_ble_eq_true rfl) ⟨Nat.zero_le _, Nat.zero_le _⟩ dL_areBlocks_124 127 rfl [.int x48, .int x47] rfl ?_
              refine r_icmp_ne X dL_areBlocks_127 134 (by decide) 130 rfl (fun c49 => ?_) (fun c49 => ?_)
              · have h := z_ie c49 h
                refine r_iconst (v := 0) X rfl dL_areBlocks_134 135 rfl ?_
                cases h
                exact hJ30
              · have h := z_it c49 h
                refine r_iconst (v := 1) X rfl dL_areBlocks_130 131 rfl ?_
                refine r_goto X dL_areBlocks_131 135 (by decide) ?_
                cases h
                exact hJ30
        have h := hT24
        refine r_if_ne X dL_areBlocks_55 69 (by decide) 58 rfl (fun c23 => ?_) (fun c23 => ?_)
        · have h := z_ie c23 h
          refine r_iconst (v := 1) X rfl dL_areBlocks_69 70 rfl ?_
          refine r_goto X dL_areBlocks_70 74 (by decide) ?_
          refine r_sub [(0, .ref (b + a0)), (1, .ref (b + a1)), (2, .ref (b + a2)), (3, .ref (b + a3)), (4, .int (x1 + j21)), (7, .int x4)] [0, 1, 2, 3, 4, 6] rfl ?_
          cases h
          exact hJ24
        · have h := z_it c23 h
          refine r_aload_n X 2 rfl dL_areBlocks_58 59 rfl ?_
          refine r_iload X 6 rfl dL_areBlocks_59 61 rfl ?_
          refine r_bipush (v := 62) X rfl dL_areBlocks_61 63 rfl ?_
          obtain ⟨x50, e50, h⟩ := z_bd h
          refine r_callS (rest := [.int x2]) X (tL_has hl G b a2 ha2 x4 62 M e50) zy_L_has zs_L_has km_L_23 rfl ⟨rfl, rfl⟩ ⟨rfl, rfl⟩ rfl rfl (Nat.le_of_ble_eq_true rfl) ⟨Nat.zero_le _, Nat.zero_le _⟩ dL_areBlocks_63 66 rfl [.int x50, .int x2] rfl ?_
          refine r_if_eq X dL_areBlocks_66 73 (by decide) 69 rfl (fun c51 => ?_) (fun c51 => ?_)
          · have h := z_it c51 h
            refine r_iconst (v := 0) X rfl dL_areBlocks_73 74 rfl ?_
            refine r_sub [(0, .ref (b + a0)), (1, .ref (b + a1)), (2, .ref (b + a2)), (3, .ref (b + a3)), (4, .int (x1 + j21)), (7, .int x4)] [0, 1, 2, 3, 4, 6] rfl ?_
            cases h
            exact hJ24
          · have h := z_ie c51 h
            refine r_iconst (v := 1) X rfl dL_areBlocks_69 70 rfl ?_
            refine r_goto X dL_areBlocks_70 74 (by decide) ?_
            refine r_sub [(0, .ref (b + a0)), (1, .ref (b + a1)), (2, .ref (b + a2)), (3, .ref (b + a3)), (4, .int (x1 + j21)), (7, .int x4)] [0, 1, 2, 3, 4, 6] rfl ?_
            cases h
            exact hJ24
      have h := hT21
      refine r_if_eq X dL_areBlocks_34 41 (by decide) 37 rfl (fun c20 => ?_) (fun c20 => ?_)
      · have h := z_it c20 h
        refine r_iconst (v := 0) X rfl dL_areBlocks_41 42 rfl ?_
        refine r_sub [(0, .ref (b + a0)), (1, .ref (b + a1)), (2, .ref (b + a2)), (3, .ref (b + a3)), (5, .int x2), (7, .int x4)] [0, 1, 2, 3, 5, 7] rfl ?_
        cases h
        exact hJ21
      · have h := z_ie c20 h
        refine r_iconst (v := 1) X rfl dL_areBlocks_37 38 rfl ?_
        refine r_goto X dL_areBlocks_38 42 (by decide) ?_
        refine r_sub [(0, .ref (b + a0)), (1, .ref (b + a1)), (2, .ref (b + a2)), (3, .ref (b + a3)), (5, .int x2), (7, .int x4)] [0, 1, 2, 3, 5, 7] rfl ?_
        cases h
        exact hJ21
set_option maxRecDepth 100000 in
set_option maxHeartbeats 1000000 in
theorem tL_isSet {l : Launch} (hl : l.stackTraces = false) (G : zG) (b : Nat) (a0 : Nat) (ha0 : z_kd a0 = 6) (a1 : Nat) (ha1 : z_kd a1 = 8) (hna1 : z_ln a1 = 28) (a2 : Nat) (ha2 : z_kd a2 = 10) (a3 : Nat) (ha3 : z_kd a3 = 8) (hna3 : z_ln a3 = 32) (a4 : Int32) (M : zM) {r9 : Int32} {M9 : zM} (h : fL_isSet a0 a1 a2 a3 a4 M = some (r9, M9)) : z_MN l yL_isSet cL_isSet 9 (some .boolean) { frames := 8, cells := 0, slots := 0, locals := 138 } G b [.ref (b + a0), .ref (b + a1), .ref (b + a2), .ref (b + a3), .int a4] M (some (.int r9)) M9 := by
  refine z_met (own := RL) hl (by decide) rfl rfl (fun Γ hΓ X R => ?_)
  subst hΓ
  show GW Γ G b 0 0 M 0 [(0, .ref (b + a0)), (1, .ref (b + a1)), (2, .ref (b + a2)), (3, .ref (b + a3)), (4, .int a4)] []
  unfold fL_isSet at h
  refine r_iconst (v := 0) X rfl dL_isSet_0 1 rfl ?_
  refine r_istore X dL_isSet_1 3 rfl [(0, .ref (b + a0)), (1, .ref (b + a1)), (2, .ref (b + a2)), (3, .ref (b + a3)), (4, .int a4), (5, .int 0)] (by decide) [1, 2, 3, 4, 5, 0] rfl ?_
  refine r_aload_n X 0 rfl dL_isSet_3 4 rfl ?_
  refine r_iload X 4 rfl dL_isSet_4 6 rfl ?_
  obtain ⟨x1, e1, h⟩ := z_bd h
  have e1 := z_nt_of e1
  refine r_callV (rest := []) X (z_MX_ret (tX6_origin hl G b a0 ha0 a4 M (r9 := .inr x1) e1)) zy_X6_origin zw_X6_origin km_L_86 ha0 rfl zv_X6 rfl ⟨rfl, rfl⟩ ⟨rfl, rfl⟩ rfl rfl (Nat.le_of_ble_eq_true rfl) ⟨Nat.zero_le _, Nat.zero_le _⟩ dL_isSet_6 9 rfl [.int x1] rfl ?_
  refine r_aload_n X 3 rfl dL_isSet_9 10 rfl ?_
  refine r_bipush (v := 8) X rfl dL_isSet_10 12 rfl ?_
  refine r_iload X 4 rfl dL_isSet_12 14 rfl ?_
  refine r_iadd X dL_isSet_14 15 rfl ?_
  obtain ⟨x2, e2, h⟩ := z_bd h
  refine r_iaload X ha3 hna3 e2 dL_isSet_15 16 rfl ?_
  refine r_iconst (v := 1) X rfl dL_isSet_16 17 rfl ?_
  refine r_isub X dL_isSet_17 18 rfl ?_
  obtain ⟨j4, M5, hT5, h⟩ := z_bd2 h
  have hJ5 : GW Γ G b 0 0 M5 62 [(0, .ref (b + a0)), (1, .ref (b + a1)), (2, .ref (b + a2)), (3, .ref (b + a3)), (4, .int a4), (5, .int 0)] [.int j4] := by
    refine r_istore X dL_isSet_62 64 rfl [(0, .ref (b + a0)), (1, .ref (b + a1)), (2, .ref (b + a2)), (3, .ref (b + a3)), (4, .int a4), (5, .int 0), (6, .int j4)] (by decide) [1, 2, 3, 4, 5, 6, 0] rfl ?_
    refine r_iconst (v := 0) X rfl dL_isSet_64 65 rfl ?_
    refine r_istore X dL_isSet_65 67 rfl [(0, .ref (b + a0)), (1, .ref (b + a1)), (2, .ref (b + a2)), (3, .ref (b + a3)), (4, .int a4), (5, .int 0), (6, .int j4), (7, .int 0)] (by decide) [1, 2, 3, 4, 5, 6, 7, 0] rfl ?_
    obtain ⟨x9, x10, hL11, h⟩ := z_bd2 h
    have hK11 : GW Γ G b 0 0 M5 236 [(0, .ref (b + a0)), (3, .ref (b + a3)), (4, .int a4), (5, .int x9), (6, .int x10)] [] := by
      refine r_iconst (v := 0) X rfl dL_isSet_236 237 rfl ?_
      refine r_istore X dL_isSet_237 239 rfl [(0, .ref (b + a0)), (3, .ref (b + a3)), (4, .int a4), (5, .int x9), (6, .int x10), (7, .int 0)] (by decide) [1, 2, 3, 4, 5, 0] rfl ?_
      refine r_aload_n X 1 rfl dL_isSet_239 240 rfl ?_
      refine r_iload X 2 rfl dL_isSet_240 242 rfl ?_
      refine r_iconst (v := 0) X rfl dL_isSet_242 243 rfl ?_
      obtain ⟨x12, e12, h⟩ := z_bd h
      refine r_callS (rest := []) X (tL_numberAt hl G b a3 ha3 hna3 a4 0 M5 e12) zy_L_numberAt zs_L_numberAt km_L_112 rfl ⟨rfl, rfl⟩ ⟨rfl, rfl⟩ rfl rfl (Nat.le_of_ble_eq_true rfl) ⟨Nat.zero_le _, Nat.zero_le _⟩ dL_isSet_243 246 rfl [.int x12] rfl ?_
      refine r_istore X dL_isSet_246 248 rfl [(0, .ref (b + a0)), (3, .ref (b + a3)), (4, .int a4), (5, .int x9), (6, .int x10), (7, .int 0), (8, .int x12)] (by decide) [1, 2, 3, 4, 5, 6, 0] rfl ?_
      obtain ⟨x16, x17, hL18, h⟩ := z_bd2 h
      have hK18 : GW Γ G b 0 0 M5 294 [(0, .ref (b + a0)), (3, .ref (b + a3)), (4, .int a4), (5, .int x9), (6, .int x16), (7, .int x17)] [] := by
        refine r_iload X 4 rfl dL_isSet_294 296 rfl ?_
        refine r_if_eq X dL_isSet_296 330 (by decide) 299 rfl (fun c19 => ?_) (fun c19 => ?_)
        · have h := z_it c19 h
          refine r_iconst (v := 0) X rfl dL_isSet_330 331 rfl ?_
          cases h
          exact r_iret X R rfl dL_isSet_331
        · have h := z_ie c19 h
          refine r_aload_n X 0 rfl dL_isSet_299 300 rfl ?_
          refine r_iload X 2 rfl dL_isSet_300 302 rfl ?_
          obtain ⟨x20, e20, h⟩ := z_bd h
          have e20 := z_nt_of e20
          refine r_callV (rest := []) X (z_MX_ret (tX6_snapshots hl G b a0 ha0 a4 M5 (r9 := .inr x20) e20)) zy_X6_snapshots zw_X6_snapshots km_L_119 ha0 rfl zv_X6 rfl ⟨rfl, rfl⟩ ⟨rfl, rfl⟩ rfl rfl (Nat.le_of_ble_eq_true rfl) ⟨Nat.zero_le _, Nat.zero_le _⟩ dL_isSet_302 305 rfl [.int x20] rfl ?_
          refine r_iload X 5 rfl dL_isSet_305 307 rfl ?_
          refine r_icmp_ne X dL_isSet_307 330 (by decide) 310 rfl (fun c21 => ?_) (fun c21 => ?_)
          · have h := z_ie c21 h
            refine r_iconst (v := 0) X rfl dL_isSet_330 331 rfl ?_
            cases h
            exact r_iret X R rfl dL_isSet_331
          · have h := z_it c21 h
            refine r_aload_n X 0 rfl dL_isSet_310 311 rfl ?_
            refine r_iload X 2 rfl dL_isSet_311 313 rfl ?_
            refine r_aload_n X 1 rfl dL_isSet_313 314 rfl ?_
            refine r_iconst (v := 0) X rfl dL_isSet_314 315 rfl ?_
            obtain ⟨x22, e22, h⟩ := z_bd h
            refine r_iaload X ha3 hna3 e22 dL_isSet_315 316 rfl ?_
            refine r_iconst (v := 2) X rfl dL_isSet_316 317 rfl ?_
            refine r_isub X dL_isSet_317 318 rfl ?_
            obtain ⟨x23, e23, h⟩ := z_bd h
            have e23 := z_nt_of e23
            refine r_callV (rest := []) X (z_MX_ret (tX6_newer hl G b a0 ha0 a4 (x22 - 2) M5 (r9 := .inr x23) e23)) zy_X6_newer zw_X6_newer km_L_122 ha0 rfl zv_X6 rfl ⟨rfl, rfl⟩ ⟨rfl, rfl⟩ rfl rfl (Nat.le_of_ble_eq_true rfl) ⟨Nat.zero_le _, Nat.zero_le _⟩ dL_isSet_318 321 rfl [.int x23] rfl ?_
            refine r_iload X 3 rfl dL_isSet_321 323 rfl ?_
            refine r_icmp_ne X dL_isSet_323 330 (by decide) 326 rfl (fun c24 => ?_) (fun c24 => ?_)
            · have h := z_ie c24 h
              refine r_iconst (v := 0) X rfl dL_isSet_330 331 rfl ?_
              cases h
              exact r_iret X R rfl dL_isSet_331
            · have h := z_it c24 h
              refine r_iconst (v := 1) X rfl dL_isSet_326 327 rfl ?_
              refine r_goto X dL_isSet_327 331 (by decide) ?_
              cases h
              exact r_iret X R rfl dL_isSet_331
      clear h
      refine z_loopP (fun (s : (Int32 × Int32 × Int32)) => GW Γ G b 0 0 M5 248 [(0, .ref (b + a0)), (3, .ref (b + a3)), (4, .int a4), (5, .int x9), (6, .int s.1), (7, .int s.2.1), (8, .int s.2.2)] []) (fun s q18 hb hP18 hx18 => ?_) _ _ hL18
      obtain ⟨x13, x14, x15⟩ := s
      have h : fL_isSet_L2 a0 a3 a4 M5 x13 x14 x15 = some q18 := hb
      unfold fL_isSet_L2 at h
      refine r_iload X 6 rfl dL_isSet_248 250 rfl ?_
      refine r_if_lt X dL_isSet_250 294 (by decide) 253 rfl (fun c25 => ?_) (fun c25 => ?_)
      · have h := z_it c25 h
        refine r_sub [(0, .ref (b + a0)), (3, .ref (b + a3)), (4, .int a4), (5, .int x9), (6, .int x13), (7, .int x14)] [0, 1, 2, 3, 4, 5] rfl ?_
        have e := hx18 _ (Option.some.inj h).symm
        cases e
        exact hK18
      · have h := z_ie c25 h
        refine r_iload X 4 rfl dL_isSet_253 255 rfl ?_
        refine r_if_eq X dL_isSet_255 294 (by decide) 258 rfl (fun c26 => ?_) (fun c26 => ?_)
        · have h := z_it c26 h
          refine r_sub [(0, .ref (b + a0)), (3, .ref (b + a3)), (4, .int a4), (5, .int x9), (6, .int x13), (7, .int x14)] [0, 1, 2, 3, 4, 5] rfl ?_
          have e := hx18 _ (Option.some.inj h).symm
          cases e
          exact hK18
        · have h := z_ie c26 h
          refine r_aload_n X 0 rfl dL_isSet_258 259 rfl ?_
          refine r_iload X 2 rfl dL_isSet_259 261 rfl ?_
          refine r_iload X 5 rfl dL_isSet_261 263 rfl ?_
          obtain ⟨x27, e27, h⟩ := z_bd h
          have e27 := z_nt_of e27
          refine r_callV (rest := []) X (z_MX_ret (tX6_snapshotAt hl G b a0 ha0 a4 x14 M5 (r9 := .inr x27) e27)) zy_X6_snapshotAt zw_X6_snapshotAt km_L_116 ha0 rfl zv_X6 rfl ⟨rfl, rfl⟩ ⟨rfl, rfl⟩ rfl rfl (Nat.le_of_ble_eq_true rfl) ⟨Nat.zero_le _, Nat.zero_le _⟩ dL_isSet_263 266 rfl [.int x27] rfl ?_
          refine r_iload X 6 rfl dL_isSet_266 268 rfl ?_
          obtain ⟨j29, hT29, h⟩ := z_bd h
          have hJ29 : GW Γ G b 0 0 M5 276 [(0, .ref (b + a0)), (3, .ref (b + a3)), (4, .int a4), (5, .int x9), (7, .int x14)] [.int j29] := by
            refine r_istore X dL_isSet_276 278 rfl [(0, .ref (b + a0)), (3, .ref (b + a3)), (4, .int a4), (5, .int x9), (6, .int j29), (7, .int x14)] (by decide) [1, 2, 3, 4, 0, 5] rfl ?_
            refine r_iinc X dL_isSet_278 281 rfl [(0, .ref (b + a0)), (3, .ref (b + a3)), (4, .int a4), (5, .int x9), (6, .int j29), (7, .int (x14 + 1))] (by decide) 5 rfl (x14 + 1) rfl [1, 2, 3, 4, 5, 0] rfl ?_
            refine r_aload_n X 1 rfl dL_isSet_281 282 rfl ?_
            refine r_iload X 2 rfl dL_isSet_282 284 rfl ?_
            refine r_iload X 5 rfl dL_isSet_284 286 rfl ?_
            obtain ⟨x30, e30, h⟩ := z_bd h
            refine r_callS (rest := []) X (tL_numberAt hl G b a3 ha3 hna3 a4 (x14 + 1) M5 e30) zy_L_numberAt zs_L_numberAt km_L_112 rfl ⟨rfl, rfl⟩ ⟨rfl, rfl⟩ rfl rfl (Nat.le_of_ble_eq_true rfl) ⟨Nat.zero_le _, Nat.zero_le _⟩ dL_isSet_286 289 rfl [.int x30] rfl ?_
            refine r_istore X dL_isSet_289 291 rfl [(0, .ref (b + a0)), (3, .ref (b + a3)), (4, .int a4), (5, .int x9), (6, .int j29), (7, .int (x14 + 1)), (8, .int x30)] (by decide) [1, 2, 3, 4, 5, 6, 0] rfl ?_
            refine r_goto X dL_isSet_291 248 (by decide) ?_
            exact hP18 (j29, (x14 + 1), x30) (Option.some.inj h).symm
          have h := hT29
          refine r_icmp_ne X dL_isSet_268 275 (by decide) 271 rfl (fun c28 => ?_) (fun c28 => ?_)
          · have h := z_ie c28 h
            refine r_iconst (v := 0) X rfl dL_isSet_275 276 rfl ?_
            refine r_sub [(0, .ref (b + a0)), (3, .ref (b + a3)), (4, .int a4), (5, .int x9), (7, .int x14)] [0, 1, 2, 3, 5] rfl ?_
            cases h
            exact hJ29
          · have h := z_it c28 h
            refine r_iconst (v := 1) X rfl dL_isSet_271 272 rfl ?_
            refine r_goto X dL_isSet_272 276 (by decide) ?_
            refine r_sub [(0, .ref (b + a0)), (3, .ref (b + a3)), (4, .int a4), (5, .int x9), (7, .int x14)] [0, 1, 2, 3, 5] rfl ?_
            cases h
            exact hJ29
    clear h
    refine z_loopP (fun (s : (Int32 × Int32 × Int32)) => GW Γ G b 0 0 M5 67 [(0, .ref (b + a0)), (1, .ref (b + a1)), (2, .ref (b + a2)), (3, .ref (b + a3)), (4, .int a4), (5, .int s.1), (6, .int s.2.1), (7, .int s.2.2)] []) (fun s q11 hb hP11 hx11 => ?_) _ _ hL11
    obtain ⟨x6, x7, x8⟩ := s
    have h : fL_isSet_L1 a0 a1 a2 a3 a4 M5 x6 x7 x8 = some q11 := hb
    unfold fL_isSet_L1 at h
    refine r_iload X 7 rfl dL_isSet_67 69 rfl ?_
    refine r_iconst (v := 4) X rfl dL_isSet_69 70 rfl ?_
    refine r_icmp_ge X dL_isSet_70 236 (by decide) 73 rfl (fun c31 => ?_) (fun c31 => ?_)
    · have h := z_it c31 h
      refine r_sub [(0, .ref (b + a0)), (3, .ref (b + a3)), (4, .int a4), (5, .int x6), (6, .int x7)] [0, 3, 4, 5, 6] rfl ?_
      have e := hx11 _ (Option.some.inj h).symm
      cases e
      exact hK11
    · have h := z_ie c31 h
      refine r_iload X 6 rfl dL_isSet_73 75 rfl ?_
      refine r_if_eq X dL_isSet_75 236 (by decide) 78 rfl (fun c32 => ?_) (fun c32 => ?_)
      · have h := z_it c32 h
        refine r_sub [(0, .ref (b + a0)), (3, .ref (b + a3)), (4, .int a4), (5, .int x6), (6, .int x7)] [0, 3, 4, 5, 6] rfl ?_
        have e := hx11 _ (Option.some.inj h).symm
        cases e
        exact hK11
      · have h := z_ie c32 h
        refine r_aload_n X 1 rfl dL_isSet_78 79 rfl ?_
        refine r_iconst (v := 4) X rfl dL_isSet_79 80 rfl ?_
        refine r_iload X 4 rfl dL_isSet_80 82 rfl ?_
        refine r_imul X dL_isSet_82 83 rfl ?_
        refine r_iload X 7 rfl dL_isSet_83 85 rfl ?_
        refine r_iadd X dL_isSet_85 86 rfl ?_
        obtain ⟨x33, e33, h⟩ := z_bd h
        refine r_iaload X ha1 hna1 e33 dL_isSet_86 87 rfl ?_
        refine r_istore X dL_isSet_87 89 rfl [(0, .ref (b + a0)), (1, .ref (b + a1)), (2, .ref (b + a2)), (3, .ref (b + a3)), (4, .int a4), (5, .int x6), (7, .int x8), (8, .int x33)] (by decide) [1, 2, 3, 4, 5, 6, 8, 0] rfl ?_
        refine r_iload X 5 rfl dL_isSet_89 91 rfl ?_
        refine r_iload X 7 rfl dL_isSet_91 93 rfl ?_
        obtain ⟨j35, hT35, h⟩ := z_bd h
        have hJ35 : GW Γ G b 0 0 M5 120 [(0, .ref (b + a0)), (1, .ref (b + a1)), (2, .ref (b + a2)), (3, .ref (b + a3)), (4, .int a4), (7, .int x8), (8, .int x33)] [.int j35, .int x6] := by
          refine r_iadd X dL_isSet_120 121 rfl ?_
          refine r_istore X dL_isSet_121 123 rfl [(0, .ref (b + a0)), (1, .ref (b + a1)), (2, .ref (b + a2)), (3, .ref (b + a3)), (4, .int a4), (5, .int (x6 + j35)), (7, .int x8), (8, .int x33)] (by decide) [1, 2, 3, 4, 5, 0, 6, 7] rfl ?_
          refine r_aload_n X 0 rfl dL_isSet_123 124 rfl ?_
          refine r_iload X 4 rfl dL_isSet_124 126 rfl ?_
          refine r_iload X 6 rfl dL_isSet_126 128 rfl ?_
          refine r_iconst (v := 2) X rfl dL_isSet_128 129 rfl ?_
          refine r_idiv X (by decide) dL_isSet_129 130 rfl ?_
          refine r_iload X 6 rfl dL_isSet_130 132 rfl ?_
          refine r_iconst (v := 2) X rfl dL_isSet_132 133 rfl ?_
          refine r_irem X (by decide) dL_isSet_133 134 rfl ?_
          obtain ⟨x36, e36, h⟩ := z_bd h
          have e36 := z_nt_of e36
          refine r_callV (rest := []) X (z_MX_ret (tX6_blockAt hl G b a0 ha0 a4 (x8 / 2) (x8 - x8 / 2 * 2) M5 (r9 := .inr x36) e36)) zy_X6_blockAt zw_X6_blockAt km_L_99 ha0 rfl zv_X6 rfl ⟨rfl, rfl⟩ ⟨rfl, rfl⟩ rfl rfl (Nat.le_of_ble_eq_true rfl) ⟨Nat.zero_le _, Nat.zero_le _⟩ dL_isSet_134 137 rfl [.int x36] rfl ?_
          refine r_iload X 7 rfl dL_isSet_137 139 rfl ?_
          refine r_iconst (v := 1) X rfl dL_isSet_139 140 rfl ?_
          refine r_isub X dL_isSet_140 141 rfl ?_
          refine r_icmp_ne X dL_isSet_141 227 (by decide) 144 rfl (fun c37 => ?_) (fun c37 => ?_)
          · have h := z_ie c37 h
            refine r_iconst (v := 0) X rfl dL_isSet_227 228 rfl ?_
            refine r_istore X dL_isSet_228 230 rfl [(0, .ref (b + a0)), (1, .ref (b + a1)), (2, .ref (b + a2)), (3, .ref (b + a3)), (4, .int a4), (5, .int (x6 + j35)), (6, .int 0), (7, .int x8)] (by decide) [1, 2, 3, 4, 5, 6, 0, 7] rfl ?_
            refine r_iinc X dL_isSet_230 233 rfl [(0, .ref (b + a0)), (1, .ref (b + a1)), (2, .ref (b + a2)), (3, .ref (b + a3)), (4, .int a4), (5, .int (x6 + j35)), (6, .int 0), (7, .int (x8 + 1))] (by decide) 7 rfl (x8 + 1) rfl [1, 2, 3, 4, 5, 6, 7, 0] rfl ?_
            refine r_goto X dL_isSet_233 67 (by decide) ?_
            exact hP11 ((x6 + j35), 0, (x8 + 1)) (Option.some.inj h).symm
          · have h := z_it c37 h
            refine r_aload_n X 0 rfl dL_isSet_144 145 rfl ?_
            refine r_iload X 4 rfl dL_isSet_145 147 rfl ?_
            refine r_iload X 6 rfl dL_isSet_147 149 rfl ?_
            refine r_iconst (v := 2) X rfl dL_isSet_149 150 rfl ?_
            refine r_idiv X (by decide) dL_isSet_150 151 rfl ?_
            refine r_iload X 6 rfl dL_isSet_151 153 rfl ?_
            refine r_iconst (v := 2) X rfl dL_isSet_153 154 rfl ?_
            refine r_irem X (by decide) dL_isSet_154 155 rfl ?_
            obtain ⟨x38, e38, h⟩ := z_bd h
            have e38 := z_nt_of e38
            refine r_callV (rest := []) X (z_MX_ret (tX6_read hl G b a0 ha0 a4 (x8 / 2) (x8 - x8 / 2 * 2) M5 (r9 := .inr x38) e38)) zy_X6_read zw_X6_read km_L_103 ha0 rfl zv_X6 rfl ⟨rfl, rfl⟩ ⟨rfl, rfl⟩ rfl rfl (Nat.le_of_ble_eq_true rfl) ⟨Nat.zero_le _, Nat.zero_le _⟩ dL_isSet_155 158 rfl [.int x38] rfl ?_
            refine r_aload_n X 2 rfl dL_isSet_158 159 rfl ?_
            refine r_iload X 7 rfl dL_isSet_159 161 rfl ?_
            obtain ⟨x39, e39, h⟩ := z_bd h
            refine r_callS (rest := [.int x38]) X (tL_value hl G b a2 ha2 x33 M5 e39) zy_L_value zs_L_value km_L_106 rfl ⟨rfl, rfl⟩ ⟨rfl, rfl⟩ rfl rfl (Nat.le_of_ble_eq_true rfl) ⟨Nat.zero_le _, Nat.zero_le _⟩ dL_isSet_161 164 rfl [.int x39, .int x38] rfl ?_
            refine r_icmp_ne X dL_isSet_164 227 (by decide) 167 rfl (fun c40 => ?_) (fun c40 => ?_)
            · have h := z_ie c40 h
              refine r_iconst (v := 0) X rfl dL_isSet_227 228 rfl ?_
              refine r_istore X dL_isSet_228 230 rfl [(0, .ref (b + a0)), (1, .ref (b + a1)), (2, .ref (b + a2)), (3, .ref (b + a3)), (4, .int a4), (5, .int (x6 + j35)), (6, .int 0), (7, .int x8)] (by decide) [1, 2, 3, 4, 5, 6, 0, 7] rfl ?_
              refine r_iinc X dL_isSet_230 233 rfl [(0, .ref (b + a0)), (1, .ref (b + a1)), (2, .ref (b + a2)), (3, .ref (b + a3)), (4, .int a4), (5, .int (x6 + j35)), (6, .int 0), (7, .int (x8 + 1))] (by decide) 7 rfl (x8 + 1) rfl [1, 2, 3, 4, 5, 6, 7, 0] rfl ?_
              refine r_goto X dL_isSet_233 67 (by decide) ?_
              exact hP11 ((x6 + j35), 0, (x8 + 1)) (Option.some.inj h).symm
            · have h := z_it c40 h
              refine r_aload_n X 0 rfl dL_isSet_167 168 rfl ?_
              refine r_iload X 4 rfl dL_isSet_168 170 rfl ?_
              refine r_iload X 6 rfl dL_isSet_170 172 rfl ?_
              refine r_iconst (v := 2) X rfl dL_isSet_172 173 rfl ?_
              refine r_idiv X (by decide) dL_isSet_173 174 rfl ?_
              obtain ⟨x41, e41, h⟩ := z_bd h
              have e41 := z_nt_of e41
              refine r_callV (rest := []) X (z_MX_ret (tX6_length hl G b a0 ha0 a4 (x8 / 2) M5 (r9 := .inr x41) e41)) zy_X6_length zw_X6_length km_L_109 ha0 rfl zv_X6 rfl ⟨rfl, rfl⟩ ⟨rfl, rfl⟩ rfl rfl (Nat.le_of_ble_eq_true rfl) ⟨Nat.zero_le _, Nat.zero_le _⟩ dL_isSet_174 177 rfl [.int x41] rfl ?_
              refine r_aload_n X 1 rfl dL_isSet_177 178 rfl ?_
              refine r_iconst (v := 4) X rfl dL_isSet_178 179 rfl ?_
              refine r_iload X 4 rfl dL_isSet_179 181 rfl ?_
              refine r_imul X dL_isSet_181 182 rfl ?_
              refine r_iload X 6 rfl dL_isSet_182 184 rfl ?_
              refine r_iconst (v := 2) X rfl dL_isSet_184 185 rfl ?_
              refine r_idiv X (by decide) dL_isSet_185 186 rfl ?_
              refine r_iconst (v := 2) X rfl dL_isSet_186 187 rfl ?_
              refine r_imul X dL_isSet_187 188 rfl ?_
              refine r_iadd X dL_isSet_188 189 rfl ?_
              refine r_iconst (v := 1) X rfl dL_isSet_189 190 rfl ?_
              refine r_iadd X dL_isSet_190 191 rfl ?_
              obtain ⟨x42, e42, h⟩ := z_bd h
              refine r_iaload X ha1 hna1 e42 dL_isSet_191 192 rfl ?_
              obtain ⟨j44, hT44, h⟩ := z_bd h
              have hJ44 : GW Γ G b 0 0 M5 220 [(0, .ref (b + a0)), (1, .ref (b + a1)), (2, .ref (b + a2)), (3, .ref (b + a3)), (4, .int a4), (5, .int (x6 + j35)), (7, .int x8)] [.int j44, .int x41] := by
                refine r_icmp_ne X dL_isSet_220 227 (by decide) 223 rfl (fun c45 => ?_) (fun c45 => ?_)
                · have h := z_ie c45 h
                  refine r_iconst (v := 0) X rfl dL_isSet_227 228 rfl ?_
                  refine r_istore X dL_isSet_228 230 rfl [(0, .ref (b + a0)), (1, .ref (b + a1)), (2, .ref (b + a2)), (3, .ref (b + a3)), (4, .int a4), (5, .int (x6 + j35)), (6, .int 0), (7, .int x8)] (by decide) [1, 2, 3, 4, 5, 6, 0, 7] rfl ?_
                  refine r_iinc X dL_isSet_230 233 rfl [(0, .ref (b + a0)), (1, .ref (b + a1)), (2, .ref (b + a2)), (3, .ref (b + a3)), (4, .int a4), (5, .int (x6 + j35)), (6, .int 0), (7, .int (x8 + 1))] (by decide) 7 rfl (x8 + 1) rfl [1, 2, 3, 4, 5, 6, 7, 0] rfl ?_
                  refine r_goto X dL_isSet_233 67 (by decide) ?_
                  exact hP11 ((x6 + j35), 0, (x8 + 1)) (Option.some.inj h).symm
                · have h := z_it c45 h
                  refine r_iconst (v := 1) X rfl dL_isSet_223 224 rfl ?_
                  refine r_goto X dL_isSet_224 228 (by decide) ?_
                  refine r_istore X dL_isSet_228 230 rfl [(0, .ref (b + a0)), (1, .ref (b + a1)), (2, .ref (b + a2)), (3, .ref (b + a3)), (4, .int a4), (5, .int (x6 + j35)), (6, .int 1), (7, .int x8)] (by decide) [1, 2, 3, 4, 5, 6, 0, 7] rfl ?_
                  refine r_iinc X dL_isSet_230 233 rfl [(0, .ref (b + a0)), (1, .ref (b + a1)), (2, .ref (b + a2)), (3, .ref (b + a3)), (4, .int a4), (5, .int (x6 + j35)), (6, .int 1), (7, .int (x8 + 1))] (by decide) 7 rfl (x8 + 1) rfl [1, 2, 3, 4, 5, 6, 7, 0] rfl ?_
                  refine r_goto X dL_isSet_233 67 (by decide) ?_
                  exact hP11 ((x6 + j35), 1, (x8 + 1)) (Option.some.inj h).symm
              have h := hT44
              refine r_if_le X dL_isSet_192 199 (by decide) 195 rfl (fun c43 => ?_) (fun c43 => ?_)
              · have h := z_it c43 h
                refine r_aload_n X 1 rfl dL_isSet_199 200 rfl ?_
                refine r_iconst (v := 4) X rfl dL_isSet_200 201 rfl ?_
                refine r_iload X 4 rfl dL_isSet_201 203 rfl ?_
                refine r_imul X dL_isSet_203 204 rfl ?_
                refine r_iload X 6 rfl dL_isSet_204 206 rfl ?_
                refine r_iconst (v := 2) X rfl dL_isSet_206 207 rfl ?_
                refine r_idiv X (by decide) dL_isSet_207 208 rfl ?_
                refine r_iconst (v := 2) X rfl dL_isSet_208 209 rfl ?_
                refine r_imul X dL_isSet_209 210 rfl ?_
                refine r_iadd X dL_isSet_210 211 rfl ?_
                obtain ⟨x46, e46, h⟩ := z_bd h
                refine r_iaload X ha1 hna1 e46 dL_isSet_211 212 rfl ?_
                refine r_if_le X dL_isSet_212 219 (by decide) 215 rfl (fun c47 => ?_) (fun c47 => ?_)
                · have h := z_it c47 h
                  refine r_iconst (v := 0) X rfl dL_isSet_219 220 rfl ?_
                  refine r_sub [(0, .ref (b + a0)), (1, .ref (b + a1)), (2, .ref (b + a2)), (3, .ref (b + a3)), (4, .int a4), (5, .int (x6 + j35)), (7, .int x8)] [0, 1, 2, 3, 4, 5, 6] rfl ?_
                  cases h
                  exact hJ44
                · have h := z_ie c47 h
                  refine r_iconst (v := 1) X rfl dL_isSet_215 216 rfl ?_
                  refine r_goto X dL_isSet_216 220 (by decide) ?_
                  refine r_sub [(0, .ref (b + a0)), (1, .ref (b + a1)), (2, .ref (b + a2)), (3, .ref (b + a3)), (4, .int a4), (5, .int (x6 + j35)), (7, .int x8)] [0, 1, 2, 3, 4, 5, 6] rfl ?_
                  cases h
                  exact hJ44
              · have h := z_ie c43 h
                refine r_iconst (v := 2) X rfl dL_isSet_195 196 rfl ?_
                refine r_goto X dL_isSet_196 220 (by decide) ?_
                refine r_sub [(0, .ref (b + a0)), (1, .ref (b + a1)), (2, .ref (b + a2)), (3, .ref (b + a3)), (4, .int a4), (5, .int (x6 + j35)), (7, .int x8)] [0, 1, 2, 3, 4, 5, 6] rfl ?_
                cases h
                exact hJ44
        have h := hT35
        refine r_if_le X dL_isSet_93 119 (by decide) 96 rfl (fun c34 => ?_) (fun c34 => ?_)
        · have h := z_it c34 h
          refine r_iconst (v := 0) X rfl dL_isSet_119 120 rfl ?_
          refine r_sub [(0, .ref (b + a0)), (1, .ref (b + a1)), (2, .ref (b + a2)), (3, .ref (b + a3)), (4, .int a4), (7, .int x8), (8, .int x33)] [0, 1, 2, 3, 4, 6, 7] rfl ?_
          cases h
          exact hJ35
        · have h := z_ie c34 h
          refine r_aload_n X 2 rfl dL_isSet_96 97 rfl ?_
          refine r_iload X 7 rfl dL_isSet_97 99 rfl ?_
          refine r_iconst (v := 1) X rfl dL_isSet_99 100 rfl ?_
          refine r_isub X dL_isSet_100 101 rfl ?_
          obtain ⟨x48, e48, h⟩ := z_bd h
          refine r_callS (rest := [.ref (b + a2), .int x6]) X (tL_place hl G b (x33 - 1) M5 e48) zy_L_place zs_L_place km_L_83 rfl ⟨rfl, rfl⟩ ⟨rfl, rfl⟩ rfl rfl (Nat.le_of_ble_eq_true rfl) ⟨Nat.zero_le _, Nat.zero_le _⟩ dL_isSet_101 104 rfl [.int x48, .ref (b + a2), .int x6] rfl ?_
          obtain ⟨x49, e49, h⟩ := z_bd h
          refine r_callS (rest := [.int x6]) X (tL_birth hl G b a2 ha2 x48 M5 e49) zy_L_birth zs_L_birth km_L_27 rfl ⟨rfl, rfl⟩ ⟨rfl, rfl⟩ rfl rfl (Nat.le_of_ble_eq_true rfl) ⟨Nat.zero_le _, Nat.zero_le _⟩ dL_isSet_104 107 rfl [.int x49, .int x6] rfl ?_
          refine r_aload_n X 3 rfl dL_isSet_107 108 rfl ?_
          refine r_iconst (v := 0) X rfl dL_isSet_108 109 rfl ?_
          obtain ⟨x50, e50, h⟩ := z_bd h
          refine r_iaload X ha3 hna3 e50 dL_isSet_109 110 rfl ?_
          refine r_iconst (v := 2) X rfl dL_isSet_110 111 rfl ?_
          refine r_isub X dL_isSet_111 112 rfl ?_
          refine r_icmp_le X dL_isSet_112 119 (by decide) 115 rfl (fun c51 => ?_) (fun c51 => ?_)
          · have h := z_it c51 h
            refine r_iconst (v := 0) X rfl dL_isSet_119 120 rfl ?_
            refine r_sub [(0, .ref (b + a0)), (1, .ref (b + a1)), (2, .ref (b + a2)), (3, .ref (b + a3)), (4, .int a4), (7, .int x8), (8, .int x33)] [0, 1, 2, 3, 4, 6, 7] rfl ?_
            cases h
            exact hJ35
          · have h := z_ie c51 h
            refine r_iconst (v := 1) X rfl dL_isSet_115 116 rfl ?_
            refine r_goto X dL_isSet_116 120 (by decide) ?_
            refine r_sub [(0, .ref (b + a0)), (1, .ref (b + a1)), (2, .ref (b + a2)), (3, .ref (b + a3)), (4, .int a4), (7, .int x8), (8, .int x33)] [0, 1, 2, 3, 4, 6, 7] rfl ?_
            cases h
            exact hJ35
  have h := hT5
  refine r_icmp_ne X dL_isSet_18 61 (by decide) 21 rfl (fun c3 => ?_) (fun c3 => ?_)
  · have h := z_ie c3 h
    refine r_iconst (v := 0) X rfl dL_isSet_61 62 rfl ?_
    cases h
    exact hJ5
  · have h := z_it c3 h
    refine r_aload_n X 0 rfl dL_isSet_21 22 rfl ?_
    refine r_iload X 4 rfl dL_isSet_22 24 rfl ?_
    obtain ⟨x52, M53, e52, h⟩ := z_bd2 h
    have e52 := z_ntw_of e52
    refine r_callV (rest := []) X (z_MX_ret (tX6_referenced hl G b a0 ha0 a4 M (r9 := .inr x52) e52)) zy_X6_referenced zw_X6_referenced km_L_89 ha0 rfl zv_X6 rfl ⟨rfl, rfl⟩ ⟨rfl, rfl⟩ rfl rfl (Nat.le_of_ble_eq_true rfl) ⟨Nat.zero_le _, Nat.zero_le _⟩ dL_isSet_24 27 rfl [.int x52] rfl ?_
    refine r_aload_n X 1 rfl dL_isSet_27 28 rfl ?_
    refine r_iconst (v := 4) X rfl dL_isSet_28 29 rfl ?_
    refine r_iload X 4 rfl dL_isSet_29 31 rfl ?_
    refine r_imul X dL_isSet_31 32 rfl ?_
    refine r_iconst (v := 0) X rfl dL_isSet_32 33 rfl ?_
    obtain ⟨x54, e54, h⟩ := z_bd h
    refine r_callS (rest := [.int x52]) X (tL_blocks hl G b a1 ha1 hna1 (4 * a4) 0 M53 e54) zy_L_blocks zs_L_blocks km_L_92 rfl ⟨rfl, rfl⟩ ⟨rfl, rfl⟩ rfl rfl (Nat.le_of_ble_eq_true rfl) ⟨Nat.zero_le _, Nat.zero_le _⟩ dL_isSet_33 36 rfl [.int x54, .int x52] rfl ?_
    refine r_icmp_ne X dL_isSet_36 61 (by decide) 39 rfl (fun c55 => ?_) (fun c55 => ?_)
    · have h := z_ie c55 h
      refine r_iconst (v := 0) X rfl dL_isSet_61 62 rfl ?_
      cases h
      exact hJ5
    · have h := z_it c55 h
      refine r_aload_n X 0 rfl dL_isSet_39 40 rfl ?_
      refine r_iload X 4 rfl dL_isSet_40 42 rfl ?_
      obtain ⟨x56, M57, e56, h⟩ := z_bd2 h
      have e56 := z_ntw_of e56
      refine r_callV (rest := []) X (z_MX_ret (tX6_unique hl G b a0 ha0 a4 M53 (r9 := .inr x56) e56)) zy_X6_unique zw_X6_unique km_L_96 ha0 rfl zv_X6 rfl ⟨rfl, rfl⟩ ⟨rfl, rfl⟩ rfl rfl (Nat.le_of_ble_eq_true rfl) ⟨Nat.zero_le _, Nat.zero_le _⟩ dL_isSet_42 45 rfl [.int x56] rfl ?_
      refine r_aload_n X 1 rfl dL_isSet_45 46 rfl ?_
      refine r_iconst (v := 4) X rfl dL_isSet_46 47 rfl ?_
      refine r_iload X 4 rfl dL_isSet_47 49 rfl ?_
      refine r_imul X dL_isSet_49 50 rfl ?_
      refine r_iconst (v := 1) X rfl dL_isSet_50 51 rfl ?_
      obtain ⟨x58, e58, h⟩ := z_bd h
      refine r_callS (rest := [.int x56]) X (tL_blocks hl G b a1 ha1 hna1 (4 * a4) 1 M57 e58) zy_L_blocks zs_L_blocks km_L_92 rfl ⟨rfl, rfl⟩ ⟨rfl, rfl⟩ rfl rfl (Nat.le_of_ble_eq_true rfl) ⟨Nat.zero_le _, Nat.zero_le _⟩ dL_isSet_51 54 rfl [.int x58, .int x56] rfl ?_
      refine r_icmp_ne X dL_isSet_54 61 (by decide) 57 rfl (fun c59 => ?_) (fun c59 => ?_)
      · have h := z_ie c59 h
        refine r_iconst (v := 0) X rfl dL_isSet_61 62 rfl ?_
        cases h
        exact hJ5
      · have h := z_it c59 h
        refine r_iconst (v := 1) X rfl dL_isSet_57 58 rfl ?_
        refine r_goto X dL_isSet_58 62 (by decide) ?_
        cases h
        exact hJ5
set_option maxRecDepth 100000 in
set_option maxHeartbeats 1000000 in
theorem tL_areShots {l : Launch} (hl : l.stackTraces = false) (G : zG) (b : Nat) (a0 : Nat) (ha0 : z_kd a0 = 6) (a1 : Nat) (ha1 : z_kd a1 = 8) (hna1 : z_ln a1 = 28) (a2 : Nat) (ha2 : z_kd a2 = 10) (a3 : Nat) (ha3 : z_kd a3 = 8) (hna3 : z_ln a3 = 32) (M : zM) {r9 : Int32} {M9 : zM} (h : fL_areShots a0 a1 a2 a3 M = some (r9, M9)) : z_MN l yL_areShots cL_areShots 10 (some .boolean) { frames := 8, cells := 0, slots := 0, locals := 138 } G b [.ref (b + a0), .ref (b + a1), .ref (b + a2), .ref (b + a3)] M (some (.int r9)) M9 := by
  refine z_met (own := RL) hl (by decide) rfl rfl (fun Γ hΓ X R => ?_)
  subst hΓ
  show GW Γ G b 0 0 M 0 [(0, .ref (b + a0)), (1, .ref (b + a1)), (2, .ref (b + a2)), (3, .ref (b + a3))] []
  unfold fL_areShots at h
  refine r_iconst (v := 1) X rfl dL_areShots_0 1 rfl ?_
  refine r_istore X dL_areShots_1 3 rfl [(0, .ref (b + a0)), (1, .ref (b + a1)), (2, .ref (b + a2)), (3, .ref (b + a3)), (4, .int 1)] (by decide) [1, 2, 3, 4, 0] rfl ?_
  refine r_iconst (v := 0) X rfl dL_areShots_3 4 rfl ?_
  refine r_istore X dL_areShots_4 6 rfl [(0, .ref (b + a0)), (1, .ref (b + a1)), (2, .ref (b + a2)), (3, .ref (b + a3)), (4, .int 1), (5, .int 0)] (by decide) [1, 2, 3, 4, 5, 0] rfl ?_
  obtain ⟨x4, M5, hL6, h⟩ := z_bd2 h
  have hK6 : GW Γ G b 0 0 M5 300 [(4, .int x4)] [] := by
    refine r_iload X 0 rfl dL_areShots_300 302 rfl ?_
    obtain ⟨hz, h⟩ := z_bz_of h
    cases h
    exact r_iret X R hz dL_areShots_302
  clear h
  refine z_loopP (fun (s : (Int32 × Int32 × zM)) => GW Γ G b 0 0 s.2.2 6 [(0, .ref (b + a0)), (1, .ref (b + a1)), (2, .ref (b + a2)), (3, .ref (b + a3)), (4, .int s.1), (5, .int s.2.1)] []) (fun s q6 hb hP6 hx6 => ?_) _ _ hL6
  obtain ⟨x1, x2, M3⟩ := s
  have h : fL_areShots_L1 a0 a1 a2 a3 x1 x2 M3 = some q6 := hb
  unfold fL_areShots_L1 at h
  refine r_iload X 5 rfl dL_areShots_6 8 rfl ?_
  refine r_iconst (v := 4) X rfl dL_areShots_8 9 rfl ?_
  refine r_icmp_ge X dL_areShots_9 300 (by decide) 12 rfl (fun c7 => ?_) (fun c7 => ?_)
  · have h := z_it c7 h
    refine r_sub [(4, .int x1)] [4] rfl ?_
    have e := hx6 _ (Option.some.inj h).symm
    cases e
    exact hK6
  · have h := z_ie c7 h
    refine r_iload X 4 rfl dL_areShots_12 14 rfl ?_
    refine r_if_eq X dL_areShots_14 300 (by decide) 17 rfl (fun c8 => ?_) (fun c8 => ?_)
    · have h := z_it c8 h
      refine r_sub [(4, .int x1)] [4] rfl ?_
      have e := hx6 _ (Option.some.inj h).symm
      cases e
      exact hK6
    · have h := z_ie c8 h
      refine r_aload_n X 3 rfl dL_areShots_17 18 rfl ?_
      refine r_bipush (v := 12) X rfl dL_areShots_18 20 rfl ?_
      refine r_iload X 5 rfl dL_areShots_20 22 rfl ?_
      refine r_iadd X dL_areShots_22 23 rfl ?_
      obtain ⟨x9, e9, h⟩ := z_bd h
      refine r_iaload X ha3 hna3 e9 dL_areShots_23 24 rfl ?_
      refine r_iconst (v := 1) X rfl dL_areShots_24 25 rfl ?_
      refine r_isub X dL_areShots_25 26 rfl ?_
      refine r_istore X dL_areShots_26 28 rfl [(0, .ref (b + a0)), (1, .ref (b + a1)), (2, .ref (b + a2)), (3, .ref (b + a3)), (4, .int x1), (5, .int x2), (6, .int (x9 - 1))] (by decide) [1, 2, 3, 4, 5, 6, 0] rfl ?_
      refine r_iconst (v := 0) X rfl dL_areShots_28 29 rfl ?_
      refine r_istore X dL_areShots_29 31 rfl [(0, .ref (b + a0)), (1, .ref (b + a1)), (2, .ref (b + a2)), (3, .ref (b + a3)), (4, .int x1), (5, .int x2), (6, .int (x9 - 1)), (7, .int 0)] (by decide) [1, 2, 3, 4, 5, 6, 7, 0] rfl ?_
      obtain ⟨x12, hL13, h⟩ := z_bd h
      have hK13 : GW Γ G b 0 0 M3 150 [(0, .ref (b + a0)), (1, .ref (b + a1)), (2, .ref (b + a2)), (3, .ref (b + a3)), (4, .int x12), (5, .int x2), (6, .int (x9 - 1))] [] := by
        refine r_iload X 4 rfl dL_areShots_150 152 rfl ?_
        obtain ⟨j15, M16, hT16, h⟩ := z_bd2 h
        have hJ16 : GW Γ G b 0 0 M16 186 [(0, .ref (b + a0)), (1, .ref (b + a1)), (2, .ref (b + a2)), (3, .ref (b + a3)), (5, .int x2), (6, .int (x9 - 1))] [.int j15] := by
          refine r_istore X dL_areShots_186 188 rfl [(0, .ref (b + a0)), (1, .ref (b + a1)), (2, .ref (b + a2)), (3, .ref (b + a3)), (4, .int j15), (5, .int x2), (6, .int (x9 - 1))] (by decide) [1, 2, 3, 4, 0, 5, 6] rfl ?_
          refine r_iconst (v := 0) X rfl dL_areShots_188 189 rfl ?_
          refine r_istore X dL_areShots_189 191 rfl [(0, .ref (b + a0)), (1, .ref (b + a1)), (2, .ref (b + a2)), (3, .ref (b + a3)), (4, .int j15), (5, .int x2), (6, .int (x9 - 1)), (7, .int 0)] (by decide) [1, 2, 3, 4, 5, 6, 7, 0] rfl ?_
          obtain ⟨x19, hL20, h⟩ := z_bd h
          have hK20 : GW Γ G b 0 0 M16 294 [(0, .ref (b + a0)), (1, .ref (b + a1)), (2, .ref (b + a2)), (3, .ref (b + a3)), (4, .int x19), (5, .int x2)] [] := by
            refine r_iinc X dL_areShots_294 297 rfl [(0, .ref (b + a0)), (1, .ref (b + a1)), (2, .ref (b + a2)), (3, .ref (b + a3)), (4, .int x19), (5, .int (x2 + 1))] (by decide) 5 rfl (x2 + 1) rfl [1, 2, 3, 4, 5, 0] rfl ?_
            refine r_goto X dL_areShots_297 6 (by decide) ?_
            exact hP6 (x19, (x2 + 1), M16) (Option.some.inj h).symm
          clear h
          refine z_loopP (fun (s : (Int32 × Int32)) => GW Γ G b 0 0 M16 191 [(0, .ref (b + a0)), (1, .ref (b + a1)), (2, .ref (b + a2)), (3, .ref (b + a3)), (4, .int s.1), (5, .int x2), (6, .int (x9 - 1)), (7, .int s.2)] []) (fun s q20 hb hP20 hx20 => ?_) _ _ hL20
          obtain ⟨x17, x18⟩ := s
          have h : fL_areShots_L3 a0 a1 a3 x2 x9 M16 x17 x18 = some q20 := hb
          unfold fL_areShots_L3 at h
          refine r_iload X 7 rfl dL_areShots_191 193 rfl ?_
          refine r_iconst (v := 3) X rfl dL_areShots_193 194 rfl ?_
          refine r_icmp_ge X dL_areShots_194 294 (by decide) 197 rfl (fun c21 => ?_) (fun c21 => ?_)
          · have h := z_it c21 h
            refine r_sub [(0, .ref (b + a0)), (1, .ref (b + a1)), (2, .ref (b + a2)), (3, .ref (b + a3)), (4, .int x17), (5, .int x2)] [0, 1, 2, 3, 4, 5] rfl ?_
            have e := hx20 _ (Option.some.inj h).symm
            cases e
            exact hK20
          · have h := z_ie c21 h
            refine r_iload X 4 rfl dL_areShots_197 199 rfl ?_
            refine r_if_eq X dL_areShots_199 294 (by decide) 202 rfl (fun c22 => ?_) (fun c22 => ?_)
            · have h := z_it c22 h
              refine r_sub [(0, .ref (b + a0)), (1, .ref (b + a1)), (2, .ref (b + a2)), (3, .ref (b + a3)), (4, .int x17), (5, .int x2)] [0, 1, 2, 3, 4, 5] rfl ?_
              have e := hx20 _ (Option.some.inj h).symm
              cases e
              exact hK20
            · have h := z_ie c22 h
              refine r_iload X 6 rfl dL_areShots_202 204 rfl ?_
              refine r_if_lt X dL_areShots_204 294 (by decide) 207 rfl (fun c23 => ?_) (fun c23 => ?_)
              · have h := z_it c23 h
                refine r_sub [(0, .ref (b + a0)), (1, .ref (b + a1)), (2, .ref (b + a2)), (3, .ref (b + a3)), (4, .int x17), (5, .int x2)] [0, 1, 2, 3, 4, 5] rfl ?_
                have e := hx20 _ (Option.some.inj h).symm
                cases e
                exact hK20
              · have h := z_ie c23 h
                refine r_iconst (v := 0) X rfl dL_areShots_207 208 rfl ?_
                refine r_istore X dL_areShots_208 210 rfl [(0, .ref (b + a0)), (1, .ref (b + a1)), (2, .ref (b + a2)), (3, .ref (b + a3)), (5, .int x2), (6, .int (x9 - 1)), (7, .int x18), (8, .int 0)] (by decide) [1, 2, 3, 4, 6, 7, 8, 0] rfl ?_
                refine r_iconst (v := 0) X rfl dL_areShots_210 211 rfl ?_
                refine r_istore X dL_areShots_211 213 rfl [(0, .ref (b + a0)), (1, .ref (b + a1)), (2, .ref (b + a2)), (3, .ref (b + a3)), (5, .int x2), (6, .int (x9 - 1)), (7, .int x18), (8, .int 0), (9, .int 0)] (by decide) [1, 2, 3, 4, 5, 6, 7, 8, 0] rfl ?_
                obtain ⟨x26, hL27, h⟩ := z_bd h
                have hK27 : GW Γ G b 0 0 M16 259 [(0, .ref (b + a0)), (1, .ref (b + a1)), (2, .ref (b + a2)), (3, .ref (b + a3)), (5, .int x2), (6, .int (x9 - 1)), (7, .int x18), (8, .int x26)] [] := by
                  refine r_aload_n X 3 rfl dL_areShots_259 260 rfl ?_
                  refine r_iconst (v := 4) X rfl dL_areShots_260 261 rfl ?_
                  refine r_iload X 6 rfl dL_areShots_261 263 rfl ?_
                  refine r_iadd X dL_areShots_263 264 rfl ?_
                  obtain ⟨x28, e28, h⟩ := z_bd h
                  refine r_iaload X ha3 hna3 e28 dL_areShots_264 265 rfl ?_
                  refine r_if_eq X dL_areShots_265 281 (by decide) 268 rfl (fun c29 => ?_) (fun c29 => ?_)
                  · have h := z_it c29 h
                    refine r_iconst (v := 1) X rfl dL_areShots_281 282 rfl ?_
                    refine r_goto X dL_areShots_282 286 (by decide) ?_
                    refine r_istore X dL_areShots_286 288 rfl [(0, .ref (b + a0)), (1, .ref (b + a1)), (2, .ref (b + a2)), (3, .ref (b + a3)), (4, .int 1), (5, .int x2), (6, .int (x9 - 1)), (7, .int x18)] (by decide) [1, 2, 3, 4, 0, 5, 6, 7] rfl ?_
                    refine r_iinc X dL_areShots_288 291 rfl [(0, .ref (b + a0)), (1, .ref (b + a1)), (2, .ref (b + a2)), (3, .ref (b + a3)), (4, .int 1), (5, .int x2), (6, .int (x9 - 1)), (7, .int (x18 + 1))] (by decide) 7 rfl (x18 + 1) rfl [1, 2, 3, 4, 5, 6, 7, 0] rfl ?_
                    refine r_goto X dL_areShots_291 191 (by decide) ?_
                    exact hP20 (1, (x18 + 1)) (Option.some.inj h).symm
                  · have h := z_ie c29 h
                    refine r_aload_n X 0 rfl dL_areShots_268 269 rfl ?_
                    refine r_iload X 5 rfl dL_areShots_269 271 rfl ?_
                    refine r_iload X 6 rfl dL_areShots_271 273 rfl ?_
                    obtain ⟨x30, e30, h⟩ := z_bd h
                    have e30 := z_nt_of e30
                    refine r_callV (rest := []) X (z_MX_ret (tX6_changed hl G b a0 ha0 (x9 - 1) x18 M16 (r9 := .inr x30) e30)) zy_X6_changed zw_X6_changed km_L_140 ha0 rfl zv_X6 rfl ⟨rfl, rfl⟩ ⟨rfl, rfl⟩ rfl rfl (Nat.le_of_ble_eq_true rfl) ⟨Nat.zero_le _, Nat.zero_le _⟩ dL_areShots_273 276 rfl [.int x30] rfl ?_
                    refine r_iload X 7 rfl dL_areShots_276 278 rfl ?_
                    refine r_icmp_ne X dL_areShots_278 285 (by decide) 281 rfl (fun c31 => ?_) (fun c31 => ?_)
                    · have h := z_ie c31 h
                      refine r_iconst (v := 0) X rfl dL_areShots_285 286 rfl ?_
                      refine r_istore X dL_areShots_286 288 rfl [(0, .ref (b + a0)), (1, .ref (b + a1)), (2, .ref (b + a2)), (3, .ref (b + a3)), (4, .int 0), (5, .int x2), (6, .int (x9 - 1)), (7, .int x18)] (by decide) [1, 2, 3, 4, 0, 5, 6, 7] rfl ?_
                      refine r_iinc X dL_areShots_288 291 rfl [(0, .ref (b + a0)), (1, .ref (b + a1)), (2, .ref (b + a2)), (3, .ref (b + a3)), (4, .int 0), (5, .int x2), (6, .int (x9 - 1)), (7, .int (x18 + 1))] (by decide) 7 rfl (x18 + 1) rfl [1, 2, 3, 4, 5, 6, 7, 0] rfl ?_
                      refine r_goto X dL_areShots_291 191 (by decide) ?_
                      exact hP20 (0, (x18 + 1)) (Option.some.inj h).symm
                    · have h := z_it c31 h
                      refine r_iconst (v := 1) X rfl dL_areShots_281 282 rfl ?_
                      refine r_goto X dL_areShots_282 286 (by decide) ?_
                      refine r_istore X dL_areShots_286 288 rfl [(0, .ref (b + a0)), (1, .ref (b + a1)), (2, .ref (b + a2)), (3, .ref (b + a3)), (4, .int 1), (5, .int x2), (6, .int (x9 - 1)), (7, .int x18)] (by decide) [1, 2, 3, 4, 0, 5, 6, 7] rfl ?_
                      refine r_iinc X dL_areShots_288 291 rfl [(0, .ref (b + a0)), (1, .ref (b + a1)), (2, .ref (b + a2)), (3, .ref (b + a3)), (4, .int 1), (5, .int x2), (6, .int (x9 - 1)), (7, .int (x18 + 1))] (by decide) 7 rfl (x18 + 1) rfl [1, 2, 3, 4, 5, 6, 7, 0] rfl ?_
                      refine r_goto X dL_areShots_291 191 (by decide) ?_
                      exact hP20 (1, (x18 + 1)) (Option.some.inj h).symm
                clear h
                refine z_loopP (fun (s : (Int32 × Int32)) => GW Γ G b 0 0 M16 213 [(0, .ref (b + a0)), (1, .ref (b + a1)), (2, .ref (b + a2)), (3, .ref (b + a3)), (5, .int x2), (6, .int (x9 - 1)), (7, .int x18), (8, .int s.1), (9, .int s.2)] []) (fun s q27 hb hP27 hx27 => ?_) _ _ hL27
                obtain ⟨x24, x25⟩ := s
                have h : fL_areShots_L4 a1 x2 M16 x18 x24 x25 = some q27 := hb
                unfold fL_areShots_L4 at h
                refine r_iload X 8 rfl dL_areShots_213 215 rfl ?_
                refine r_iconst (v := 4) X rfl dL_areShots_215 216 rfl ?_
                refine r_icmp_ge X dL_areShots_216 259 (by decide) 219 rfl (fun c32 => ?_) (fun c32 => ?_)
                · have h := z_it c32 h
                  refine r_sub [(0, .ref (b + a0)), (1, .ref (b + a1)), (2, .ref (b + a2)), (3, .ref (b + a3)), (5, .int x2), (6, .int (x9 - 1)), (7, .int x18), (8, .int x24)] [0, 1, 2, 3, 4, 5, 6, 7] rfl ?_
                  have e := hx27 _ (Option.some.inj h).symm
                  cases e
                  exact hK27
                · have h := z_ie c32 h
                  refine r_iload X 7 rfl dL_areShots_219 221 rfl ?_
                  refine r_aload_n X 1 rfl dL_areShots_221 222 rfl ?_
                  refine r_iconst (v := 4) X rfl dL_areShots_222 223 rfl ?_
                  refine r_iload X 6 rfl dL_areShots_223 225 rfl ?_
                  refine r_imul X dL_areShots_225 226 rfl ?_
                  refine r_iload X 8 rfl dL_areShots_226 228 rfl ?_
                  refine r_iadd X dL_areShots_228 229 rfl ?_
                  obtain ⟨x33, e33, h⟩ := z_bd h
                  refine r_iaload X ha1 hna1 e33 dL_areShots_229 230 rfl ?_
                  refine r_aload_n X 1 rfl dL_areShots_230 231 rfl ?_
                  refine r_bipush (v := 12) X rfl dL_areShots_231 233 rfl ?_
                  refine r_iconst (v := 4) X rfl dL_areShots_233 234 rfl ?_
                  refine r_iload X 4 rfl dL_areShots_234 236 rfl ?_
                  refine r_imul X dL_areShots_236 237 rfl ?_
                  refine r_iadd X dL_areShots_237 238 rfl ?_
                  refine r_iload X 8 rfl dL_areShots_238 240 rfl ?_
                  refine r_iadd X dL_areShots_240 241 rfl ?_
                  obtain ⟨x34, e34, h⟩ := z_bd h
                  refine r_iaload X ha1 hna1 e34 dL_areShots_241 242 rfl ?_
                  refine r_icmp_eq X dL_areShots_242 249 (by decide) 245 rfl (fun c35 => ?_) (fun c35 => ?_)
                  · have h := z_it c35 h
                    refine r_iconst (v := 0) X rfl dL_areShots_249 250 rfl ?_
                    refine r_iadd X dL_areShots_250 251 rfl ?_
                    refine r_istore X dL_areShots_251 253 rfl [(0, .ref (b + a0)), (1, .ref (b + a1)), (2, .ref (b + a2)), (3, .ref (b + a3)), (5, .int x2), (6, .int (x9 - 1)), (7, .int x18), (8, .int (x24 + 0)), (9, .int x25)] (by decide) [1, 2, 3, 4, 5, 6, 7, 0, 8] rfl ?_
                    refine r_iinc X dL_areShots_253 256 rfl [(0, .ref (b + a0)), (1, .ref (b + a1)), (2, .ref (b + a2)), (3, .ref (b + a3)), (5, .int x2), (6, .int (x9 - 1)), (7, .int x18), (8, .int (x24 + 0)), (9, .int (x25 + 1))] (by decide) 8 rfl (x25 + 1) rfl [1, 2, 3, 4, 5, 6, 7, 8, 0] rfl ?_
                    refine r_goto X dL_areShots_256 213 (by decide) ?_
                    exact hP27 ((x24 + 0), (x25 + 1)) (Option.some.inj h).symm
                  · have h := z_ie c35 h
                    refine r_iconst (v := 1) X rfl dL_areShots_245 246 rfl ?_
                    refine r_goto X dL_areShots_246 250 (by decide) ?_
                    refine r_iadd X dL_areShots_250 251 rfl ?_
                    refine r_istore X dL_areShots_251 253 rfl [(0, .ref (b + a0)), (1, .ref (b + a1)), (2, .ref (b + a2)), (3, .ref (b + a3)), (5, .int x2), (6, .int (x9 - 1)), (7, .int x18), (8, .int (x24 + 1)), (9, .int x25)] (by decide) [1, 2, 3, 4, 5, 6, 7, 0, 8] rfl ?_
                    refine r_iinc X dL_areShots_253 256 rfl [(0, .ref (b + a0)), (1, .ref (b + a1)), (2, .ref (b + a2)), (3, .ref (b + a3)), (5, .int x2), (6, .int (x9 - 1)), (7, .int x18), (8, .int (x24 + 1)), (9, .int (x25 + 1))] (by decide) 8 rfl (x25 + 1) rfl [1, 2, 3, 4, 5, 6, 7, 8, 0] rfl ?_
                    refine r_goto X dL_areShots_256 213 (by decide) ?_
                    exact hP27 ((x24 + 1), (x25 + 1)) (Option.some.inj h).symm
        have h := hT16
        refine r_if_eq X dL_areShots_152 185 (by decide) 155 rfl (fun c14 => ?_) (fun c14 => ?_)
        · have h := z_it c14 h
          refine r_iconst (v := 0) X rfl dL_areShots_185 186 rfl ?_
          refine r_sub [(0, .ref (b + a0)), (1, .ref (b + a1)), (2, .ref (b + a2)), (3, .ref (b + a3)), (5, .int x2), (6, .int (x9 - 1))] [0, 1, 2, 3, 5, 6] rfl ?_
          cases h
          exact hJ16
        · have h := z_ie c14 h
          refine r_iload X 6 rfl dL_areShots_155 157 rfl ?_
          refine r_if_lt X dL_areShots_157 181 (by decide) 160 rfl (fun c36 => ?_) (fun c36 => ?_)
          · have h := z_it c36 h
            refine r_iconst (v := 1) X rfl dL_areShots_181 182 rfl ?_
            refine r_goto X dL_areShots_182 186 (by decide) ?_
            refine r_sub [(0, .ref (b + a0)), (1, .ref (b + a1)), (2, .ref (b + a2)), (3, .ref (b + a3)), (5, .int x2), (6, .int (x9 - 1))] [0, 1, 2, 3, 5, 6] rfl ?_
            cases h
            exact hJ16
          · have h := z_ie c36 h
            refine r_aload_n X 0 rfl dL_areShots_160 161 rfl ?_
            refine r_iload X 6 rfl dL_areShots_161 163 rfl ?_
            obtain ⟨x37, M38, e37, h⟩ := z_bd2 h
            have e37 := z_ntw_of e37
            refine r_callV (rest := []) X (z_MX_ret (tX6_uniqueOfSnapshot hl G b a0 ha0 (x9 - 1) M3 (r9 := .inr x37) e37)) zy_X6_uniqueOfSnapshot zw_X6_uniqueOfSnapshot km_L_137 ha0 rfl zv_X6 rfl ⟨rfl, rfl⟩ ⟨rfl, rfl⟩ rfl rfl (Nat.le_of_ble_eq_true rfl) ⟨Nat.zero_le _, Nat.zero_le _⟩ dL_areShots_163 166 rfl [.int x37] rfl ?_
            refine r_aload_n X 1 rfl dL_areShots_166 167 rfl ?_
            refine r_bipush (v := 12) X rfl dL_areShots_167 169 rfl ?_
            refine r_iconst (v := 4) X rfl dL_areShots_169 170 rfl ?_
            refine r_iload X 5 rfl dL_areShots_170 172 rfl ?_
            refine r_imul X dL_areShots_172 173 rfl ?_
            refine r_iadd X dL_areShots_173 174 rfl ?_
            refine r_iconst (v := 1) X rfl dL_areShots_174 175 rfl ?_
            obtain ⟨x39, e39, h⟩ := z_bd h
            refine r_callS (rest := [.int x37]) X (tL_blocks hl G b a1 ha1 hna1 (12 + (4 * x2)) 1 M38 e39) zy_L_blocks zs_L_blocks km_L_92 rfl ⟨rfl, rfl⟩ ⟨rfl, rfl⟩ rfl rfl (Nat.le_of_ble_eq_true rfl) ⟨Nat.zero_le _, Nat.zero_le _⟩ dL_areShots_175 178 rfl [.int x39, .int x37] rfl ?_
            refine r_icmp_ne X dL_areShots_178 185 (by decide) 181 rfl (fun c40 => ?_) (fun c40 => ?_)
            · have h := z_ie c40 h
              refine r_iconst (v := 0) X rfl dL_areShots_185 186 rfl ?_
              refine r_sub [(0, .ref (b + a0)), (1, .ref (b + a1)), (2, .ref (b + a2)), (3, .ref (b + a3)), (5, .int x2), (6, .int (x9 - 1))] [0, 1, 2, 3, 5, 6] rfl ?_
              cases h
              exact hJ16
            · have h := z_it c40 h
              refine r_iconst (v := 1) X rfl dL_areShots_181 182 rfl ?_
              refine r_goto X dL_areShots_182 186 (by decide) ?_
              refine r_sub [(0, .ref (b + a0)), (1, .ref (b + a1)), (2, .ref (b + a2)), (3, .ref (b + a3)), (5, .int x2), (6, .int (x9 - 1))] [0, 1, 2, 3, 5, 6] rfl ?_
              cases h
              exact hJ16
      clear h
      refine z_loopP (fun (s : (Int32 × Int32)) => GW Γ G b 0 0 M3 31 [(0, .ref (b + a0)), (1, .ref (b + a1)), (2, .ref (b + a2)), (3, .ref (b + a3)), (4, .int s.1), (5, .int x2), (6, .int (x9 - 1)), (7, .int s.2)] []) (fun s q13 hb hP13 hx13 => ?_) _ _ hL13
      obtain ⟨x10, x11⟩ := s
      have h : fL_areShots_L2 a0 a1 a2 a3 x2 M3 x9 x10 x11 = some q13 := hb
      unfold fL_areShots_L2 at h
      refine r_iload X 7 rfl dL_areShots_31 33 rfl ?_
      refine r_iconst (v := 4) X rfl dL_areShots_33 34 rfl ?_
      refine r_icmp_ge X dL_areShots_34 150 (by decide) 37 rfl (fun c41 => ?_) (fun c41 => ?_)
      · have h := z_it c41 h
        refine r_sub [(0, .ref (b + a0)), (1, .ref (b + a1)), (2, .ref (b + a2)), (3, .ref (b + a3)), (4, .int x10), (5, .int x2), (6, .int (x9 - 1))] [0, 1, 2, 3, 4, 5, 6] rfl ?_
        have e := hx13 _ (Option.some.inj h).symm
        cases e
        exact hK13
      · have h := z_ie c41 h
        refine r_iload X 4 rfl dL_areShots_37 39 rfl ?_
        refine r_if_eq X dL_areShots_39 150 (by decide) 42 rfl (fun c42 => ?_) (fun c42 => ?_)
        · have h := z_it c42 h
          refine r_sub [(0, .ref (b + a0)), (1, .ref (b + a1)), (2, .ref (b + a2)), (3, .ref (b + a3)), (4, .int x10), (5, .int x2), (6, .int (x9 - 1))] [0, 1, 2, 3, 4, 5, 6] rfl ?_
          have e := hx13 _ (Option.some.inj h).symm
          cases e
          exact hK13
        · have h := z_ie c42 h
          refine r_iload X 6 rfl dL_areShots_42 44 rfl ?_
          refine r_if_lt X dL_areShots_44 150 (by decide) 47 rfl (fun c43 => ?_) (fun c43 => ?_)
          · have h := z_it c43 h
            refine r_sub [(0, .ref (b + a0)), (1, .ref (b + a1)), (2, .ref (b + a2)), (3, .ref (b + a3)), (4, .int x10), (5, .int x2), (6, .int (x9 - 1))] [0, 1, 2, 3, 4, 5, 6] rfl ?_
            have e := hx13 _ (Option.some.inj h).symm
            cases e
            exact hK13
          · have h := z_ie c43 h
            refine r_aload_n X 1 rfl dL_areShots_47 48 rfl ?_
            refine r_bipush (v := 12) X rfl dL_areShots_48 50 rfl ?_
            refine r_iconst (v := 4) X rfl dL_areShots_50 51 rfl ?_
            refine r_iload X 5 rfl dL_areShots_51 53 rfl ?_
            refine r_imul X dL_areShots_53 54 rfl ?_
            refine r_iadd X dL_areShots_54 55 rfl ?_
            refine r_iload X 7 rfl dL_areShots_55 57 rfl ?_
            refine r_iadd X dL_areShots_57 58 rfl ?_
            obtain ⟨x44, e44, h⟩ := z_bd h
            refine r_iaload X ha1 hna1 e44 dL_areShots_58 59 rfl ?_
            refine r_istore X dL_areShots_59 61 rfl [(0, .ref (b + a0)), (1, .ref (b + a1)), (2, .ref (b + a2)), (3, .ref (b + a3)), (5, .int x2), (6, .int (x9 - 1)), (7, .int x11), (8, .int x44)] (by decide) [1, 2, 3, 4, 6, 7, 8, 0] rfl ?_
            refine r_aload_n X 0 rfl dL_areShots_61 62 rfl ?_
            refine r_iload X 5 rfl dL_areShots_62 64 rfl ?_
            refine r_iload X 6 rfl dL_areShots_64 66 rfl ?_
            refine r_iconst (v := 2) X rfl dL_areShots_66 67 rfl ?_
            refine r_idiv X (by decide) dL_areShots_67 68 rfl ?_
            refine r_iload X 6 rfl dL_areShots_68 70 rfl ?_
            refine r_iconst (v := 2) X rfl dL_areShots_70 71 rfl ?_
            refine r_irem X (by decide) dL_areShots_71 72 rfl ?_
            obtain ⟨x45, e45, h⟩ := z_bd h
            have e45 := z_nt_of e45
            refine r_callV (rest := []) X (z_MX_ret (tX6_blockInSnapshot hl G b a0 ha0 (x9 - 1) (x11 / 2) (x11 - x11 / 2 * 2) M3 (r9 := .inr x45) e45)) zy_X6_blockInSnapshot zw_X6_blockInSnapshot km_L_125 ha0 rfl zv_X6 rfl ⟨rfl, rfl⟩ ⟨rfl, rfl⟩ rfl rfl (Nat.le_of_ble_eq_true rfl) ⟨Nat.zero_le _, Nat.zero_le _⟩ dL_areShots_72 75 rfl [.int x45] rfl ?_
            refine r_iload X 7 rfl dL_areShots_75 77 rfl ?_
            refine r_iconst (v := 1) X rfl dL_areShots_77 78 rfl ?_
            refine r_isub X dL_areShots_78 79 rfl ?_
            refine r_icmp_ne X dL_areShots_79 141 (by decide) 82 rfl (fun c46 => ?_) (fun c46 => ?_)
            · have h := z_ie c46 h
              refine r_iconst (v := 0) X rfl dL_areShots_141 142 rfl ?_
              refine r_istore X dL_areShots_142 144 rfl [(0, .ref (b + a0)), (1, .ref (b + a1)), (2, .ref (b + a2)), (3, .ref (b + a3)), (4, .int 0), (5, .int x2), (6, .int (x9 - 1)), (7, .int x11)] (by decide) [1, 2, 3, 4, 0, 5, 6, 7] rfl ?_
              refine r_iinc X dL_areShots_144 147 rfl [(0, .ref (b + a0)), (1, .ref (b + a1)), (2, .ref (b + a2)), (3, .ref (b + a3)), (4, .int 0), (5, .int x2), (6, .int (x9 - 1)), (7, .int (x11 + 1))] (by decide) 7 rfl (x11 + 1) rfl [1, 2, 3, 4, 5, 6, 7, 0] rfl ?_
              refine r_goto X dL_areShots_147 31 (by decide) ?_
              exact hP13 (0, (x11 + 1)) (Option.some.inj h).symm
            · have h := z_it c46 h
              refine r_aload_n X 0 rfl dL_areShots_82 83 rfl ?_
              refine r_iload X 5 rfl dL_areShots_83 85 rfl ?_
              refine r_iload X 6 rfl dL_areShots_85 87 rfl ?_
              refine r_iconst (v := 2) X rfl dL_areShots_87 88 rfl ?_
              refine r_idiv X (by decide) dL_areShots_88 89 rfl ?_
              refine r_iload X 6 rfl dL_areShots_89 91 rfl ?_
              refine r_iconst (v := 2) X rfl dL_areShots_91 92 rfl ?_
              refine r_irem X (by decide) dL_areShots_92 93 rfl ?_
              obtain ⟨x47, e47, h⟩ := z_bd h
              have e47 := z_nt_of e47
              refine r_callV (rest := []) X (z_MX_ret (tX6_readSnapshot hl G b a0 ha0 (x9 - 1) (x11 / 2) (x11 - x11 / 2 * 2) M3 (r9 := .inr x47) e47)) zy_X6_readSnapshot zw_X6_readSnapshot km_L_128 ha0 rfl zv_X6 rfl ⟨rfl, rfl⟩ ⟨rfl, rfl⟩ rfl rfl (Nat.le_of_ble_eq_true rfl) ⟨Nat.zero_le _, Nat.zero_le _⟩ dL_areShots_93 96 rfl [.int x47] rfl ?_
              refine r_aload_n X 2 rfl dL_areShots_96 97 rfl ?_
              refine r_iload X 7 rfl dL_areShots_97 99 rfl ?_
              obtain ⟨x48, e48, h⟩ := z_bd h
              refine r_callS (rest := [.int x47]) X (tL_value hl G b a2 ha2 x44 M3 e48) zy_L_value zs_L_value km_L_106 rfl ⟨rfl, rfl⟩ ⟨rfl, rfl⟩ rfl rfl (Nat.le_of_ble_eq_true rfl) ⟨Nat.zero_le _, Nat.zero_le _⟩ dL_areShots_99 102 rfl [.int x48, .int x47] rfl ?_
              refine r_icmp_ne X dL_areShots_102 141 (by decide) 105 rfl (fun c49 => ?_) (fun c49 => ?_)
              · have h := z_ie c49 h
                refine r_iconst (v := 0) X rfl dL_areShots_141 142 rfl ?_
                refine r_istore X dL_areShots_142 144 rfl [(0, .ref (b + a0)), (1, .ref (b + a1)), (2, .ref (b + a2)), (3, .ref (b + a3)), (4, .int 0), (5, .int x2), (6, .int (x9 - 1)), (7, .int x11)] (by decide) [1, 2, 3, 4, 0, 5, 6, 7] rfl ?_
                refine r_iinc X dL_areShots_144 147 rfl [(0, .ref (b + a0)), (1, .ref (b + a1)), (2, .ref (b + a2)), (3, .ref (b + a3)), (4, .int 0), (5, .int x2), (6, .int (x9 - 1)), (7, .int (x11 + 1))] (by decide) 7 rfl (x11 + 1) rfl [1, 2, 3, 4, 5, 6, 7, 0] rfl ?_
                refine r_goto X dL_areShots_147 31 (by decide) ?_
                exact hP13 (0, (x11 + 1)) (Option.some.inj h).symm
              · have h := z_it c49 h
                refine r_aload_n X 0 rfl dL_areShots_105 106 rfl ?_
                refine r_iload X 5 rfl dL_areShots_106 108 rfl ?_
                obtain ⟨x50, e50, h⟩ := z_bd h
                have e50 := z_nt_of e50
                refine r_callV (rest := []) X (z_MX_ret (tX6_transactionOf hl G b a0 ha0 (x9 - 1) M3 (r9 := .inr x50) e50)) zy_X6_transactionOf zw_X6_transactionOf km_L_131 ha0 rfl zv_X6 rfl ⟨rfl, rfl⟩ ⟨rfl, rfl⟩ rfl rfl (Nat.le_of_ble_eq_true rfl) ⟨Nat.zero_le _, Nat.zero_le _⟩ dL_areShots_108 111 rfl [.int x50] rfl ?_
                refine r_aload_n X 3 rfl dL_areShots_111 112 rfl ?_
                refine r_bipush (v := 20) X rfl dL_areShots_112 114 rfl ?_
                refine r_iload X 4 rfl dL_areShots_114 116 rfl ?_
                refine r_iadd X dL_areShots_116 117 rfl ?_
                obtain ⟨x51, e51, h⟩ := z_bd h
                refine r_iaload X ha3 hna3 e51 dL_areShots_117 118 rfl ?_
                refine r_icmp_ne X dL_areShots_118 141 (by decide) 121 rfl (fun c52 => ?_) (fun c52 => ?_)
                · have h := z_ie c52 h
                  refine r_iconst (v := 0) X rfl dL_areShots_141 142 rfl ?_
                  refine r_istore X dL_areShots_142 144 rfl [(0, .ref (b + a0)), (1, .ref (b + a1)), (2, .ref (b + a2)), (3, .ref (b + a3)), (4, .int 0), (5, .int x2), (6, .int (x9 - 1)), (7, .int x11)] (by decide) [1, 2, 3, 4, 0, 5, 6, 7] rfl ?_
                  refine r_iinc X dL_areShots_144 147 rfl [(0, .ref (b + a0)), (1, .ref (b + a1)), (2, .ref (b + a2)), (3, .ref (b + a3)), (4, .int 0), (5, .int x2), (6, .int (x9 - 1)), (7, .int (x11 + 1))] (by decide) 7 rfl (x11 + 1) rfl [1, 2, 3, 4, 5, 6, 7, 0] rfl ?_
                  refine r_goto X dL_areShots_147 31 (by decide) ?_
                  exact hP13 (0, (x11 + 1)) (Option.some.inj h).symm
                · have h := z_it c52 h
                  refine r_aload_n X 0 rfl dL_areShots_121 122 rfl ?_
                  refine r_iload X 5 rfl dL_areShots_122 124 rfl ?_
                  obtain ⟨x53, e53, h⟩ := z_bd h
                  have e53 := z_nt_of e53
                  refine r_callV (rest := []) X (z_MX_ret (tX6_datasetOf hl G b a0 ha0 (x9 - 1) M3 (r9 := .inr x53) e53)) zy_X6_datasetOf zw_X6_datasetOf km_L_134 ha0 rfl zv_X6 rfl ⟨rfl, rfl⟩ ⟨rfl, rfl⟩ rfl rfl (Nat.le_of_ble_eq_true rfl) ⟨Nat.zero_le _, Nat.zero_le _⟩ dL_areShots_124 127 rfl [.int x53] rfl ?_
                  refine r_aload_n X 3 rfl dL_areShots_127 128 rfl ?_
                  refine r_bipush (v := 16) X rfl dL_areShots_128 130 rfl ?_
                  refine r_iload X 4 rfl dL_areShots_130 132 rfl ?_
                  refine r_iadd X dL_areShots_132 133 rfl ?_
                  obtain ⟨x54, e54, h⟩ := z_bd h
                  refine r_iaload X ha3 hna3 e54 dL_areShots_133 134 rfl ?_
                  refine r_icmp_ne X dL_areShots_134 141 (by decide) 137 rfl (fun c55 => ?_) (fun c55 => ?_)
                  · have h := z_ie c55 h
                    refine r_iconst (v := 0) X rfl dL_areShots_141 142 rfl ?_
                    refine r_istore X dL_areShots_142 144 rfl [(0, .ref (b + a0)), (1, .ref (b + a1)), (2, .ref (b + a2)), (3, .ref (b + a3)), (4, .int 0), (5, .int x2), (6, .int (x9 - 1)), (7, .int x11)] (by decide) [1, 2, 3, 4, 0, 5, 6, 7] rfl ?_
                    refine r_iinc X dL_areShots_144 147 rfl [(0, .ref (b + a0)), (1, .ref (b + a1)), (2, .ref (b + a2)), (3, .ref (b + a3)), (4, .int 0), (5, .int x2), (6, .int (x9 - 1)), (7, .int (x11 + 1))] (by decide) 7 rfl (x11 + 1) rfl [1, 2, 3, 4, 5, 6, 7, 0] rfl ?_
                    refine r_goto X dL_areShots_147 31 (by decide) ?_
                    exact hP13 (0, (x11 + 1)) (Option.some.inj h).symm
                  · have h := z_it c55 h
                    refine r_iconst (v := 1) X rfl dL_areShots_137 138 rfl ?_
                    refine r_goto X dL_areShots_138 142 (by decide) ?_
                    refine r_istore X dL_areShots_142 144 rfl [(0, .ref (b + a0)), (1, .ref (b + a1)), (2, .ref (b + a2)), (3, .ref (b + a3)), (4, .int 1), (5, .int x2), (6, .int (x9 - 1)), (7, .int x11)] (by decide) [1, 2, 3, 4, 0, 5, 6, 7] rfl ?_
                    refine r_iinc X dL_areShots_144 147 rfl [(0, .ref (b + a0)), (1, .ref (b + a1)), (2, .ref (b + a2)), (3, .ref (b + a3)), (4, .int 1), (5, .int x2), (6, .int (x9 - 1)), (7, .int (x11 + 1))] (by decide) 7 rfl (x11 + 1) rfl [1, 2, 3, 4, 5, 6, 7, 0] rfl ?_
                    refine r_goto X dL_areShots_147 31 (by decide) ?_
                    exact hP13 (1, (x11 + 1)) (Option.some.inj h).symm
set_option maxRecDepth 100000 in
set_option maxHeartbeats 1000000 in
theorem tL_isTold {l : Launch} (hl : l.stackTraces = false) (G : zG) (b : Nat) (a0 : Nat) (ha0 : z_kd a0 = 6) (a1 : Nat) (ha1 : z_kd a1 = 8) (hna1 : z_ln a1 = 28) (a2 : Nat) (ha2 : z_kd a2 = 10) (a3 : Nat) (ha3 : z_kd a3 = 8) (hna3 : z_ln a3 = 32) (M : zM) {r9 : Int32} {M9 : zM} (h : fL_isTold a0 a1 a2 a3 M = some (r9, M9)) : z_MN l yL_isTold cL_isTold 6 (some .boolean) { frames := 9, cells := 0, slots := 0, locals := 167 } G b [.ref (b + a0), .ref (b + a1), .ref (b + a2), .ref (b + a3)] M (some (.int r9)) M9 := by
  refine z_met (own := RL) hl (by decide) rfl rfl (fun Γ hΓ X R => ?_)
  subst hΓ
  show GW Γ G b 0 0 M 0 [(0, .ref (b + a0)), (1, .ref (b + a1)), (2, .ref (b + a2)), (3, .ref (b + a3))] []
  unfold fL_isTold at h
  refine r_aload_n X 0 rfl dL_isTold_0 1 rfl ?_
  refine r_aload_n X 1 rfl dL_isTold_1 2 rfl ?_
  refine r_aload_n X 2 rfl dL_isTold_2 3 rfl ?_
  refine r_aload_n X 3 rfl dL_isTold_3 4 rfl ?_
  obtain ⟨x1, e1, h⟩ := z_bd h
  refine r_callS (rest := []) X (tL_areBlocks hl G b a0 ha0 a1 ha1 hna1 a2 ha2 a3 ha3 hna3 M e1) zy_L_areBlocks zs_L_areBlocks km_L_143 rfl ⟨rfl, rfl⟩ ⟨rfl, rfl⟩ rfl rfl (Nat.le_of_ble_eq_true rfl) ⟨Nat.zero_le _, Nat.zero_le _⟩ dL_isTold_4 7 rfl [.int x1] rfl ?_
  obtain ⟨j3, M4, hT4, h⟩ := z_bd2 h
  have hJ4 : GW Γ G b 0 0 M4 44 [(0, .ref (b + a0)), (1, .ref (b + a1)), (2, .ref (b + a2)), (3, .ref (b + a3))] [.int j3] := by
    refine r_istore X dL_isTold_44 46 rfl [(0, .ref (b + a0)), (1, .ref (b + a1)), (2, .ref (b + a2)), (3, .ref (b + a3)), (4, .int j3)] (by decide) [1, 2, 3, 4, 0] rfl ?_
    refine r_iconst (v := 0) X rfl dL_isTold_46 47 rfl ?_
    refine r_istore X dL_isTold_47 49 rfl [(0, .ref (b + a0)), (1, .ref (b + a1)), (2, .ref (b + a2)), (3, .ref (b + a3)), (4, .int j3), (5, .int 0)] (by decide) [1, 2, 3, 4, 5, 0] rfl ?_
    obtain ⟨x8, M9, hL10, h⟩ := z_bd2 h
    have hK10 : GW Γ G b 0 0 M9 94 [(4, .int x8)] [] := by
      refine r_iload X 0 rfl dL_isTold_94 96 rfl ?_
      obtain ⟨hz, h⟩ := z_bz_of h
      cases h
      exact r_iret X R hz dL_isTold_96
    clear h
    refine z_loopP (fun (s : (Int32 × Int32 × zM)) => GW Γ G b 0 0 s.2.2 49 [(0, .ref (b + a0)), (1, .ref (b + a1)), (2, .ref (b + a2)), (3, .ref (b + a3)), (4, .int s.1), (5, .int s.2.1)] []) (fun s q10 hb hP10 hx10 => ?_) _ _ hL10
    obtain ⟨x5, x6, M7⟩ := s
    have h : fL_isTold_L1 a0 a1 a2 a3 x5 x6 M7 = some q10 := hb
    unfold fL_isTold_L1 at h
    refine r_iload X 5 rfl dL_isTold_49 51 rfl ?_
    refine r_iconst (v := 3) X rfl dL_isTold_51 52 rfl ?_
    refine r_icmp_ge X dL_isTold_52 94 (by decide) 55 rfl (fun c11 => ?_) (fun c11 => ?_)
    · have h := z_it c11 h
      refine r_sub [(4, .int x5)] [4] rfl ?_
      have e := hx10 _ (Option.some.inj h).symm
      cases e
      exact hK10
    · have h := z_ie c11 h
      refine r_iload X 4 rfl dL_isTold_55 57 rfl ?_
      refine r_if_eq X dL_isTold_57 94 (by decide) 60 rfl (fun c12 => ?_) (fun c12 => ?_)
      · have h := z_it c12 h
        refine r_sub [(4, .int x5)] [4] rfl ?_
        have e := hx10 _ (Option.some.inj h).symm
        cases e
        exact hK10
      · have h := z_ie c12 h
        refine r_aload_n X 3 rfl dL_isTold_60 61 rfl ?_
        refine r_iconst (v := 4) X rfl dL_isTold_61 62 rfl ?_
        refine r_iload X 5 rfl dL_isTold_62 64 rfl ?_
        refine r_iadd X dL_isTold_64 65 rfl ?_
        obtain ⟨x13, e13, h⟩ := z_bd h
        refine r_iaload X ha3 hna3 e13 dL_isTold_65 66 rfl ?_
        refine r_if_eq X dL_isTold_66 81 (by decide) 69 rfl (fun c14 => ?_) (fun c14 => ?_)
        · have h := z_it c14 h
          refine r_iconst (v := 1) X rfl dL_isTold_81 82 rfl ?_
          refine r_goto X dL_isTold_82 86 (by decide) ?_
          refine r_istore X dL_isTold_86 88 rfl [(0, .ref (b + a0)), (1, .ref (b + a1)), (2, .ref (b + a2)), (3, .ref (b + a3)), (4, .int 1), (5, .int x6)] (by decide) [1, 2, 3, 4, 0, 5] rfl ?_
          refine r_iinc X dL_isTold_88 91 rfl [(0, .ref (b + a0)), (1, .ref (b + a1)), (2, .ref (b + a2)), (3, .ref (b + a3)), (4, .int 1), (5, .int (x6 + 1))] (by decide) 5 rfl (x6 + 1) rfl [1, 2, 3, 4, 5, 0] rfl ?_
          refine r_goto X dL_isTold_91 49 (by decide) ?_
          exact hP10 (1, (x6 + 1), M7) (Option.some.inj h).symm
        · have h := z_ie c14 h
          refine r_aload_n X 0 rfl dL_isTold_69 70 rfl ?_
          refine r_aload_n X 1 rfl dL_isTold_70 71 rfl ?_
          refine r_aload_n X 2 rfl dL_isTold_71 72 rfl ?_
          refine r_aload_n X 3 rfl dL_isTold_72 73 rfl ?_
          refine r_iload X 5 rfl dL_isTold_73 75 rfl ?_
          obtain ⟨x15, M16, e16, h⟩ := z_bd2 h
          refine r_callS (rest := []) X (tL_isSet hl G b a0 ha0 a1 ha1 hna1 a2 ha2 a3 ha3 hna3 x6 M7 e16) zy_L_isSet zs_L_isSet km_L_153 rfl ⟨rfl, rfl⟩ ⟨rfl, rfl⟩ rfl rfl (Nat.le_of_ble_eq_true rfl) ⟨Nat.zero_le _, Nat.zero_le _⟩ dL_isTold_75 78 rfl [.int x15] rfl ?_
          refine r_if_eq X dL_isTold_78 85 (by decide) 81 rfl (fun c17 => ?_) (fun c17 => ?_)
          · have h := z_it c17 h
            refine r_iconst (v := 0) X rfl dL_isTold_85 86 rfl ?_
            refine r_istore X dL_isTold_86 88 rfl [(0, .ref (b + a0)), (1, .ref (b + a1)), (2, .ref (b + a2)), (3, .ref (b + a3)), (4, .int 0), (5, .int x6)] (by decide) [1, 2, 3, 4, 0, 5] rfl ?_
            refine r_iinc X dL_isTold_88 91 rfl [(0, .ref (b + a0)), (1, .ref (b + a1)), (2, .ref (b + a2)), (3, .ref (b + a3)), (4, .int 0), (5, .int (x6 + 1))] (by decide) 5 rfl (x6 + 1) rfl [1, 2, 3, 4, 5, 0] rfl ?_
            refine r_goto X dL_isTold_91 49 (by decide) ?_
            exact hP10 (0, (x6 + 1), M16) (Option.some.inj h).symm
          · have h := z_ie c17 h
            refine r_iconst (v := 1) X rfl dL_isTold_81 82 rfl ?_
            refine r_goto X dL_isTold_82 86 (by decide) ?_
            refine r_istore X dL_isTold_86 88 rfl [(0, .ref (b + a0)), (1, .ref (b + a1)), (2, .ref (b + a2)), (3, .ref (b + a3)), (4, .int 1), (5, .int x6)] (by decide) [1, 2, 3, 4, 0, 5] rfl ?_
            refine r_iinc X dL_isTold_88 91 rfl [(0, .ref (b + a0)), (1, .ref (b + a1)), (2, .ref (b + a2)), (3, .ref (b + a3)), (4, .int 1), (5, .int (x6 + 1))] (by decide) 5 rfl (x6 + 1) rfl [1, 2, 3, 4, 5, 0] rfl ?_
            refine r_goto X dL_isTold_91 49 (by decide) ?_
            exact hP10 (1, (x6 + 1), M16) (Option.some.inj h).symm
  have h := hT4
  refine r_if_eq X dL_isTold_7 43 (by decide) 10 rfl (fun c2 => ?_) (fun c2 => ?_)
  · have h := z_it c2 h
    refine r_iconst (v := 0) X rfl dL_isTold_43 44 rfl ?_
    cases h
    exact hJ4
  · have h := z_ie c2 h
    refine r_aload_n X 0 rfl dL_isTold_10 11 rfl ?_
    refine r_aload_n X 1 rfl dL_isTold_11 12 rfl ?_
    refine r_aload_n X 2 rfl dL_isTold_12 13 rfl ?_
    refine r_aload_n X 3 rfl dL_isTold_13 14 rfl ?_
    obtain ⟨x18, M19, e19, h⟩ := z_bd2 h
    refine r_callS (rest := []) X (tL_areShots hl G b a0 ha0 a1 ha1 hna1 a2 ha2 a3 ha3 hna3 M e19) zy_L_areShots zs_L_areShots km_L_147 rfl ⟨rfl, rfl⟩ ⟨rfl, rfl⟩ rfl rfl (Nat.le_of_ble_eq_true rfl) ⟨Nat.zero_le _, Nat.zero_le _⟩ dL_isTold_14 17 rfl [.int x18] rfl ?_
    refine r_if_eq X dL_isTold_17 43 (by decide) 20 rfl (fun c20 => ?_) (fun c20 => ?_)
    · have h := z_it c20 h
      refine r_iconst (v := 0) X rfl dL_isTold_43 44 rfl ?_
      cases h
      exact hJ4
    · have h := z_ie c20 h
      refine r_aload_n X 0 rfl dL_isTold_20 21 rfl ?_
      obtain ⟨x21, e21, h⟩ := z_bd h
      refine r_callV (rest := []) X (tX6_datasets hl G b a0 ha0 M19 e21) zy_X6_datasets zw_X6_datasets km_L_150 ha0 rfl zv_X6 rfl ⟨rfl, rfl⟩ ⟨rfl, rfl⟩ rfl rfl (Nat.le_of_ble_eq_true rfl) ⟨Nat.zero_le _, Nat.zero_le _⟩ dL_isTold_21 24 rfl [.int x21] rfl ?_
      refine r_aload_n X 3 rfl dL_isTold_24 25 rfl ?_
      refine r_iconst (v := 4) X rfl dL_isTold_25 26 rfl ?_
      obtain ⟨x22, e22, h⟩ := z_bd h
      refine r_iaload X ha3 hna3 e22 dL_isTold_26 27 rfl ?_
      refine r_aload_n X 3 rfl dL_isTold_27 28 rfl ?_
      refine r_iconst (v := 5) X rfl dL_isTold_28 29 rfl ?_
      obtain ⟨x23, e23, h⟩ := z_bd h
      refine r_iaload X ha3 hna3 e23 dL_isTold_29 30 rfl ?_
      refine r_iadd X dL_isTold_30 31 rfl ?_
      refine r_aload_n X 3 rfl dL_isTold_31 32 rfl ?_
      refine r_bipush (v := 6) X rfl dL_isTold_32 34 rfl ?_
      obtain ⟨x24, e24, h⟩ := z_bd h
      refine r_iaload X ha3 hna3 e24 dL_isTold_34 35 rfl ?_
      refine r_iadd X dL_isTold_35 36 rfl ?_
      refine r_icmp_ne X dL_isTold_36 43 (by decide) 39 rfl (fun c25 => ?_) (fun c25 => ?_)
      · have h := z_ie c25 h
        refine r_iconst (v := 0) X rfl dL_isTold_43 44 rfl ?_
        cases h
        exact hJ4
      · have h := z_it c25 h
        refine r_iconst (v := 1) X rfl dL_isTold_39 40 rfl ?_
        refine r_goto X dL_isTold_40 44 (by decide) ?_
        cases h
        exact hJ4
set_option maxRecDepth 100000 in
set_option maxHeartbeats 1000000 in
theorem tL_places {l : Launch} (hl : l.stackTraces = false) (G : zG) (b : Nat) (a0 : Nat) (ha0 : z_kd a0 = 6) (a1 : Nat) (ha1 : z_kd a1 = 8) (hna1 : z_ln a1 = 28) (a2 : Nat) (ha2 : z_kd a2 = 10) (a3 : Nat) (ha3 : z_kd a3 = 8) (hna3 : z_ln a3 = 32) (a4 : Int32) (a5 : Int32) (a6 : Int32) (M : zM) {r9 : Int32} {M9 : zM} (h : fL_places a0 a1 a2 a3 a4 a5 a6 M = some (r9, M9)) : z_MN l yL_places cL_places 18 (some .boolean) { frames := 8, cells := 0, slots := 0, locals := 143 } G b [.ref (b + a0), .ref (b + a1), .ref (b + a2), .ref (b + a3), .int a4, .int a5, .int a6] M (some (.int r9)) M9 := by
  refine z_met (own := RL) hl (by decide) rfl rfl (fun Γ hΓ X R => ?_)
  subst hΓ
  show GW Γ G b 0 0 M 0 [(0, .ref (b + a0)), (1, .ref (b + a1)), (2, .ref (b + a2)), (3, .ref (b + a3)), (4, .int a4), (5, .int a5), (6, .int a6)] []
  unfold fL_places at h
  refine r_iload X 6 rfl dL_places_0 2 rfl ?_
  refine r_iconst (v := 4) X rfl dL_places_2 3 rfl ?_
  refine r_irem X (by decide) dL_places_3 4 rfl ?_
  refine r_istore X dL_places_4 6 rfl [(0, .ref (b + a0)), (1, .ref (b + a1)), (2, .ref (b + a2)), (3, .ref (b + a3)), (4, .int a4), (5, .int a5), (6, .int a6), (7, .int (a6 - a6 / 4 * 4))] (by decide) [1, 2, 3, 4, 5, 6, 7, 0] rfl ?_
  refine r_iconst (v := 4) X rfl dL_places_6 7 rfl ?_
  refine r_iload X 5 rfl dL_places_7 9 rfl ?_
  refine r_imul X dL_places_9 10 rfl ?_
  refine r_iload X 7 rfl dL_places_10 12 rfl ?_
  refine r_iadd X dL_places_12 13 rfl ?_
  refine r_istore X dL_places_13 15 rfl [(0, .ref (b + a0)), (1, .ref (b + a1)), (2, .ref (b + a2)), (3, .ref (b + a3)), (4, .int a4), (5, .int a5), (6, .int a6), (7, .int (a6 - a6 / 4 * 4)), (8, .int ((4 * a5) + (a6 - a6 / 4 * 4)))] (by decide) [1, 2, 3, 4, 5, 6, 7, 8, 0] rfl ?_
  refine r_iload X 4 rfl dL_places_15 17 rfl ?_
  refine r_bipush (v := 7) X rfl dL_places_17 19 rfl ?_
  refine r_icmp_ge X dL_places_19 189 (by decide) 22 rfl (fun c1 => ?_) (fun c1 => ?_)
  · have h := z_it c1 h
    refine r_iload X 7 rfl dL_places_189 191 rfl ?_
    refine r_iconst (v := 2) X rfl dL_places_191 192 rfl ?_
    refine r_idiv X (by decide) dL_places_192 193 rfl ?_
    refine r_istore X dL_places_193 195 rfl [(0, .ref (b + a0)), (1, .ref (b + a1)), (2, .ref (b + a2)), (3, .ref (b + a3)), (4, .int a4), (5, .int a5), (6, .int a6), (7, .int (a6 - a6 / 4 * 4)), (8, .int ((4 * a5) + (a6 - a6 / 4 * 4))), (9, .int ((a6 - a6 / 4 * 4) / 2))] (by decide) [1, 2, 3, 4, 5, 6, 7, 8, 9, 0] rfl ?_
    refine r_iload X 7 rfl dL_places_195 197 rfl ?_
    refine r_iconst (v := 2) X rfl dL_places_197 198 rfl ?_
    refine r_irem X (by decide) dL_places_198 199 rfl ?_
    refine r_istore X dL_places_199 201 rfl [(0, .ref (b + a0)), (1, .ref (b + a1)), (2, .ref (b + a2)), (3, .ref (b + a3)), (4, .int a4), (5, .int a5), (6, .int a6), (8, .int ((4 * a5) + (a6 - a6 / 4 * 4))), (9, .int ((a6 - a6 / 4 * 4) / 2)), (10, .int ((a6 - a6 / 4 * 4) - (a6 - a6 / 4 * 4) / 2 * 2))] (by decide) [1, 2, 3, 4, 5, 6, 7, 9, 10, 0] rfl ?_
    refine r_iconst (v := 1) X rfl dL_places_201 202 rfl ?_
    refine r_iload X 6 rfl dL_places_202 204 rfl ?_
    refine r_iconst (v := 4) X rfl dL_places_204 205 rfl ?_
    refine r_idiv X (by decide) dL_places_205 206 rfl ?_
    refine r_iconst (v := 2) X rfl dL_places_206 207 rfl ?_
    refine r_iload X 9 rfl dL_places_207 209 rfl ?_
    refine r_isub X dL_places_209 210 rfl ?_
    obtain ⟨hz2, h⟩ := z_nz_of h
    refine r_irem X hz2 dL_places_210 211 rfl ?_
    refine r_iadd X dL_places_211 212 rfl ?_
    refine r_istore X dL_places_212 214 rfl [(0, .ref (b + a0)), (1, .ref (b + a1)), (2, .ref (b + a2)), (3, .ref (b + a3)), (4, .int a4), (5, .int a5), (6, .int a6), (8, .int ((4 * a5) + (a6 - a6 / 4 * 4))), (9, .int ((a6 - a6 / 4 * 4) / 2)), (10, .int ((a6 - a6 / 4 * 4) - (a6 - a6 / 4 * 4) / 2 * 2)), (11, .int (1 + ((a6 / 4) - (a6 / 4) / (2 - ((a6 - a6 / 4 * 4) - (a6 - a6 / 4 * 4) / 2 * 2)) * (2 - ((a6 - a6 / 4 * 4) - (a6 - a6 / 4 * 4) / 2 * 2)))))] (by decide) [1, 2, 3, 4, 5, 6, 7, 8, 9, 10, 0] rfl ?_
    refine r_iload X 4 rfl dL_places_214 216 rfl ?_
    refine r_bipush (v := 7) X rfl dL_places_216 218 rfl ?_
    refine r_icmp_ne X dL_places_218 300 (by decide) 221 rfl (fun c3 => ?_) (fun c3 => ?_)
    · have h := z_ie c3 h
      refine r_iload X 6 rfl dL_places_300 302 rfl ?_
      refine r_bipush (v := 8) X rfl dL_places_302 304 rfl ?_
      refine r_idiv X (by decide) dL_places_304 305 rfl ?_
      refine r_iconst (v := 2) X rfl dL_places_305 306 rfl ?_
      refine r_irem X (by decide) dL_places_306 307 rfl ?_
      refine r_istore X dL_places_307 309 rfl [(0, .ref (b + a0)), (1, .ref (b + a1)), (2, .ref (b + a2)), (3, .ref (b + a3)), (5, .int a5), (6, .int a6), (8, .int ((4 * a5) + (a6 - a6 / 4 * 4))), (9, .int ((a6 - a6 / 4 * 4) / 2)), (10, .int ((a6 - a6 / 4 * 4) - (a6 - a6 / 4 * 4) / 2 * 2)), (11, .int (1 + ((a6 / 4) - (a6 / 4) / (2 - ((a6 - a6 / 4 * 4) - (a6 - a6 / 4 * 4) / 2 * 2)) * (2 - ((a6 - a6 / 4 * 4) - (a6 - a6 / 4 * 4) / 2 * 2))))), (12, .int ((a6 / 8) - (a6 / 8) / 2 * 2))] (by decide) [1, 2, 3, 4, 6, 7, 8, 9, 10, 11, 0] rfl ?_
      refine r_iload X 9 rfl dL_places_309 311 rfl ?_
      refine r_iconst (v := 2) X rfl dL_places_311 312 rfl ?_
      obtain ⟨j22, hT22, h⟩ := z_bd h
      have hJ22 : GW Γ G b 0 0 M 326 [(0, .ref (b + a0)), (1, .ref (b + a1)), (2, .ref (b + a2)), (3, .ref (b + a3)), (5, .int a5), (8, .int ((4 * a5) + (a6 - a6 / 4 * 4))), (9, .int ((a6 - a6 / 4 * 4) / 2)), (10, .int ((a6 - a6 / 4 * 4) - (a6 - a6 / 4 * 4) / 2 * 2)), (11, .int (1 + ((a6 / 4) - (a6 / 4) / (2 - ((a6 - a6 / 4 * 4) - (a6 - a6 / 4 * 4) / 2 * 2)) * (2 - ((a6 - a6 / 4 * 4) - (a6 - a6 / 4 * 4) / 2 * 2))))), (12, .int ((a6 / 8) - (a6 / 8) / 2 * 2))] [.int j22] := by
        refine r_istore X dL_places_326 328 rfl [(0, .ref (b + a0)), (1, .ref (b + a1)), (2, .ref (b + a2)), (3, .ref (b + a3)), (5, .int a5), (8, .int ((4 * a5) + (a6 - a6 / 4 * 4))), (9, .int ((a6 - a6 / 4 * 4) / 2)), (10, .int ((a6 - a6 / 4 * 4) - (a6 - a6 / 4 * 4) / 2 * 2)), (11, .int (1 + ((a6 / 4) - (a6 / 4) / (2 - ((a6 - a6 / 4 * 4) - (a6 - a6 / 4 * 4) / 2 * 2)) * (2 - ((a6 - a6 / 4 * 4) - (a6 - a6 / 4 * 4) / 2 * 2))))), (12, .int ((a6 / 8) - (a6 / 8) / 2 * 2)), (13, .int j22)] (by decide) [1, 2, 3, 4, 5, 6, 7, 8, 9, 10, 0] rfl ?_
        refine r_aload_n X 1 rfl dL_places_328 329 rfl ?_
        refine r_iload X 5 rfl dL_places_329 331 rfl ?_
        obtain ⟨x23, e23, h⟩ := z_bd h
        refine r_iaload X ha1 hna1 e23 dL_places_331 332 rfl ?_
        refine r_istore X dL_places_332 334 rfl [(0, .ref (b + a0)), (1, .ref (b + a1)), (2, .ref (b + a2)), (3, .ref (b + a3)), (5, .int a5), (9, .int ((a6 - a6 / 4 * 4) / 2)), (10, .int ((a6 - a6 / 4 * 4) - (a6 - a6 / 4 * 4) / 2 * 2)), (11, .int (1 + ((a6 / 4) - (a6 / 4) / (2 - ((a6 - a6 / 4 * 4) - (a6 - a6 / 4 * 4) / 2 * 2)) * (2 - ((a6 - a6 / 4 * 4) - (a6 - a6 / 4 * 4) / 2 * 2))))), (12, .int ((a6 / 8) - (a6 / 8) / 2 * 2)), (13, .int j22), (14, .int x23)] (by decide) [1, 2, 3, 4, 5, 7, 8, 9, 10, 11, 0] rfl ?_
        refine r_aload_n X 1 rfl dL_places_334 335 rfl ?_
        refine r_iconst (v := 4) X rfl dL_places_335 336 rfl ?_
        refine r_iload X 4 rfl dL_places_336 338 rfl ?_
        refine r_imul X dL_places_338 339 rfl ?_
        refine r_iconst (v := 2) X rfl dL_places_339 340 rfl ?_
        refine r_iload X 5 rfl dL_places_340 342 rfl ?_
        refine r_imul X dL_places_342 343 rfl ?_
        refine r_iadd X dL_places_343 344 rfl ?_
        refine r_iconst (v := 1) X rfl dL_places_344 345 rfl ?_
        refine r_iadd X dL_places_345 346 rfl ?_
        obtain ⟨x24, e24, h⟩ := z_bd h
        refine r_iaload X ha1 hna1 e24 dL_places_346 347 rfl ?_
        refine r_istore X dL_places_347 349 rfl [(0, .ref (b + a0)), (1, .ref (b + a1)), (2, .ref (b + a2)), (3, .ref (b + a3)), (5, .int a5), (9, .int ((a6 - a6 / 4 * 4) / 2)), (10, .int ((a6 - a6 / 4 * 4) - (a6 - a6 / 4 * 4) / 2 * 2)), (11, .int (1 + ((a6 / 4) - (a6 / 4) / (2 - ((a6 - a6 / 4 * 4) - (a6 - a6 / 4 * 4) / 2 * 2)) * (2 - ((a6 - a6 / 4 * 4) - (a6 - a6 / 4 * 4) / 2 * 2))))), (12, .int ((a6 / 8) - (a6 / 8) / 2 * 2)), (13, .int j22), (14, .int x23), (15, .int x24)] (by decide) [1, 2, 3, 4, 5, 6, 7, 8, 9, 10, 11, 0] rfl ?_
        refine r_iconst (v := 4) X rfl dL_places_349 350 rfl ?_
        refine r_iload X 4 rfl dL_places_350 352 rfl ?_
        refine r_imul X dL_places_352 353 rfl ?_
        refine r_iconst (v := 2) X rfl dL_places_353 354 rfl ?_
        refine r_iload X 8 rfl dL_places_354 356 rfl ?_
        refine r_imul X dL_places_356 357 rfl ?_
        refine r_iadd X dL_places_357 358 rfl ?_
        refine r_iload X 9 rfl dL_places_358 360 rfl ?_
        refine r_iadd X dL_places_360 361 rfl ?_
        refine r_istore X dL_places_361 363 rfl [(0, .ref (b + a0)), (1, .ref (b + a1)), (2, .ref (b + a2)), (3, .ref (b + a3)), (5, .int a5), (9, .int ((a6 - a6 / 4 * 4) / 2)), (10, .int ((a6 - a6 / 4 * 4) - (a6 - a6 / 4 * 4) / 2 * 2)), (11, .int (1 + ((a6 / 4) - (a6 / 4) / (2 - ((a6 - a6 / 4 * 4) - (a6 - a6 / 4 * 4) / 2 * 2)) * (2 - ((a6 - a6 / 4 * 4) - (a6 - a6 / 4 * 4) / 2 * 2))))), (12, .int ((a6 / 8) - (a6 / 8) / 2 * 2)), (13, .int j22), (14, .int x23), (15, .int x24), (16, .int (((4 * a5) + (2 * ((a6 / 8) - (a6 / 8) / 2 * 2))) + j22))] (by decide) [1, 2, 3, 4, 5, 6, 7, 8, 9, 10, 11, 12, 0] rfl ?_
        refine r_aload_n X 1 rfl dL_places_363 364 rfl ?_
        refine r_iload X 12 rfl dL_places_364 366 rfl ?_
        obtain ⟨x25, e25, h⟩ := z_bd h
        refine r_iaload X ha1 hna1 e25 dL_places_366 367 rfl ?_
        refine r_iload X 10 rfl dL_places_367 369 rfl ?_
        obtain ⟨j27, hT27, h⟩ := z_bd h
        have hJ27 : GW Γ G b 0 0 M 377 [(0, .ref (b + a0)), (1, .ref (b + a1)), (2, .ref (b + a2)), (3, .ref (b + a3)), (5, .int a5), (9, .int ((a6 - a6 / 4 * 4) / 2)), (10, .int ((a6 - a6 / 4 * 4) - (a6 - a6 / 4 * 4) / 2 * 2)), (11, .int (1 + ((a6 / 4) - (a6 / 4) / (2 - ((a6 - a6 / 4 * 4) - (a6 - a6 / 4 * 4) / 2 * 2)) * (2 - ((a6 - a6 / 4 * 4) - (a6 - a6 / 4 * 4) / 2 * 2))))), (12, .int ((a6 / 8) - (a6 / 8) / 2 * 2)), (13, .int j22), (14, .int x23), (15, .int x24), (16, .int (((4 * a5) + (2 * ((a6 / 8) - (a6 / 8) / 2 * 2))) + j22))] [.int j27] := by
          refine r_istore X dL_places_377 379 rfl [(0, .ref (b + a0)), (1, .ref (b + a1)), (2, .ref (b + a2)), (3, .ref (b + a3)), (5, .int a5), (9, .int ((a6 - a6 / 4 * 4) / 2)), (10, .int ((a6 - a6 / 4 * 4) - (a6 - a6 / 4 * 4) / 2 * 2)), (11, .int (1 + ((a6 / 4) - (a6 / 4) / (2 - ((a6 - a6 / 4 * 4) - (a6 - a6 / 4 * 4) / 2 * 2)) * (2 - ((a6 - a6 / 4 * 4) - (a6 - a6 / 4 * 4) / 2 * 2))))), (12, .int ((a6 / 8) - (a6 / 8) / 2 * 2)), (13, .int j22), (14, .int x23), (15, .int x24), (16, .int (((4 * a5) + (2 * ((a6 / 8) - (a6 / 8) / 2 * 2))) + j22)), (17, .int j27)] (by decide) [1, 2, 3, 4, 5, 6, 7, 8, 9, 10, 11, 12, 13, 0] rfl ?_
          refine r_aload_n X 1 rfl dL_places_379 380 rfl ?_
          refine r_iload X 12 rfl dL_places_380 382 rfl ?_
          refine r_iload X 10 rfl dL_places_382 384 rfl ?_
          obtain ⟨M28, e28, h⟩ := z_bd h
          refine r_iastore X ha1 hna1 e28 dL_places_384 385 rfl ?_
          refine r_iload X 7 rfl dL_places_385 387 rfl ?_
          refine r_iconst (v := 2) X rfl dL_places_387 388 rfl ?_
          obtain ⟨j30, M31, hT31, h⟩ := z_bd2 h
          have hJ31 : GW Γ G b 0 0 M31 420 [(0, .ref (b + a0)), (1, .ref (b + a1)), (2, .ref (b + a2)), (3, .ref (b + a3)), (5, .int a5), (9, .int ((a6 - a6 / 4 * 4) / 2)), (10, .int ((a6 - a6 / 4 * 4) - (a6 - a6 / 4 * 4) / 2 * 2)), (11, .int (1 + ((a6 / 4) - (a6 / 4) / (2 - ((a6 - a6 / 4 * 4) - (a6 - a6 / 4 * 4) / 2 * 2)) * (2 - ((a6 - a6 / 4 * 4) - (a6 - a6 / 4 * 4) / 2 * 2))))), (12, .int ((a6 / 8) - (a6 / 8) / 2 * 2)), (13, .int j22), (17, .int j30)] [] := by
            refine r_aload_n X 1 rfl dL_places_420 421 rfl ?_
            refine r_aload_n X 2 rfl dL_places_421 422 rfl ?_
            refine r_aload_n X 3 rfl dL_places_422 423 rfl ?_
            obtain ⟨x32, M33, e33, h⟩ := z_bd2 h
            refine r_callS (rest := []) X (tL_settle hl G b a1 ha1 hna1 a2 ha2 a3 ha3 hna3 M31 e33) zy_L_settle zs_L_settle km_L_166 rfl ⟨rfl, rfl⟩ ⟨rfl, rfl⟩ rfl rfl (Nat.le_of_ble_eq_true rfl) ⟨Nat.zero_le _, Nat.zero_le _⟩ dL_places_423 426 rfl [.int x32] rfl ?_
            refine r_if_lt X dL_places_426 454 (by decide) 429 rfl (fun c34 => ?_) (fun c34 => ?_)
            · have h := z_it c34 h
              refine r_iconst (v := 0) X rfl dL_places_454 455 rfl ?_
              cases h
              exact r_iret X R rfl dL_places_455
            · have h := z_ie c34 h
              refine r_aload_n X 0 rfl dL_places_429 430 rfl ?_
              refine r_iload X 4 rfl dL_places_430 432 rfl ?_
              refine r_iload X 5 rfl dL_places_432 434 rfl ?_
              refine r_iload X 6 rfl dL_places_434 436 rfl ?_
              refine r_iload X 8 rfl dL_places_436 438 rfl ?_
              refine r_iload X 9 rfl dL_places_438 440 rfl ?_
              refine r_iload X 7 rfl dL_places_440 442 rfl ?_
              obtain ⟨x35, M36, e35, h⟩ := z_bd2 h
              have e35 := z_ntw_of e35
              refine r_callV (rest := []) X (z_MX_ret (tX6_reflink hl G b a0 ha0 a5 ((a6 - a6 / 4 * 4) / 2) ((a6 - a6 / 4 * 4) - (a6 - a6 / 4 * 4) / 2 * 2) ((a6 / 8) - (a6 / 8) / 2 * 2) j22 (1 + ((a6 / 4) - (a6 / 4) / (2 - ((a6 - a6 / 4 * 4) - (a6 - a6 / 4 * 4) / 2 * 2)) * (2 - ((a6 - a6 / 4 * 4) - (a6 - a6 / 4 * 4) / 2 * 2)))) M33 (r9 := .inr x35) e35)) zy_X6_reflink zw_X6_reflink km_L_177 ha0 rfl zv_X6 rfl ⟨rfl, rfl⟩ ⟨rfl, rfl⟩ rfl rfl (Nat.le_of_ble_eq_true rfl) ⟨Nat.zero_le _, Nat.zero_le _⟩ dL_places_442 445 rfl [.int x35] rfl ?_
              refine r_iload X 10 rfl dL_places_445 447 rfl ?_
              refine r_icmp_ne X dL_places_447 454 (by decide) 450 rfl (fun c37 => ?_) (fun c37 => ?_)
              · have h := z_ie c37 h
                refine r_iconst (v := 0) X rfl dL_places_454 455 rfl ?_
                cases h
                exact r_iret X R rfl dL_places_455
              · have h := z_it c37 h
                refine r_iconst (v := 1) X rfl dL_places_450 451 rfl ?_
                refine r_goto X dL_places_451 455 (by decide) ?_
                cases h
                exact r_iret X R rfl dL_places_455
          have h := hT31
          refine r_icmp_ne X dL_places_388 420 (by decide) 391 rfl (fun c29 => ?_) (fun c29 => ?_)
          · have h := z_ie c29 h
            refine r_sub [(0, .ref (b + a0)), (1, .ref (b + a1)), (2, .ref (b + a2)), (3, .ref (b + a3)), (5, .int a5), (9, .int ((a6 - a6 / 4 * 4) / 2)), (10, .int ((a6 - a6 / 4 * 4) - (a6 - a6 / 4 * 4) / 2 * 2)), (11, .int (1 + ((a6 / 4) - (a6 / 4) / (2 - ((a6 - a6 / 4 * 4) - (a6 - a6 / 4 * 4) / 2 * 2)) * (2 - ((a6 - a6 / 4 * 4) - (a6 - a6 / 4 * 4) / 2 * 2))))), (12, .int ((a6 / 8) - (a6 / 8) / 2 * 2)), (13, .int j22), (17, .int j27)] [0, 1, 2, 3, 4, 5, 6, 7, 8, 9, 13] rfl ?_
            cases h
            exact hJ31
          · have h := z_it c29 h
            refine r_iload X 13 rfl dL_places_391 393 rfl ?_
            refine r_aload_n X 1 rfl dL_places_393 394 rfl ?_
            refine r_iload X 12 rfl dL_places_394 396 rfl ?_
            refine r_iconst (v := 1) X rfl dL_places_396 397 rfl ?_
            refine r_iadd X dL_places_397 398 rfl ?_
            obtain ⟨x38, e38, h⟩ := z_bd h
            refine r_iaload X ha1 hna1 e38 dL_places_398 399 rfl ?_
            refine r_iload X 11 rfl dL_places_399 401 rfl ?_
            refine r_icmp_eq X dL_places_401 408 (by decide) 404 rfl (fun c39 => ?_) (fun c39 => ?_)
            · have h := z_it c39 h
              refine r_iconst (v := 0) X rfl dL_places_408 409 rfl ?_
              refine r_iadd X dL_places_409 410 rfl ?_
              refine r_istore X dL_places_410 412 rfl [(0, .ref (b + a0)), (1, .ref (b + a1)), (2, .ref (b + a2)), (3, .ref (b + a3)), (5, .int a5), (9, .int ((a6 - a6 / 4 * 4) / 2)), (10, .int ((a6 - a6 / 4 * 4) - (a6 - a6 / 4 * 4) / 2 * 2)), (11, .int (1 + ((a6 / 4) - (a6 / 4) / (2 - ((a6 - a6 / 4 * 4) - (a6 - a6 / 4 * 4) / 2 * 2)) * (2 - ((a6 - a6 / 4 * 4) - (a6 - a6 / 4 * 4) / 2 * 2))))), (12, .int ((a6 / 8) - (a6 / 8) / 2 * 2)), (13, .int j22), (15, .int x24), (16, .int (((4 * a5) + (2 * ((a6 / 8) - (a6 / 8) / 2 * 2))) + j22)), (17, .int (j27 + 0))] (by decide) [1, 2, 3, 4, 5, 6, 7, 8, 9, 10, 12, 13, 0] rfl ?_
              refine r_aload_n X 1 rfl dL_places_412 413 rfl ?_
              refine r_iload X 11 rfl dL_places_413 415 rfl ?_
              refine r_iconst (v := 1) X rfl dL_places_415 416 rfl ?_
              refine r_iadd X dL_places_416 417 rfl ?_
              refine r_iload X 10 rfl dL_places_417 419 rfl ?_
              obtain ⟨M40, e40, h⟩ := z_bd h
              refine r_iastore X ha1 hna1 e40 dL_places_419 420 rfl ?_
              refine r_sub [(0, .ref (b + a0)), (1, .ref (b + a1)), (2, .ref (b + a2)), (3, .ref (b + a3)), (5, .int a5), (9, .int ((a6 - a6 / 4 * 4) / 2)), (10, .int ((a6 - a6 / 4 * 4) - (a6 - a6 / 4 * 4) / 2 * 2)), (11, .int (1 + ((a6 / 4) - (a6 / 4) / (2 - ((a6 - a6 / 4 * 4) - (a6 - a6 / 4 * 4) / 2 * 2)) * (2 - ((a6 - a6 / 4 * 4) - (a6 - a6 / 4 * 4) / 2 * 2))))), (12, .int ((a6 / 8) - (a6 / 8) / 2 * 2)), (13, .int j22), (17, .int (j27 + 0))] [0, 1, 2, 3, 4, 5, 6, 7, 8, 9, 12] rfl ?_
              cases h
              exact hJ31
            · have h := z_ie c39 h
              refine r_iconst (v := 1) X rfl dL_places_404 405 rfl ?_
              refine r_goto X dL_places_405 409 (by decide) ?_
              refine r_iadd X dL_places_409 410 rfl ?_
              refine r_istore X dL_places_410 412 rfl [(0, .ref (b + a0)), (1, .ref (b + a1)), (2, .ref (b + a2)), (3, .ref (b + a3)), (5, .int a5), (9, .int ((a6 - a6 / 4 * 4) / 2)), (10, .int ((a6 - a6 / 4 * 4) - (a6 - a6 / 4 * 4) / 2 * 2)), (11, .int (1 + ((a6 / 4) - (a6 / 4) / (2 - ((a6 - a6 / 4 * 4) - (a6 - a6 / 4 * 4) / 2 * 2)) * (2 - ((a6 - a6 / 4 * 4) - (a6 - a6 / 4 * 4) / 2 * 2))))), (12, .int ((a6 / 8) - (a6 / 8) / 2 * 2)), (13, .int j22), (15, .int x24), (16, .int (((4 * a5) + (2 * ((a6 / 8) - (a6 / 8) / 2 * 2))) + j22)), (17, .int (j27 + 1))] (by decide) [1, 2, 3, 4, 5, 6, 7, 8, 9, 10, 12, 13, 0] rfl ?_
              refine r_aload_n X 1 rfl dL_places_412 413 rfl ?_
              refine r_iload X 11 rfl dL_places_413 415 rfl ?_
              refine r_iconst (v := 1) X rfl dL_places_415 416 rfl ?_
              refine r_iadd X dL_places_416 417 rfl ?_
              refine r_iload X 10 rfl dL_places_417 419 rfl ?_
              obtain ⟨M41, e41, h⟩ := z_bd h
              refine r_iastore X ha1 hna1 e41 dL_places_419 420 rfl ?_
              refine r_sub [(0, .ref (b + a0)), (1, .ref (b + a1)), (2, .ref (b + a2)), (3, .ref (b + a3)), (5, .int a5), (9, .int ((a6 - a6 / 4 * 4) / 2)), (10, .int ((a6 - a6 / 4 * 4) - (a6 - a6 / 4 * 4) / 2 * 2)), (11, .int (1 + ((a6 / 4) - (a6 / 4) / (2 - ((a6 - a6 / 4 * 4) - (a6 - a6 / 4 * 4) / 2 * 2)) * (2 - ((a6 - a6 / 4 * 4) - (a6 - a6 / 4 * 4) / 2 * 2))))), (12, .int ((a6 / 8) - (a6 / 8) / 2 * 2)), (13, .int j22), (17, .int (j27 + 1))] [0, 1, 2, 3, 4, 5, 6, 7, 8, 9, 12] rfl ?_
              cases h
              exact hJ31
        have h := hT27
        refine r_icmp_eq X dL_places_369 376 (by decide) 372 rfl (fun c26 => ?_) (fun c26 => ?_)
        · have h := z_it c26 h
          refine r_iconst (v := 0) X rfl dL_places_376 377 rfl ?_
          cases h
          exact hJ27
        · have h := z_ie c26 h
          refine r_iconst (v := 1) X rfl dL_places_372 373 rfl ?_
          refine r_goto X dL_places_373 377 (by decide) ?_
          cases h
          exact hJ27
      have h := hT22
      refine r_icmp_ne X dL_places_312 319 (by decide) 315 rfl (fun c21 => ?_) (fun c21 => ?_)
      · have h := z_ie c21 h
        refine r_iload X 5 rfl dL_places_319 321 rfl ?_
        refine r_bipush (v := 16) X rfl dL_places_321 323 rfl ?_
        refine r_idiv X (by decide) dL_places_323 324 rfl ?_
        refine r_iconst (v := 2) X rfl dL_places_324 325 rfl ?_
        refine r_irem X (by decide) dL_places_325 326 rfl ?_
        refine r_sub [(0, .ref (b + a0)), (1, .ref (b + a1)), (2, .ref (b + a2)), (3, .ref (b + a3)), (5, .int a5), (8, .int ((4 * a5) + (a6 - a6 / 4 * 4))), (9, .int ((a6 - a6 / 4 * 4) / 2)), (10, .int ((a6 - a6 / 4 * 4) - (a6 - a6 / 4 * 4) / 2 * 2)), (11, .int (1 + ((a6 / 4) - (a6 / 4) / (2 - ((a6 - a6 / 4 * 4) - (a6 - a6 / 4 * 4) / 2 * 2)) * (2 - ((a6 - a6 / 4 * 4) - (a6 - a6 / 4 * 4) / 2 * 2))))), (12, .int ((a6 / 8) - (a6 / 8) / 2 * 2))] [0, 1, 2, 3, 4, 6, 7, 8, 9, 10] rfl ?_
        cases h
        exact hJ22
      · have h := z_it c21 h
        refine r_iconst (v := 0) X rfl dL_places_315 316 rfl ?_
        refine r_goto X dL_places_316 326 (by decide) ?_
        refine r_sub [(0, .ref (b + a0)), (1, .ref (b + a1)), (2, .ref (b + a2)), (3, .ref (b + a3)), (5, .int a5), (8, .int ((4 * a5) + (a6 - a6 / 4 * 4))), (9, .int ((a6 - a6 / 4 * 4) / 2)), (10, .int ((a6 - a6 / 4 * 4) - (a6 - a6 / 4 * 4) / 2 * 2)), (11, .int (1 + ((a6 / 4) - (a6 / 4) / (2 - ((a6 - a6 / 4 * 4) - (a6 - a6 / 4 * 4) / 2 * 2)) * (2 - ((a6 - a6 / 4 * 4) - (a6 - a6 / 4 * 4) / 2 * 2))))), (12, .int ((a6 / 8) - (a6 / 8) / 2 * 2))] [0, 1, 2, 3, 4, 6, 7, 8, 9, 10] rfl ?_
        cases h
        exact hJ22
    · have h := z_it c3 h
      refine r_iconst (v := 0) X rfl dL_places_221 222 rfl ?_
      refine r_istore X dL_places_222 224 rfl [(0, .ref (b + a0)), (1, .ref (b + a1)), (2, .ref (b + a2)), (3, .ref (b + a3)), (5, .int a5), (8, .int ((4 * a5) + (a6 - a6 / 4 * 4))), (9, .int ((a6 - a6 / 4 * 4) / 2)), (10, .int ((a6 - a6 / 4 * 4) - (a6 - a6 / 4 * 4) / 2 * 2)), (11, .int (1 + ((a6 / 4) - (a6 / 4) / (2 - ((a6 - a6 / 4 * 4) - (a6 - a6 / 4 * 4) / 2 * 2)) * (2 - ((a6 - a6 / 4 * 4) - (a6 - a6 / 4 * 4) / 2 * 2))))), (12, .int 0)] (by decide) [1, 2, 3, 4, 6, 8, 9, 10, 11, 0] rfl ?_
      refine r_iconst (v := 0) X rfl dL_places_224 225 rfl ?_
      refine r_istore X dL_places_225 227 rfl [(0, .ref (b + a0)), (1, .ref (b + a1)), (2, .ref (b + a2)), (3, .ref (b + a3)), (5, .int a5), (8, .int ((4 * a5) + (a6 - a6 / 4 * 4))), (9, .int ((a6 - a6 / 4 * 4) / 2)), (10, .int ((a6 - a6 / 4 * 4) - (a6 - a6 / 4 * 4) / 2 * 2)), (11, .int (1 + ((a6 / 4) - (a6 / 4) / (2 - ((a6 - a6 / 4 * 4) - (a6 - a6 / 4 * 4) / 2 * 2)) * (2 - ((a6 - a6 / 4 * 4) - (a6 - a6 / 4 * 4) / 2 * 2))))), (12, .int 0), (13, .int 0)] (by decide) [1, 2, 3, 4, 5, 6, 7, 8, 9, 10, 0] rfl ?_
      obtain ⟨x7, M8, hL9, h⟩ := z_bd2 h
      have hK9 : GW Γ G b 0 0 M8 268 [(0, .ref (b + a0)), (1, .ref (b + a1)), (2, .ref (b + a2)), (3, .ref (b + a3)), (5, .int a5), (9, .int ((a6 - a6 / 4 * 4) / 2)), (10, .int ((a6 - a6 / 4 * 4) - (a6 - a6 / 4 * 4) / 2 * 2)), (11, .int (1 + ((a6 / 4) - (a6 / 4) / (2 - ((a6 - a6 / 4 * 4) - (a6 - a6 / 4 * 4) / 2 * 2)) * (2 - ((a6 - a6 / 4 * 4) - (a6 - a6 / 4 * 4) / 2 * 2))))), (12, .int x7)] [] := by
        refine r_aload_n X 1 rfl dL_places_268 269 rfl ?_
        refine r_aload_n X 2 rfl dL_places_269 270 rfl ?_
        refine r_aload_n X 3 rfl dL_places_270 271 rfl ?_
        obtain ⟨x10, M11, e11, h⟩ := z_bd2 h
        refine r_callS (rest := []) X (tL_settle hl G b a1 ha1 hna1 a2 ha2 a3 ha3 hna3 M8 e11) zy_L_settle zs_L_settle km_L_166 rfl ⟨rfl, rfl⟩ ⟨rfl, rfl⟩ rfl rfl (Nat.le_of_ble_eq_true rfl) ⟨Nat.zero_le _, Nat.zero_le _⟩ dL_places_271 274 rfl [.int x10] rfl ?_
        refine r_if_lt X dL_places_274 298 (by decide) 277 rfl (fun c12 => ?_) (fun c12 => ?_)
        · have h := z_it c12 h
          refine r_iconst (v := 0) X rfl dL_places_298 299 rfl ?_
          cases h
          exact r_iret X R rfl dL_places_299
        · have h := z_ie c12 h
          refine r_aload_n X 0 rfl dL_places_277 278 rfl ?_
          refine r_iload X 4 rfl dL_places_278 280 rfl ?_
          refine r_iload X 5 rfl dL_places_280 282 rfl ?_
          refine r_iload X 6 rfl dL_places_282 284 rfl ?_
          refine r_iload X 7 rfl dL_places_284 286 rfl ?_
          obtain ⟨x13, M14, e13, h⟩ := z_bd2 h
          have e13 := z_ntw_of e13
          refine r_callV (rest := []) X (z_MX_ret (tX6_punch hl G b a0 ha0 a5 ((a6 - a6 / 4 * 4) / 2) ((a6 - a6 / 4 * 4) - (a6 - a6 / 4 * 4) / 2 * 2) (1 + ((a6 / 4) - (a6 / 4) / (2 - ((a6 - a6 / 4 * 4) - (a6 - a6 / 4 * 4) / 2 * 2)) * (2 - ((a6 - a6 / 4 * 4) - (a6 - a6 / 4 * 4) / 2 * 2)))) M11 (r9 := .inr x13) e13)) zy_X6_punch zw_X6_punch km_L_174 ha0 rfl zv_X6 rfl ⟨rfl, rfl⟩ ⟨rfl, rfl⟩ rfl rfl (Nat.le_of_ble_eq_true rfl) ⟨Nat.zero_le _, Nat.zero_le _⟩ dL_places_286 289 rfl [.int x13] rfl ?_
          refine r_iload X 8 rfl dL_places_289 291 rfl ?_
          refine r_icmp_ne X dL_places_291 298 (by decide) 294 rfl (fun c15 => ?_) (fun c15 => ?_)
          · have h := z_ie c15 h
            refine r_iconst (v := 0) X rfl dL_places_298 299 rfl ?_
            cases h
            exact r_iret X R rfl dL_places_299
          · have h := z_it c15 h
            refine r_iconst (v := 1) X rfl dL_places_294 295 rfl ?_
            refine r_goto X dL_places_295 299 (by decide) ?_
            cases h
            exact r_iret X R rfl dL_places_299
      clear h
      refine z_loopP (fun (s : (Int32 × Int32 × zM)) => GW Γ G b 0 0 s.2.2 227 [(0, .ref (b + a0)), (1, .ref (b + a1)), (2, .ref (b + a2)), (3, .ref (b + a3)), (5, .int a5), (8, .int ((4 * a5) + (a6 - a6 / 4 * 4))), (9, .int ((a6 - a6 / 4 * 4) / 2)), (10, .int ((a6 - a6 / 4 * 4) - (a6 - a6 / 4 * 4) / 2 * 2)), (11, .int (1 + ((a6 / 4) - (a6 / 4) / (2 - ((a6 - a6 / 4 * 4) - (a6 - a6 / 4 * 4) / 2 * 2)) * (2 - ((a6 - a6 / 4 * 4) - (a6 - a6 / 4 * 4) / 2 * 2))))), (12, .int s.1), (13, .int s.2.1)] []) (fun s q9 hb hP9 hx9 => ?_) _ _ hL9
      obtain ⟨x4, x5, M6⟩ := s
      have h : fL_places_L1 a1 a5 a6 x4 x5 M6 = some q9 := hb
      unfold fL_places_L1 at h
      refine r_iload X 10 rfl dL_places_227 229 rfl ?_
      refine r_iload X 8 rfl dL_places_229 231 rfl ?_
      refine r_icmp_ge X dL_places_231 268 (by decide) 234 rfl (fun c16 => ?_) (fun c16 => ?_)
      · have h := z_it c16 h
        refine r_sub [(0, .ref (b + a0)), (1, .ref (b + a1)), (2, .ref (b + a2)), (3, .ref (b + a3)), (5, .int a5), (9, .int ((a6 - a6 / 4 * 4) / 2)), (10, .int ((a6 - a6 / 4 * 4) - (a6 - a6 / 4 * 4) / 2 * 2)), (11, .int (1 + ((a6 / 4) - (a6 / 4) / (2 - ((a6 - a6 / 4 * 4) - (a6 - a6 / 4 * 4) / 2 * 2)) * (2 - ((a6 - a6 / 4 * 4) - (a6 - a6 / 4 * 4) / 2 * 2))))), (12, .int x4)] [0, 1, 2, 3, 4, 6, 7, 8, 9] rfl ?_
        have e := hx9 _ (Option.some.inj h).symm
        cases e
        exact hK9
      · have h := z_ie c16 h
        refine r_iload X 9 rfl dL_places_234 236 rfl ?_
        refine r_aload_n X 1 rfl dL_places_236 237 rfl ?_
        refine r_iload X 5 rfl dL_places_237 239 rfl ?_
        refine r_iload X 10 rfl dL_places_239 241 rfl ?_
        refine r_iadd X dL_places_241 242 rfl ?_
        obtain ⟨x17, e17, h⟩ := z_bd h
        refine r_iaload X ha1 hna1 e17 dL_places_242 243 rfl ?_
        obtain ⟨j19, hT19, h⟩ := z_bd h
        have hJ19 : GW Γ G b 0 0 M6 251 [(0, .ref (b + a0)), (1, .ref (b + a1)), (2, .ref (b + a2)), (3, .ref (b + a3)), (5, .int a5), (8, .int ((4 * a5) + (a6 - a6 / 4 * 4))), (9, .int ((a6 - a6 / 4 * 4) / 2)), (10, .int ((a6 - a6 / 4 * 4) - (a6 - a6 / 4 * 4) / 2 * 2)), (11, .int (1 + ((a6 / 4) - (a6 / 4) / (2 - ((a6 - a6 / 4 * 4) - (a6 - a6 / 4 * 4) / 2 * 2)) * (2 - ((a6 - a6 / 4 * 4) - (a6 - a6 / 4 * 4) / 2 * 2))))), (13, .int x5)] [.int j19, .int x4] := by
          refine r_iadd X dL_places_251 252 rfl ?_
          refine r_istore X dL_places_252 254 rfl [(0, .ref (b + a0)), (1, .ref (b + a1)), (2, .ref (b + a2)), (3, .ref (b + a3)), (5, .int a5), (8, .int ((4 * a5) + (a6 - a6 / 4 * 4))), (9, .int ((a6 - a6 / 4 * 4) / 2)), (10, .int ((a6 - a6 / 4 * 4) - (a6 - a6 / 4 * 4) / 2 * 2)), (11, .int (1 + ((a6 / 4) - (a6 / 4) / (2 - ((a6 - a6 / 4 * 4) - (a6 - a6 / 4 * 4) / 2 * 2)) * (2 - ((a6 - a6 / 4 * 4) - (a6 - a6 / 4 * 4) / 2 * 2))))), (12, .int (x4 + j19)), (13, .int x5)] (by decide) [1, 2, 3, 4, 5, 6, 7, 8, 9, 0, 10] rfl ?_
          refine r_aload_n X 1 rfl dL_places_254 255 rfl ?_
          refine r_iload X 5 rfl dL_places_255 257 rfl ?_
          refine r_iload X 10 rfl dL_places_257 259 rfl ?_
          refine r_iadd X dL_places_259 260 rfl ?_
          refine r_iconst (v := 0) X rfl dL_places_260 261 rfl ?_
          obtain ⟨M20, e20, h⟩ := z_bd h
          refine r_iastore X ha1 hna1 e20 dL_places_261 262 rfl ?_
          refine r_iinc X dL_places_262 265 rfl [(0, .ref (b + a0)), (1, .ref (b + a1)), (2, .ref (b + a2)), (3, .ref (b + a3)), (5, .int a5), (8, .int ((4 * a5) + (a6 - a6 / 4 * 4))), (9, .int ((a6 - a6 / 4 * 4) / 2)), (10, .int ((a6 - a6 / 4 * 4) - (a6 - a6 / 4 * 4) / 2 * 2)), (11, .int (1 + ((a6 / 4) - (a6 / 4) / (2 - ((a6 - a6 / 4 * 4) - (a6 - a6 / 4 * 4) / 2 * 2)) * (2 - ((a6 - a6 / 4 * 4) - (a6 - a6 / 4 * 4) / 2 * 2))))), (12, .int (x4 + j19)), (13, .int (x5 + 1))] (by decide) 10 rfl (x5 + 1) rfl [1, 2, 3, 4, 5, 6, 7, 8, 9, 10, 0] rfl ?_
          refine r_goto X dL_places_265 227 (by decide) ?_
          exact hP9 ((x4 + j19), (x5 + 1), M20) (Option.some.inj h).symm
        have h := hT19
        refine r_if_le X dL_places_243 250 (by decide) 246 rfl (fun c18 => ?_) (fun c18 => ?_)
        · have h := z_it c18 h
          refine r_iconst (v := 0) X rfl dL_places_250 251 rfl ?_
          refine r_sub [(0, .ref (b + a0)), (1, .ref (b + a1)), (2, .ref (b + a2)), (3, .ref (b + a3)), (5, .int a5), (8, .int ((4 * a5) + (a6 - a6 / 4 * 4))), (9, .int ((a6 - a6 / 4 * 4) / 2)), (10, .int ((a6 - a6 / 4 * 4) - (a6 - a6 / 4 * 4) / 2 * 2)), (11, .int (1 + ((a6 / 4) - (a6 / 4) / (2 - ((a6 - a6 / 4 * 4) - (a6 - a6 / 4 * 4) / 2 * 2)) * (2 - ((a6 - a6 / 4 * 4) - (a6 - a6 / 4 * 4) / 2 * 2))))), (13, .int x5)] [0, 1, 2, 3, 4, 5, 6, 7, 8, 10] rfl ?_
          cases h
          exact hJ19
        · have h := z_ie c18 h
          refine r_iconst (v := 1) X rfl dL_places_246 247 rfl ?_
          refine r_goto X dL_places_247 251 (by decide) ?_
          refine r_sub [(0, .ref (b + a0)), (1, .ref (b + a1)), (2, .ref (b + a2)), (3, .ref (b + a3)), (5, .int a5), (8, .int ((4 * a5) + (a6 - a6 / 4 * 4))), (9, .int ((a6 - a6 / 4 * 4) / 2)), (10, .int ((a6 - a6 / 4 * 4) - (a6 - a6 / 4 * 4) / 2 * 2)), (11, .int (1 + ((a6 / 4) - (a6 / 4) / (2 - ((a6 - a6 / 4 * 4) - (a6 - a6 / 4 * 4) / 2 * 2)) * (2 - ((a6 - a6 / 4 * 4) - (a6 - a6 / 4 * 4) / 2 * 2))))), (13, .int x5)] [0, 1, 2, 3, 4, 5, 6, 7, 8, 10] rfl ?_
          cases h
          exact hJ19
  · have h := z_ie c1 h
    refine r_aload_n X 1 rfl dL_places_22 23 rfl ?_
    refine r_iload X 8 rfl dL_places_23 25 rfl ?_
    obtain ⟨x42, e42, h⟩ := z_bd h
    refine r_iaload X ha1 hna1 e42 dL_places_25 26 rfl ?_
    obtain ⟨j44, hT44, h⟩ := z_bd h
    have hJ44 : GW Γ G b 0 0 M 42 [(0, .ref (b + a0)), (1, .ref (b + a1)), (2, .ref (b + a2)), (3, .ref (b + a3)), (5, .int a5), (6, .int a6), (7, .int (a6 - a6 / 4 * 4)), (8, .int ((4 * a5) + (a6 - a6 / 4 * 4)))] [.int j44] := by
      refine r_istore X dL_places_42 44 rfl [(0, .ref (b + a0)), (1, .ref (b + a1)), (2, .ref (b + a2)), (3, .ref (b + a3)), (5, .int a5), (6, .int a6), (7, .int (a6 - a6 / 4 * 4)), (8, .int ((4 * a5) + (a6 - a6 / 4 * 4))), (9, .int j44)] (by decide) [1, 2, 3, 4, 5, 6, 7, 8, 0] rfl ?_
      refine r_iload X 8 rfl dL_places_44 46 rfl ?_
      obtain ⟨j46, hT46, h⟩ := z_bd h
      have hJ46 : GW Γ G b 0 0 M 83 [(0, .ref (b + a0)), (1, .ref (b + a1)), (2, .ref (b + a2)), (3, .ref (b + a3)), (5, .int a5), (6, .int a6), (7, .int (a6 - a6 / 4 * 4)), (8, .int ((4 * a5) + (a6 - a6 / 4 * 4))), (9, .int j44)] [.int j46] := by
        refine r_istore X dL_places_83 85 rfl [(0, .ref (b + a0)), (1, .ref (b + a1)), (2, .ref (b + a2)), (3, .ref (b + a3)), (5, .int a5), (6, .int a6), (7, .int (a6 - a6 / 4 * 4)), (8, .int ((4 * a5) + (a6 - a6 / 4 * 4))), (9, .int j44), (10, .int j46)] (by decide) [1, 2, 3, 4, 5, 6, 7, 8, 9, 0] rfl ?_
        refine r_iload X 9 rfl dL_places_85 87 rfl ?_
        obtain ⟨j48, hT48, h⟩ := z_bd h
        have hJ48 : GW Γ G b 0 0 M 99 [(0, .ref (b + a0)), (1, .ref (b + a1)), (2, .ref (b + a2)), (3, .ref (b + a3)), (5, .int a5), (6, .int a6), (7, .int (a6 - a6 / 4 * 4)), (8, .int ((4 * a5) + (a6 - a6 / 4 * 4)))] [.int j48] := by
          refine r_istore X dL_places_99 101 rfl [(0, .ref (b + a0)), (1, .ref (b + a1)), (2, .ref (b + a2)), (3, .ref (b + a3)), (5, .int a5), (6, .int a6), (7, .int (a6 - a6 / 4 * 4)), (8, .int ((4 * a5) + (a6 - a6 / 4 * 4))), (9, .int j48)] (by decide) [1, 2, 3, 4, 5, 6, 7, 8, 0] rfl ?_
          refine r_iload X 5 rfl dL_places_101 103 rfl ?_
          refine r_ldc (v := (40503 : Int32)) X kw_L_161 dL_places_103 105 rfl ?_
          refine r_imul X dL_places_105 106 rfl ?_
          refine r_bipush (v := 77) X rfl dL_places_106 108 rfl ?_
          refine r_isub X dL_places_108 109 rfl ?_
          refine r_istore X dL_places_109 111 rfl [(0, .ref (b + a0)), (1, .ref (b + a1)), (2, .ref (b + a2)), (3, .ref (b + a3)), (5, .int a5), (7, .int (a6 - a6 / 4 * 4)), (8, .int ((4 * a5) + (a6 - a6 / 4 * 4))), (9, .int j48), (11, .int ((a6 * (40503 : Int32)) - 77))] (by decide) [1, 2, 3, 4, 5, 7, 8, 9, 0] rfl ?_
          refine r_aload_n X 2 rfl dL_places_111 112 rfl ?_
          refine r_iload X 7 rfl dL_places_112 114 rfl ?_
          refine r_aload_n X 2 rfl dL_places_114 115 rfl ?_
          refine r_iload X 7 rfl dL_places_115 117 rfl ?_
          obtain ⟨x49, e49, h⟩ := z_bd h
          refine r_laload X ha2 (zn_10 ha2) e49 dL_places_117 118 rfl ?_
          refine r_ldc2 (v := (-72057594037927936 : Int64)) X kw_L_162 dL_places_118 121 rfl ?_
          refine r_land X dL_places_121 122 rfl ?_
          refine r_iload X 8 rfl dL_places_122 124 rfl ?_
          refine r_i2l X dL_places_124 125 rfl ?_
          refine r_ldc2 (v := (4294967295 : Int64)) X kw_L_164 dL_places_125 128 rfl ?_
          refine r_land X dL_places_128 129 rfl ?_
          refine r_lor X dL_places_129 130 rfl ?_
          refine r_aload_n X 3 rfl dL_places_130 131 rfl ?_
          refine r_iconst (v := 0) X rfl dL_places_131 132 rfl ?_
          obtain ⟨x50, e50, h⟩ := z_bd h
          refine r_iaload X ha3 hna3 e50 dL_places_132 133 rfl ?_
          refine r_i2l X dL_places_133 134 rfl ?_
          refine r_bipush (v := 32) X rfl dL_places_134 136 rfl ?_
          refine r_lshl X dL_places_136 137 rfl ?_
          refine r_lor X dL_places_137 138 rfl ?_
          obtain ⟨M51, e51, h⟩ := z_bd h
          refine r_lastore X ha2 (zn_10 ha2) e51 dL_places_138 139 rfl ?_
          refine r_aload_n X 1 rfl dL_places_139 140 rfl ?_
          refine r_iload X 6 rfl dL_places_140 142 rfl ?_
          refine r_iload X 7 rfl dL_places_142 144 rfl ?_
          obtain ⟨x52, e52, h⟩ := z_bd h
          refine r_callS (rest := [.int ((4 * a5) + (a6 - a6 / 4 * 4)), .ref (b + a1)]) X (tL_block hl G b j48 M51 e52) zy_L_block zs_L_block km_L_13 rfl ⟨rfl, rfl⟩ ⟨rfl, rfl⟩ rfl rfl (Nat.le_of_ble_eq_true rfl) ⟨Nat.zero_le _, Nat.zero_le _⟩ dL_places_144 147 rfl [.int x52, .int ((4 * a5) + (a6 - a6 / 4 * 4)), .ref (b + a1)] rfl ?_
          refine r_iconst (v := 1) X rfl dL_places_147 148 rfl ?_
          refine r_iadd X dL_places_148 149 rfl ?_
          obtain ⟨M53, e53, h⟩ := z_bd h
          refine r_iastore X ha1 hna1 e53 dL_places_149 150 rfl ?_
          refine r_aload_n X 1 rfl dL_places_150 151 rfl ?_
          refine r_aload_n X 2 rfl dL_places_151 152 rfl ?_
          refine r_aload_n X 3 rfl dL_places_152 153 rfl ?_
          obtain ⟨x54, M55, e55, h⟩ := z_bd2 h
          refine r_callS (rest := []) X (tL_settle hl G b a1 ha1 hna1 a2 ha2 a3 ha3 hna3 M53 e55) zy_L_settle zs_L_settle km_L_166 rfl ⟨rfl, rfl⟩ ⟨rfl, rfl⟩ rfl rfl (Nat.le_of_ble_eq_true rfl) ⟨Nat.zero_le _, Nat.zero_le _⟩ dL_places_153 156 rfl [.int x54] rfl ?_
          refine r_if_lt X dL_places_156 187 (by decide) 159 rfl (fun c56 => ?_) (fun c56 => ?_)
          · have h := z_it c56 h
            refine r_iconst (v := 0) X rfl dL_places_187 188 rfl ?_
            cases h
            exact r_iret X R rfl dL_places_188
          · have h := z_ie c56 h
            refine r_aload_n X 0 rfl dL_places_159 160 rfl ?_
            refine r_iload X 4 rfl dL_places_160 162 rfl ?_
            refine r_iload X 5 rfl dL_places_162 164 rfl ?_
            refine r_iconst (v := 2) X rfl dL_places_164 165 rfl ?_
            refine r_idiv X (by decide) dL_places_165 166 rfl ?_
            refine r_iload X 5 rfl dL_places_166 168 rfl ?_
            refine r_iconst (v := 2) X rfl dL_places_168 169 rfl ?_
            refine r_irem X (by decide) dL_places_169 170 rfl ?_
            refine r_iload X 8 rfl dL_places_170 172 rfl ?_
            obtain ⟨x57, M58, e57, h⟩ := z_bd2 h
            have e57 := z_ntw_of e57
            refine r_callV (rest := []) X (z_MX_ret (tX6_write hl G b a0 ha0 a5 ((a6 - a6 / 4 * 4) / 2) ((a6 - a6 / 4 * 4) - (a6 - a6 / 4 * 4) / 2 * 2) ((a6 * (40503 : Int32)) - 77) M55 (r9 := .inr x57) e57)) zy_X6_write zw_X6_write km_L_170 ha0 rfl zv_X6 rfl ⟨rfl, rfl⟩ ⟨rfl, rfl⟩ rfl rfl (Nat.le_of_ble_eq_true rfl) ⟨Nat.zero_le _, Nat.zero_le _⟩ dL_places_172 175 rfl [.int x57] rfl ?_
            refine r_iload X 7 rfl dL_places_175 177 rfl ?_
            obtain ⟨x59, e59, h⟩ := z_bd h
            refine r_callS (rest := [.int x57]) X (tL_block hl G b j48 M58 e59) zy_L_block zs_L_block km_L_13 rfl ⟨rfl, rfl⟩ ⟨rfl, rfl⟩ rfl rfl (Nat.le_of_ble_eq_true rfl) ⟨Nat.zero_le _, Nat.zero_le _⟩ dL_places_177 180 rfl [.int x59, .int x57] rfl ?_
            refine r_icmp_ne X dL_places_180 187 (by decide) 183 rfl (fun c60 => ?_) (fun c60 => ?_)
            · have h := z_ie c60 h
              refine r_iconst (v := 0) X rfl dL_places_187 188 rfl ?_
              cases h
              exact r_iret X R rfl dL_places_188
            · have h := z_it c60 h
              refine r_iconst (v := 1) X rfl dL_places_183 184 rfl ?_
              refine r_goto X dL_places_184 188 (by decide) ?_
              cases h
              exact r_iret X R rfl dL_places_188
        have h := hT48
        refine r_if_eq X dL_places_87 95 (by decide) 90 rfl (fun c47 => ?_) (fun c47 => ?_)
        · have h := z_it c47 h
          refine r_aload_n X 2 rfl dL_places_95 96 rfl ?_
          obtain ⟨x61, e61, h⟩ := z_bd h
          refine r_callS (rest := []) X (tL_next hl G b a2 ha2 M e61) zy_L_next zs_L_next km_L_157 rfl ⟨rfl, rfl⟩ ⟨rfl, rfl⟩ rfl rfl (Nat.le_of_ble_eq_true rfl) ⟨Nat.zero_le _, Nat.zero_le _⟩ dL_places_96 99 rfl [.int x61] rfl ?_
          refine r_sub [(0, .ref (b + a0)), (1, .ref (b + a1)), (2, .ref (b + a2)), (3, .ref (b + a3)), (5, .int a5), (6, .int a6), (7, .int (a6 - a6 / 4 * 4)), (8, .int ((4 * a5) + (a6 - a6 / 4 * 4)))] [0, 1, 2, 3, 4, 5, 6, 7] rfl ?_
          cases h
          exact hJ48
        · have h := z_ie c47 h
          refine r_iload X 8 rfl dL_places_90 92 rfl ?_
          refine r_goto X dL_places_92 99 (by decide) ?_
          refine r_sub [(0, .ref (b + a0)), (1, .ref (b + a1)), (2, .ref (b + a2)), (3, .ref (b + a3)), (5, .int a5), (6, .int a6), (7, .int (a6 - a6 / 4 * 4)), (8, .int ((4 * a5) + (a6 - a6 / 4 * 4)))] [0, 1, 2, 3, 4, 5, 6, 7] rfl ?_
          cases h
          exact hJ48
      have h := hT46
      refine r_if_lt X dL_places_46 82 (by decide) 49 rfl (fun c45 => ?_) (fun c45 => ?_)
      · have h := z_it c45 h
        refine r_iconst (v := 0) X rfl dL_places_82 83 rfl ?_
        cases h
        exact hJ46
      · have h := z_ie c45 h
        refine r_aload_n X 2 rfl dL_places_49 50 rfl ?_
        refine r_iload X 8 rfl dL_places_50 52 rfl ?_
        obtain ⟨x62, e62, h⟩ := z_bd h
        refine r_callS (rest := []) X (tL_birth hl G b a2 ha2 j44 M e62) zy_L_birth zs_L_birth km_L_27 rfl ⟨rfl, rfl⟩ ⟨rfl, rfl⟩ rfl rfl (Nat.le_of_ble_eq_true rfl) ⟨Nat.zero_le _, Nat.zero_le _⟩ dL_places_52 55 rfl [.int x62] rfl ?_
        refine r_aload_n X 3 rfl dL_places_55 56 rfl ?_
        refine r_iconst (v := 0) X rfl dL_places_56 57 rfl ?_
        obtain ⟨x63, e63, h⟩ := z_bd h
        refine r_iaload X ha3 hna3 e63 dL_places_57 58 rfl ?_
        refine r_icmp_ne X dL_places_58 82 (by decide) 61 rfl (fun c64 => ?_) (fun c64 => ?_)
        · have h := z_ie c64 h
          refine r_iconst (v := 0) X rfl dL_places_82 83 rfl ?_
          cases h
          exact hJ46
        · have h := z_it c64 h
          refine r_aload_n X 1 rfl dL_places_61 62 rfl ?_
          refine r_aload_n X 1 rfl dL_places_62 63 rfl ?_
          refine r_iload X 7 rfl dL_places_63 65 rfl ?_
          obtain ⟨x65, e65, h⟩ := z_bd h
          refine r_iaload X ha1 hna1 e65 dL_places_65 66 rfl ?_
          refine r_iconst (v := 1) X rfl dL_places_66 67 rfl ?_
          refine r_isub X dL_places_67 68 rfl ?_
          refine r_iconst (v := 0) X rfl dL_places_68 69 rfl ?_
          refine r_bipush (v := 28) X rfl dL_places_69 71 rfl ?_
          obtain ⟨x66, e66, h⟩ := z_bd h
          refine r_callS (rest := []) X (tL_count hl G b a1 ha1 hna1 (x65 - 1) 0 28 M e66) zy_L_count zs_L_count km_L_19 rfl ⟨rfl, rfl⟩ ⟨rfl, rfl⟩ rfl rfl (Nat.le_of_ble_eq_true rfl) ⟨Nat.zero_le _, Nat.zero_le _⟩ dL_places_71 74 rfl [.int x66] rfl ?_
          refine r_iconst (v := 1) X rfl dL_places_74 75 rfl ?_
          refine r_icmp_ne X dL_places_75 82 (by decide) 78 rfl (fun c67 => ?_) (fun c67 => ?_)
          · have h := z_ie c67 h
            refine r_iconst (v := 0) X rfl dL_places_82 83 rfl ?_
            cases h
            exact hJ46
          · have h := z_it c67 h
            refine r_iconst (v := 1) X rfl dL_places_78 79 rfl ?_
            refine r_goto X dL_places_79 83 (by decide) ?_
            cases h
            exact hJ46
    have h := hT44
    refine r_if_le X dL_places_26 41 (by decide) 29 rfl (fun c43 => ?_) (fun c43 => ?_)
    · have h := z_it c43 h
      refine r_iconst (v := (-1)) X rfl dL_places_41 42 rfl ?_
      refine r_sub [(0, .ref (b + a0)), (1, .ref (b + a1)), (2, .ref (b + a2)), (3, .ref (b + a3)), (5, .int a5), (6, .int a6), (7, .int (a6 - a6 / 4 * 4)), (8, .int ((4 * a5) + (a6 - a6 / 4 * 4)))] [0, 1, 2, 3, 5, 6, 7, 8] rfl ?_
      cases h
      exact hJ44
    · have h := z_ie c43 h
      refine r_aload_n X 1 rfl dL_places_29 30 rfl ?_
      refine r_iload X 8 rfl dL_places_30 32 rfl ?_
      obtain ⟨x68, e68, h⟩ := z_bd h
      refine r_iaload X ha1 hna1 e68 dL_places_32 33 rfl ?_
      refine r_iconst (v := 1) X rfl dL_places_33 34 rfl ?_
      refine r_isub X dL_places_34 35 rfl ?_
      obtain ⟨x69, e69, h⟩ := z_bd h
      refine r_callS (rest := []) X (tL_place hl G b (x68 - 1) M e69) zy_L_place zs_L_place km_L_83 rfl ⟨rfl, rfl⟩ ⟨rfl, rfl⟩ rfl rfl (Nat.le_of_ble_eq_true rfl) ⟨Nat.zero_le _, Nat.zero_le _⟩ dL_places_35 38 rfl [.int x69] rfl ?_
      refine r_goto X dL_places_38 42 (by decide) ?_
      refine r_sub [(0, .ref (b + a0)), (1, .ref (b + a1)), (2, .ref (b + a2)), (3, .ref (b + a3)), (5, .int a5), (6, .int a6), (7, .int (a6 - a6 / 4 * 4)), (8, .int ((4 * a5) + (a6 - a6 / 4 * 4)))] [0, 1, 2, 3, 5, 6, 7, 8] rfl ?_
      cases h
      exact hJ44
set_option maxRecDepth 100000 in
set_option maxHeartbeats 1000000 in
theorem tL_snapshots {l : Launch} (hl : l.stackTraces = false) (G : zG) (b : Nat) (a0 : Nat) (ha0 : z_kd a0 = 6) (a1 : Nat) (ha1 : z_kd a1 = 8) (hna1 : z_ln a1 = 28) (a2 : Nat) (ha2 : z_kd a2 = 10) (a3 : Nat) (ha3 : z_kd a3 = 8) (hna3 : z_ln a3 = 32) (a4 : Int32) (a5 : Int32) (M : zM) {r9 : Int32} {M9 : zM} (h : fL_snapshots a0 a1 a2 a3 a4 a5 M = some (r9, M9)) : z_MA l yL_snapshots cL_snapshots 12 (some .boolean) 9 179 G b [.ref (b + a0), .ref (b + a1), .ref (b + a2), .ref (b + a3), .int a4, .int a5] M (some (.int r9)) M9 := by
  refine z_meta (own := RL) hl (by decide) rfl rfl (fun Γ hΓ X R => ?_)
  subst hΓ
  show GW Γ G b 0 0 M 0 [(0, .ref (b + a0)), (1, .ref (b + a1)), (2, .ref (b + a2)), (3, .ref (b + a3)), (4, .int a4), (5, .int a5)] []
  unfold fL_snapshots at h
  refine r_aload_n X 3 rfl dL_snapshots_0 1 rfl ?_
  refine r_bipush (v := 12) X rfl dL_snapshots_1 3 rfl ?_
  refine r_iload X 5 rfl dL_snapshots_3 5 rfl ?_
  refine r_iadd X dL_snapshots_5 6 rfl ?_
  obtain ⟨x1, e1, h⟩ := z_bd h
  refine r_iaload X ha3 hna3 e1 dL_snapshots_6 7 rfl ?_
  refine r_iconst (v := 1) X rfl dL_snapshots_7 8 rfl ?_
  refine r_isub X dL_snapshots_8 9 rfl ?_
  refine r_istore X dL_snapshots_9 11 rfl [(0, .ref (b + a0)), (1, .ref (b + a1)), (2, .ref (b + a2)), (3, .ref (b + a3)), (4, .int a4), (5, .int a5), (6, .int (x1 - 1))] (by decide) [1, 2, 3, 4, 5, 6, 0] rfl ?_
  refine r_aload_n X 3 rfl dL_snapshots_11 12 rfl ?_
  refine r_bipush (v := 16) X rfl dL_snapshots_12 14 rfl ?_
  refine r_iload X 5 rfl dL_snapshots_14 16 rfl ?_
  refine r_iadd X dL_snapshots_16 17 rfl ?_
  obtain ⟨x2, e2, h⟩ := z_bd h
  refine r_iaload X ha3 hna3 e2 dL_snapshots_17 18 rfl ?_
  refine r_istore X dL_snapshots_18 20 rfl [(0, .ref (b + a0)), (1, .ref (b + a1)), (2, .ref (b + a2)), (3, .ref (b + a3)), (4, .int a4), (5, .int a5), (6, .int (x1 - 1)), (7, .int x2)] (by decide) [1, 2, 3, 4, 5, 6, 7, 0] rfl ?_
  refine r_iload X 4 rfl dL_snapshots_20 22 rfl ?_
  refine r_bipush (v := 12) X rfl dL_snapshots_22 24 rfl ?_
  refine r_icmp_ge X dL_snapshots_24 86 (by decide) 27 rfl (fun c3 => ?_) (fun c3 => ?_)
  · have h := z_it c3 h
    refine r_iload X 4 rfl dL_snapshots_86 88 rfl ?_
    refine r_bipush (v := 14) X rfl dL_snapshots_88 90 rfl ?_
    refine r_icmp_ge X dL_snapshots_90 300 (by decide) 93 rfl (fun c4 => ?_) (fun c4 => ?_)
    · have h := z_it c4 h
      refine r_aload_n X 3 rfl dL_snapshots_300 301 rfl ?_
      refine r_iconst (v := 4) X rfl dL_snapshots_301 302 rfl ?_
      obtain ⟨x5, e5, h⟩ := z_bd h
      refine r_iaload X ha3 hna3 e5 dL_snapshots_302 303 rfl ?_
      obtain ⟨j7, hT7, h⟩ := z_bd h
      have hJ7 : GW Γ G b 0 0 M 332 [(0, .ref (b + a0)), (1, .ref (b + a1)), (2, .ref (b + a2)), (3, .ref (b + a3)), (5, .int a5), (6, .int (x1 - 1))] [.int j7] := by
        refine r_istore X dL_snapshots_332 334 rfl [(0, .ref (b + a0)), (1, .ref (b + a1)), (2, .ref (b + a2)), (3, .ref (b + a3)), (5, .int a5), (6, .int (x1 - 1)), (8, .int j7)] (by decide) [1, 2, 3, 4, 5, 6, 0] rfl ?_
        refine r_iload X 6 rfl dL_snapshots_334 336 rfl ?_
        refine r_if_ge X dL_snapshots_336 341 (by decide) 339 rfl (fun c8 => ?_) (fun c8 => ?_)
        · have h := z_it c8 h
          refine r_aload_n X 3 rfl dL_snapshots_341 342 rfl ?_
          refine r_iconst (v := 4) X rfl dL_snapshots_342 343 rfl ?_
          refine r_iload X 6 rfl dL_snapshots_343 345 rfl ?_
          refine r_iadd X dL_snapshots_345 346 rfl ?_
          refine r_iconst (v := 1) X rfl dL_snapshots_346 347 rfl ?_
          obtain ⟨M9, e9, h⟩ := z_bd h
          refine r_iastore X ha3 hna3 e9 dL_snapshots_347 348 rfl ?_
          refine r_aload_n X 3 rfl dL_snapshots_348 349 rfl ?_
          refine r_bipush (v := 8) X rfl dL_snapshots_349 351 rfl ?_
          refine r_iload X 6 rfl dL_snapshots_351 353 rfl ?_
          refine r_iadd X dL_snapshots_353 354 rfl ?_
          refine r_iload X 5 rfl dL_snapshots_354 356 rfl ?_
          refine r_iconst (v := 1) X rfl dL_snapshots_356 357 rfl ?_
          refine r_iadd X dL_snapshots_357 358 rfl ?_
          obtain ⟨M10, e10, h⟩ := z_bd h
          refine r_iastore X ha3 hna3 e10 dL_snapshots_358 359 rfl ?_
          refine r_iconst (v := 0) X rfl dL_snapshots_359 360 rfl ?_
          refine r_istore X dL_snapshots_360 362 rfl [(0, .ref (b + a0)), (1, .ref (b + a1)), (2, .ref (b + a2)), (3, .ref (b + a3)), (5, .int a5), (6, .int (x1 - 1)), (8, .int j7), (9, .int 0)] (by decide) [1, 2, 3, 4, 5, 6, 7, 0] rfl ?_
          obtain ⟨M13, hL14, h⟩ := z_bd h
          have hK14 : GW Γ G b 0 0 M13 395 [(0, .ref (b + a0)), (1, .ref (b + a1)), (2, .ref (b + a2)), (3, .ref (b + a3)), (6, .int (x1 - 1)), (8, .int j7)] [] := by
            refine r_aload_n X 0 rfl dL_snapshots_395 396 rfl ?_
            refine r_iload X 4 rfl dL_snapshots_396 398 rfl ?_
            obtain ⟨x15, M16, e15, h⟩ := z_bd2 h
            have e15 := z_ntw_of e15
            refine r_callV (rest := []) X (z_MX_ret (tX6_makeClone hl G b a0 ha0 (x1 - 1) M13 (r9 := .inr x15) e15)) zy_X6_makeClone zw_X6_makeClone km_L_208 ha0 rfl zv_X6 rfl ⟨rfl, rfl⟩ ⟨rfl, rfl⟩ rfl rfl (Nat.le_of_ble_eq_true rfl) ⟨Nat.zero_le _, Nat.zero_le _⟩ dL_snapshots_398 401 rfl [.int x15] rfl ?_
            refine r_iload X 5 rfl dL_snapshots_401 403 rfl ?_
            refine r_icmp_ne X dL_snapshots_403 419 (by decide) 406 rfl (fun c17 => ?_) (fun c17 => ?_)
            · have h := z_ie c17 h
              refine r_iconst (v := 0) X rfl dL_snapshots_419 420 rfl ?_
              cases h
              exact r_airet X R (by decide) (by decide) rfl dL_snapshots_420
            · have h := z_it c17 h
              refine r_aload_n X 1 rfl dL_snapshots_406 407 rfl ?_
              refine r_aload_n X 2 rfl dL_snapshots_407 408 rfl ?_
              refine r_aload_n X 3 rfl dL_snapshots_408 409 rfl ?_
              obtain ⟨x18, M19, e19, h⟩ := z_bd2 h
              refine r_callS (rest := []) X (tL_settle hl G b a1 ha1 hna1 a2 ha2 a3 ha3 hna3 M16 e19) zy_L_settle zs_L_settle km_L_166 rfl ⟨rfl, rfl⟩ ⟨rfl, rfl⟩ rfl rfl (Nat.le_of_ble_eq_true rfl) ⟨Nat.zero_le _, Nat.zero_le _⟩ dL_snapshots_409 412 rfl [.int x18] rfl ?_
              refine r_if_ne X dL_snapshots_412 419 (by decide) 415 rfl (fun c20 => ?_) (fun c20 => ?_)
              · have h := z_ie c20 h
                refine r_iconst (v := 0) X rfl dL_snapshots_419 420 rfl ?_
                cases h
                exact r_airet X R (by decide) (by decide) rfl dL_snapshots_420
              · have h := z_it c20 h
                refine r_iconst (v := 1) X rfl dL_snapshots_415 416 rfl ?_
                refine r_goto X dL_snapshots_416 420 (by decide) ?_
                cases h
                exact r_airet X R (by decide) (by decide) rfl dL_snapshots_420
          clear h
          refine z_loopP (fun (s : (Int32 × zM)) => GW Γ G b 0 0 s.2 362 [(0, .ref (b + a0)), (1, .ref (b + a1)), (2, .ref (b + a2)), (3, .ref (b + a3)), (5, .int a5), (6, .int (x1 - 1)), (8, .int j7), (9, .int s.1)] []) (fun s q14 hb hP14 hx14 => ?_) _ _ hL14
          obtain ⟨x11, M12⟩ := s
          have h : fL_snapshots_L1 a1 a5 j7 x11 M12 = some q14 := hb
          unfold fL_snapshots_L1 at h
          refine r_iload X 7 rfl dL_snapshots_362 364 rfl ?_
          refine r_iconst (v := 4) X rfl dL_snapshots_364 365 rfl ?_
          refine r_icmp_ge X dL_snapshots_365 395 (by decide) 368 rfl (fun c21 => ?_) (fun c21 => ?_)
          · have h := z_it c21 h
            refine r_sub [(0, .ref (b + a0)), (1, .ref (b + a1)), (2, .ref (b + a2)), (3, .ref (b + a3)), (6, .int (x1 - 1)), (8, .int j7)] [0, 1, 2, 3, 5, 6] rfl ?_
            have e := hx14 _ (Option.some.inj h).symm
            cases e
            exact hK14
          · have h := z_ie c21 h
            refine r_aload_n X 1 rfl dL_snapshots_368 369 rfl ?_
            refine r_iconst (v := 4) X rfl dL_snapshots_369 370 rfl ?_
            refine r_iload X 6 rfl dL_snapshots_370 372 rfl ?_
            refine r_imul X dL_snapshots_372 373 rfl ?_
            refine r_iload X 7 rfl dL_snapshots_373 375 rfl ?_
            refine r_iadd X dL_snapshots_375 376 rfl ?_
            refine r_aload_n X 1 rfl dL_snapshots_376 377 rfl ?_
            refine r_bipush (v := 12) X rfl dL_snapshots_377 379 rfl ?_
            refine r_iconst (v := 4) X rfl dL_snapshots_379 380 rfl ?_
            refine r_iload X 4 rfl dL_snapshots_380 382 rfl ?_
            refine r_imul X dL_snapshots_382 383 rfl ?_
            refine r_iadd X dL_snapshots_383 384 rfl ?_
            refine r_iload X 7 rfl dL_snapshots_384 386 rfl ?_
            refine r_iadd X dL_snapshots_386 387 rfl ?_
            obtain ⟨x22, e22, h⟩ := z_bd h
            refine r_iaload X ha1 hna1 e22 dL_snapshots_387 388 rfl ?_
            obtain ⟨M23, e23, h⟩ := z_bd h
            refine r_iastore X ha1 hna1 e23 dL_snapshots_388 389 rfl ?_
            refine r_iinc X dL_snapshots_389 392 rfl [(0, .ref (b + a0)), (1, .ref (b + a1)), (2, .ref (b + a2)), (3, .ref (b + a3)), (5, .int a5), (6, .int (x1 - 1)), (8, .int j7), (9, .int (x11 + 1))] (by decide) 7 rfl (x11 + 1) rfl [1, 2, 3, 4, 5, 6, 7, 0] rfl ?_
            refine r_goto X dL_snapshots_392 362 (by decide) ?_
            exact hP14 ((x11 + 1), M23) (Option.some.inj h).symm
        · have h := z_ie c8 h
          refine r_iconst (v := 1) X rfl dL_snapshots_339 340 rfl ?_
          cases h
          exact r_airet X R (by decide) (by decide) rfl dL_snapshots_340
      have h := hT7
      refine r_if_ne X dL_snapshots_303 310 (by decide) 306 rfl (fun c6 => ?_) (fun c6 => ?_)
      · have h := z_ie c6 h
        refine r_aload_n X 3 rfl dL_snapshots_310 311 rfl ?_
        refine r_iconst (v := 5) X rfl dL_snapshots_311 312 rfl ?_
        obtain ⟨x24, e24, h⟩ := z_bd h
        refine r_iaload X ha3 hna3 e24 dL_snapshots_312 313 rfl ?_
        refine r_if_ne X dL_snapshots_313 320 (by decide) 316 rfl (fun c25 => ?_) (fun c25 => ?_)
        · have h := z_ie c25 h
          refine r_aload_n X 3 rfl dL_snapshots_320 321 rfl ?_
          refine r_bipush (v := 6) X rfl dL_snapshots_321 323 rfl ?_
          obtain ⟨x26, e26, h⟩ := z_bd h
          refine r_iaload X ha3 hna3 e26 dL_snapshots_323 324 rfl ?_
          refine r_if_ne X dL_snapshots_324 331 (by decide) 327 rfl (fun c27 => ?_) (fun c27 => ?_)
          · have h := z_ie c27 h
            refine r_iconst (v := (-1)) X rfl dL_snapshots_331 332 rfl ?_
            refine r_sub [(0, .ref (b + a0)), (1, .ref (b + a1)), (2, .ref (b + a2)), (3, .ref (b + a3)), (5, .int a5), (6, .int (x1 - 1))] [0, 1, 2, 3, 5, 6] rfl ?_
            cases h
            exact hJ7
          · have h := z_it c27 h
            refine r_iconst (v := 2) X rfl dL_snapshots_327 328 rfl ?_
            refine r_goto X dL_snapshots_328 332 (by decide) ?_
            refine r_sub [(0, .ref (b + a0)), (1, .ref (b + a1)), (2, .ref (b + a2)), (3, .ref (b + a3)), (5, .int a5), (6, .int (x1 - 1))] [0, 1, 2, 3, 5, 6] rfl ?_
            cases h
            exact hJ7
        · have h := z_it c25 h
          refine r_iconst (v := 1) X rfl dL_snapshots_316 317 rfl ?_
          refine r_goto X dL_snapshots_317 332 (by decide) ?_
          refine r_sub [(0, .ref (b + a0)), (1, .ref (b + a1)), (2, .ref (b + a2)), (3, .ref (b + a3)), (5, .int a5), (6, .int (x1 - 1))] [0, 1, 2, 3, 5, 6] rfl ?_
          cases h
          exact hJ7
      · have h := z_it c6 h
        refine r_iconst (v := 0) X rfl dL_snapshots_306 307 rfl ?_
        refine r_goto X dL_snapshots_307 332 (by decide) ?_
        refine r_sub [(0, .ref (b + a0)), (1, .ref (b + a1)), (2, .ref (b + a2)), (3, .ref (b + a3)), (5, .int a5), (6, .int (x1 - 1))] [0, 1, 2, 3, 5, 6] rfl ?_
        cases h
        exact hJ7
    · have h := z_ie c4 h
      refine r_iconst (v := 0) X rfl dL_snapshots_93 94 rfl ?_
      refine r_istore X dL_snapshots_94 96 rfl [(0, .ref (b + a0)), (1, .ref (b + a1)), (2, .ref (b + a2)), (3, .ref (b + a3)), (5, .int a5), (6, .int (x1 - 1)), (7, .int x2), (8, .int 0)] (by decide) [1, 2, 3, 4, 6, 7, 8, 0] rfl ?_
      refine r_iconst (v := 1) X rfl dL_snapshots_96 97 rfl ?_
      refine r_istore X dL_snapshots_97 99 rfl [(0, .ref (b + a0)), (1, .ref (b + a1)), (2, .ref (b + a2)), (3, .ref (b + a3)), (5, .int a5), (6, .int (x1 - 1)), (7, .int x2), (8, .int 0), (9, .int 1)] (by decide) [1, 2, 3, 4, 5, 6, 7, 8, 0] rfl ?_
      refine r_iconst (v := 0) X rfl dL_snapshots_99 100 rfl ?_
      refine r_istore X dL_snapshots_100 102 rfl [(0, .ref (b + a0)), (1, .ref (b + a1)), (2, .ref (b + a2)), (3, .ref (b + a3)), (5, .int a5), (6, .int (x1 - 1)), (7, .int x2), (8, .int 0), (9, .int 1), (10, .int 0)] (by decide) [1, 2, 3, 4, 5, 6, 7, 8, 9, 0] rfl ?_
      obtain ⟨x31, x32, hL33, h⟩ := z_bd2 h
      have hK33 : GW Γ G b 0 0 M 188 [(0, .ref (b + a0)), (1, .ref (b + a1)), (2, .ref (b + a2)), (3, .ref (b + a3)), (5, .int a5), (6, .int (x1 - 1)), (7, .int x2), (8, .int x31), (9, .int x32)] [] := by
        refine r_iconst (v := 0) X rfl dL_snapshots_188 189 rfl ?_
        refine r_istore X dL_snapshots_189 191 rfl [(0, .ref (b + a0)), (1, .ref (b + a1)), (2, .ref (b + a2)), (3, .ref (b + a3)), (5, .int a5), (6, .int (x1 - 1)), (7, .int x2), (8, .int x31), (9, .int x32), (10, .int 0)] (by decide) [1, 2, 3, 4, 5, 6, 7, 8, 9, 0] rfl ?_
        obtain ⟨M36, hL37, h⟩ := z_bd h
        have hK37 : GW Γ G b 0 0 M36 262 [(0, .ref (b + a0)), (1, .ref (b + a1)), (2, .ref (b + a2)), (3, .ref (b + a3)), (6, .int (x1 - 1)), (7, .int x2), (8, .int x31), (9, .int x32)] [] := by
          refine r_aload_n X 0 rfl dL_snapshots_262 263 rfl ?_
          refine r_iload X 5 rfl dL_snapshots_263 265 rfl ?_
          refine r_iload X 4 rfl dL_snapshots_265 267 rfl ?_
          obtain ⟨x38, M39, e39, h⟩ := z_bd2 h
          refine r_callSH (rest := []) X (tL_rolled hl G b a0 ha0 x2 (x1 - 1) M36 e39) zyh_L_rolled km_L_204 rfl ⟨rfl, rfl⟩ rfl rfl (Nat.le_of_ble_eq_true rfl) ⟨Nat.le_refl _, Nat.le_refl _⟩ dL_snapshots_267 270 rfl [.int x38] rfl ?_
          refine r_iload X 7 rfl dL_snapshots_270 272 rfl ?_
          obtain ⟨j41, hT41, h⟩ := z_bd h
          have hJ41 : GW Γ G b 1 6 M39 282 [(1, .ref (b + a1)), (2, .ref (b + a2)), (3, .ref (b + a3))] [.int j41, .int x38] := by
            refine r_icmp_ne X dL_snapshots_282 298 (by decide) 285 rfl (fun c42 => ?_) (fun c42 => ?_)
            · have h := z_ie c42 h
              refine r_iconst (v := 0) X rfl dL_snapshots_298 299 rfl ?_
              cases h
              exact r_airet X R (by decide) (by decide) rfl dL_snapshots_299
            · have h := z_it c42 h
              refine r_aload_n X 0 rfl dL_snapshots_285 286 rfl ?_
              refine r_aload_n X 1 rfl dL_snapshots_286 287 rfl ?_
              refine r_aload_n X 2 rfl dL_snapshots_287 288 rfl ?_
              obtain ⟨x43, M44, e44, h⟩ := z_bd2 h
              refine r_callS (rest := []) X (tL_settle hl G b a1 ha1 hna1 a2 ha2 a3 ha3 hna3 M39 e44) zy_L_settle zs_L_settle km_L_166 rfl ⟨rfl, rfl⟩ ⟨rfl, rfl⟩ rfl rfl (Nat.le_of_ble_eq_true rfl) ⟨Nat.le_refl _, Nat.le_refl _⟩ dL_snapshots_288 291 rfl [.int x43] rfl ?_
              refine r_if_lt X dL_snapshots_291 298 (by decide) 294 rfl (fun c45 => ?_) (fun c45 => ?_)
              · have h := z_it c45 h
                refine r_iconst (v := 0) X rfl dL_snapshots_298 299 rfl ?_
                cases h
                exact r_airet X R (by decide) (by decide) rfl dL_snapshots_299
              · have h := z_ie c45 h
                refine r_iconst (v := 1) X rfl dL_snapshots_294 295 rfl ?_
                refine r_goto X dL_snapshots_295 299 (by decide) ?_
                cases h
                exact r_airet X R (by decide) (by decide) rfl dL_snapshots_299
          have h := hT41
          refine r_if_eq X dL_snapshots_272 280 (by decide) 275 rfl (fun c40 => ?_) (fun c40 => ?_)
          · have h := z_it c40 h
            refine r_bipush (v := (-2)) X rfl dL_snapshots_280 282 rfl ?_
            refine r_sub [(1, .ref (b + a1)), (2, .ref (b + a2)), (3, .ref (b + a3))] [1, 2, 3] rfl ?_
            cases h
            exact hJ41
          · have h := z_ie c40 h
            refine r_iload X 6 rfl dL_snapshots_275 277 rfl ?_
            refine r_goto X dL_snapshots_277 282 (by decide) ?_
            refine r_sub [(1, .ref (b + a1)), (2, .ref (b + a2)), (3, .ref (b + a3))] [1, 2, 3] rfl ?_
            cases h
            exact hJ41
        clear h
        refine z_loopP (fun (s : (Int32 × zM)) => GW Γ G b 0 0 s.2 191 [(0, .ref (b + a0)), (1, .ref (b + a1)), (2, .ref (b + a2)), (3, .ref (b + a3)), (5, .int a5), (6, .int (x1 - 1)), (7, .int x2), (8, .int x31), (9, .int x32), (10, .int s.1)] []) (fun s q37 hb hP37 hx37 => ?_) _ _ hL37
        obtain ⟨x34, M35⟩ := s
        have h : fL_snapshots_L3 a1 a3 a5 x1 x2 x32 x34 M35 = some q37 := hb
        unfold fL_snapshots_L3 at h
        refine r_iload X 9 rfl dL_snapshots_191 193 rfl ?_
        refine r_iconst (v := 4) X rfl dL_snapshots_193 194 rfl ?_
        refine r_icmp_ge X dL_snapshots_194 262 (by decide) 197 rfl (fun c46 => ?_) (fun c46 => ?_)
        · have h := z_it c46 h
          refine r_sub [(0, .ref (b + a0)), (1, .ref (b + a1)), (2, .ref (b + a2)), (3, .ref (b + a3)), (6, .int (x1 - 1)), (7, .int x2), (8, .int x31), (9, .int x32)] [0, 1, 2, 3, 5, 6, 7, 8] rfl ?_
          have e := hx37 _ (Option.some.inj h).symm
          cases e
          exact hK37
        · have h := z_ie c46 h
          refine r_iload X 8 rfl dL_snapshots_197 199 rfl ?_
          refine r_if_eq X dL_snapshots_199 262 (by decide) 202 rfl (fun c47 => ?_) (fun c47 => ?_)
          · have h := z_it c47 h
            refine r_sub [(0, .ref (b + a0)), (1, .ref (b + a1)), (2, .ref (b + a2)), (3, .ref (b + a3)), (6, .int (x1 - 1)), (7, .int x2), (8, .int x31), (9, .int x32)] [0, 1, 2, 3, 5, 6, 7, 8] rfl ?_
            have e := hx37 _ (Option.some.inj h).symm
            cases e
            exact hK37
          · have h := z_ie c47 h
            refine r_aload_n X 3 rfl dL_snapshots_202 203 rfl ?_
            refine r_bipush (v := 12) X rfl dL_snapshots_203 205 rfl ?_
            refine r_iload X 9 rfl dL_snapshots_205 207 rfl ?_
            refine r_iadd X dL_snapshots_207 208 rfl ?_
            obtain ⟨x48, e48, h⟩ := z_bd h
            refine r_iaload X ha3 hna3 e48 dL_snapshots_208 209 rfl ?_
            refine r_iconst (v := 1) X rfl dL_snapshots_209 210 rfl ?_
            refine r_isub X dL_snapshots_210 211 rfl ?_
            refine r_iload X 5 rfl dL_snapshots_211 213 rfl ?_
            obtain ⟨M50, hT50, h⟩ := z_bd h
            have hJ50 : GW Γ G b 0 0 M50 235 [(0, .ref (b + a0)), (1, .ref (b + a1)), (2, .ref (b + a2)), (3, .ref (b + a3)), (5, .int a5), (6, .int (x1 - 1)), (7, .int x2), (8, .int x31), (9, .int x32), (10, .int x34)] [] := by
              refine r_aload_n X 1 rfl dL_snapshots_235 236 rfl ?_
              refine r_iconst (v := 4) X rfl dL_snapshots_236 237 rfl ?_
              refine r_iload X 6 rfl dL_snapshots_237 239 rfl ?_
              refine r_imul X dL_snapshots_239 240 rfl ?_
              refine r_iload X 9 rfl dL_snapshots_240 242 rfl ?_
              refine r_iadd X dL_snapshots_242 243 rfl ?_
              refine r_aload_n X 1 rfl dL_snapshots_243 244 rfl ?_
              refine r_bipush (v := 12) X rfl dL_snapshots_244 246 rfl ?_
              refine r_iconst (v := 4) X rfl dL_snapshots_246 247 rfl ?_
              refine r_iload X 4 rfl dL_snapshots_247 249 rfl ?_
              refine r_imul X dL_snapshots_249 250 rfl ?_
              refine r_iadd X dL_snapshots_250 251 rfl ?_
              refine r_iload X 9 rfl dL_snapshots_251 253 rfl ?_
              refine r_iadd X dL_snapshots_253 254 rfl ?_
              obtain ⟨x51, e51, h⟩ := z_bd h
              refine r_iaload X ha1 hna1 e51 dL_snapshots_254 255 rfl ?_
              obtain ⟨M52, e52, h⟩ := z_bd h
              refine r_iastore X ha1 hna1 e52 dL_snapshots_255 256 rfl ?_
              refine r_iinc X dL_snapshots_256 259 rfl [(0, .ref (b + a0)), (1, .ref (b + a1)), (2, .ref (b + a2)), (3, .ref (b + a3)), (5, .int a5), (6, .int (x1 - 1)), (7, .int x2), (8, .int x31), (9, .int x32), (10, .int (x34 + 1))] (by decide) 9 rfl (x34 + 1) rfl [1, 2, 3, 4, 5, 6, 7, 8, 9, 0] rfl ?_
              refine r_goto X dL_snapshots_259 191 (by decide) ?_
              exact hP37 ((x34 + 1), M52) (Option.some.inj h).symm
            have h := hT50
            refine r_icmp_le X dL_snapshots_213 235 (by decide) 216 rfl (fun c49 => ?_) (fun c49 => ?_)
            · have h := z_it c49 h
              cases h
              exact hJ50
            · have h := z_ie c49 h
              refine r_aload_n X 3 rfl dL_snapshots_216 217 rfl ?_
              refine r_bipush (v := 16) X rfl dL_snapshots_217 219 rfl ?_
              refine r_iload X 9 rfl dL_snapshots_219 221 rfl ?_
              refine r_iadd X dL_snapshots_221 222 rfl ?_
              obtain ⟨x53, e53, h⟩ := z_bd h
              refine r_iaload X ha3 hna3 e53 dL_snapshots_222 223 rfl ?_
              refine r_iload X 6 rfl dL_snapshots_223 225 rfl ?_
              refine r_icmp_ne X dL_snapshots_225 235 (by decide) 228 rfl (fun c54 => ?_) (fun c54 => ?_)
              · have h := z_ie c54 h
                cases h
                exact hJ50
              · have h := z_it c54 h
                refine r_aload_n X 1 rfl dL_snapshots_228 229 rfl ?_
                refine r_aload_n X 3 rfl dL_snapshots_229 230 rfl ?_
                refine r_iload X 9 rfl dL_snapshots_230 232 rfl ?_
                obtain ⟨M55, e55, h⟩ := z_bd h
                refine r_callS (rest := []) X (tL_drop hl G b a1 ha1 hna1 a3 ha3 hna3 x34 M35 e55) zy_L_drop zs_L_drop km_L_196 rfl ⟨rfl, rfl⟩ ⟨rfl, rfl⟩ rfl rfl (Nat.le_of_ble_eq_true rfl) ⟨Nat.zero_le _, Nat.zero_le _⟩ dL_snapshots_232 235 rfl [] rfl ?_
                cases h
                exact hJ50
      clear h
      refine z_loopP (fun (s : (Int32 × Int32 × Int32)) => GW Γ G b 0 0 M 102 [(0, .ref (b + a0)), (1, .ref (b + a1)), (2, .ref (b + a2)), (3, .ref (b + a3)), (5, .int a5), (6, .int (x1 - 1)), (7, .int x2), (8, .int s.1), (9, .int s.2.1), (10, .int s.2.2)] []) (fun s q33 hb hP33 hx33 => ?_) _ _ hL33
      obtain ⟨x28, x29, x30⟩ := s
      have h : fL_snapshots_L2 a3 M x1 x2 x28 x29 x30 = some q33 := hb
      unfold fL_snapshots_L2 at h
      refine r_iload X 9 rfl dL_snapshots_102 104 rfl ?_
      refine r_iconst (v := 4) X rfl dL_snapshots_104 105 rfl ?_
      refine r_icmp_ge X dL_snapshots_105 188 (by decide) 108 rfl (fun c56 => ?_) (fun c56 => ?_)
      · have h := z_it c56 h
        refine r_sub [(0, .ref (b + a0)), (1, .ref (b + a1)), (2, .ref (b + a2)), (3, .ref (b + a3)), (5, .int a5), (6, .int (x1 - 1)), (7, .int x2), (8, .int x28), (9, .int x29)] [0, 1, 2, 3, 4, 5, 6, 7, 8] rfl ?_
        have e := hx33 _ (Option.some.inj h).symm
        cases e
        exact hK33
      · have h := z_ie c56 h
        refine r_aload_n X 3 rfl dL_snapshots_108 109 rfl ?_
        refine r_bipush (v := 12) X rfl dL_snapshots_109 111 rfl ?_
        refine r_iload X 9 rfl dL_snapshots_111 113 rfl ?_
        refine r_iadd X dL_snapshots_113 114 rfl ?_
        obtain ⟨x57, e57, h⟩ := z_bd h
        refine r_iaload X ha3 hna3 e57 dL_snapshots_114 115 rfl ?_
        refine r_iconst (v := 1) X rfl dL_snapshots_115 116 rfl ?_
        refine r_isub X dL_snapshots_116 117 rfl ?_
        refine r_iload X 5 rfl dL_snapshots_117 119 rfl ?_
        obtain ⟨j59, hT59, h⟩ := z_bd h
        have hJ59 : GW Γ G b 0 0 M 139 [(0, .ref (b + a0)), (1, .ref (b + a1)), (2, .ref (b + a2)), (3, .ref (b + a3)), (5, .int a5), (6, .int (x1 - 1)), (7, .int x2), (8, .int x28), (9, .int x29), (10, .int x30)] [.int j59] := by
          refine r_istore X dL_snapshots_139 141 rfl [(0, .ref (b + a0)), (1, .ref (b + a1)), (2, .ref (b + a2)), (3, .ref (b + a3)), (5, .int a5), (6, .int (x1 - 1)), (7, .int x2), (8, .int x28), (9, .int x29), (10, .int x30), (11, .int j59)] (by decide) [1, 2, 3, 4, 5, 6, 7, 8, 9, 10, 0] rfl ?_
          refine r_iload X 7 rfl dL_snapshots_141 143 rfl ?_
          refine r_iload X 10 rfl dL_snapshots_143 145 rfl ?_
          obtain ⟨j61, hT61, h⟩ := z_bd h
          have hJ61 : GW Γ G b 0 0 M 153 [(0, .ref (b + a0)), (1, .ref (b + a1)), (2, .ref (b + a2)), (3, .ref (b + a3)), (5, .int a5), (6, .int (x1 - 1)), (7, .int x2), (9, .int x29), (10, .int x30), (11, .int j59)] [.int j61, .int x28] := by
            refine r_iadd X dL_snapshots_153 154 rfl ?_
            refine r_istore X dL_snapshots_154 156 rfl [(0, .ref (b + a0)), (1, .ref (b + a1)), (2, .ref (b + a2)), (3, .ref (b + a3)), (5, .int a5), (6, .int (x1 - 1)), (7, .int x2), (8, .int (x28 + j61)), (9, .int x29), (10, .int x30), (11, .int j59)] (by decide) [1, 2, 3, 4, 5, 6, 7, 0, 8, 9, 10] rfl ?_
            refine r_iload X 8 rfl dL_snapshots_156 158 rfl ?_
            refine r_if_eq X dL_snapshots_158 179 (by decide) 161 rfl (fun c62 => ?_) (fun c62 => ?_)
            · have h := z_it c62 h
              refine r_iconst (v := 0) X rfl dL_snapshots_179 180 rfl ?_
              refine r_istore X dL_snapshots_180 182 rfl [(0, .ref (b + a0)), (1, .ref (b + a1)), (2, .ref (b + a2)), (3, .ref (b + a3)), (5, .int a5), (6, .int (x1 - 1)), (7, .int x2), (8, .int (x28 + j61)), (9, .int 0), (10, .int x30)] (by decide) [1, 2, 3, 4, 5, 6, 7, 8, 0, 9] rfl ?_
              refine r_iinc X dL_snapshots_182 185 rfl [(0, .ref (b + a0)), (1, .ref (b + a1)), (2, .ref (b + a2)), (3, .ref (b + a3)), (5, .int a5), (6, .int (x1 - 1)), (7, .int x2), (8, .int (x28 + j61)), (9, .int 0), (10, .int (x30 + 1))] (by decide) 9 rfl (x30 + 1) rfl [1, 2, 3, 4, 5, 6, 7, 8, 9, 0] rfl ?_
              refine r_goto X dL_snapshots_185 102 (by decide) ?_
              exact hP33 ((x28 + j61), 0, (x30 + 1)) (Option.some.inj h).symm
            · have h := z_ie c62 h
              refine r_iload X 10 rfl dL_snapshots_161 163 rfl ?_
              refine r_if_eq X dL_snapshots_163 175 (by decide) 166 rfl (fun c63 => ?_) (fun c63 => ?_)
              · have h := z_it c63 h
                refine r_iconst (v := 1) X rfl dL_snapshots_175 176 rfl ?_
                refine r_goto X dL_snapshots_176 180 (by decide) ?_
                refine r_istore X dL_snapshots_180 182 rfl [(0, .ref (b + a0)), (1, .ref (b + a1)), (2, .ref (b + a2)), (3, .ref (b + a3)), (5, .int a5), (6, .int (x1 - 1)), (7, .int x2), (8, .int (x28 + j61)), (9, .int 1), (10, .int x30)] (by decide) [1, 2, 3, 4, 5, 6, 7, 8, 0, 9] rfl ?_
                refine r_iinc X dL_snapshots_182 185 rfl [(0, .ref (b + a0)), (1, .ref (b + a1)), (2, .ref (b + a2)), (3, .ref (b + a3)), (5, .int a5), (6, .int (x1 - 1)), (7, .int x2), (8, .int (x28 + j61)), (9, .int 1), (10, .int (x30 + 1))] (by decide) 9 rfl (x30 + 1) rfl [1, 2, 3, 4, 5, 6, 7, 8, 9, 0] rfl ?_
                refine r_goto X dL_snapshots_185 102 (by decide) ?_
                exact hP33 ((x28 + j61), 1, (x30 + 1)) (Option.some.inj h).symm
              · have h := z_ie c63 h
                refine r_aload_n X 3 rfl dL_snapshots_166 167 rfl ?_
                refine r_iload X 9 rfl dL_snapshots_167 169 rfl ?_
                obtain ⟨x64, e64, h⟩ := z_bd h
                refine r_callS (rest := []) X (tL_isOrigin hl G b a3 ha3 hna3 x30 M e64) zy_L_isOrigin zs_L_isOrigin km_L_192 rfl ⟨rfl, rfl⟩ ⟨rfl, rfl⟩ rfl rfl (Nat.le_of_ble_eq_true rfl) ⟨Nat.zero_le _, Nat.zero_le _⟩ dL_snapshots_169 172 rfl [.int x64] rfl ?_
                refine r_if_ne X dL_snapshots_172 179 (by decide) 175 rfl (fun c65 => ?_) (fun c65 => ?_)
                · have h := z_ie c65 h
                  refine r_iconst (v := 0) X rfl dL_snapshots_179 180 rfl ?_
                  refine r_istore X dL_snapshots_180 182 rfl [(0, .ref (b + a0)), (1, .ref (b + a1)), (2, .ref (b + a2)), (3, .ref (b + a3)), (5, .int a5), (6, .int (x1 - 1)), (7, .int x2), (8, .int (x28 + j61)), (9, .int 0), (10, .int x30)] (by decide) [1, 2, 3, 4, 5, 6, 7, 8, 0, 9] rfl ?_
                  refine r_iinc X dL_snapshots_182 185 rfl [(0, .ref (b + a0)), (1, .ref (b + a1)), (2, .ref (b + a2)), (3, .ref (b + a3)), (5, .int a5), (6, .int (x1 - 1)), (7, .int x2), (8, .int (x28 + j61)), (9, .int 0), (10, .int (x30 + 1))] (by decide) 9 rfl (x30 + 1) rfl [1, 2, 3, 4, 5, 6, 7, 8, 9, 0] rfl ?_
                  refine r_goto X dL_snapshots_185 102 (by decide) ?_
                  exact hP33 ((x28 + j61), 0, (x30 + 1)) (Option.some.inj h).symm
                · have h := z_it c65 h
                  refine r_iconst (v := 1) X rfl dL_snapshots_175 176 rfl ?_
                  refine r_goto X dL_snapshots_176 180 (by decide) ?_
                  refine r_istore X dL_snapshots_180 182 rfl [(0, .ref (b + a0)), (1, .ref (b + a1)), (2, .ref (b + a2)), (3, .ref (b + a3)), (5, .int a5), (6, .int (x1 - 1)), (7, .int x2), (8, .int (x28 + j61)), (9, .int 1), (10, .int x30)] (by decide) [1, 2, 3, 4, 5, 6, 7, 8, 0, 9] rfl ?_
                  refine r_iinc X dL_snapshots_182 185 rfl [(0, .ref (b + a0)), (1, .ref (b + a1)), (2, .ref (b + a2)), (3, .ref (b + a3)), (5, .int a5), (6, .int (x1 - 1)), (7, .int x2), (8, .int (x28 + j61)), (9, .int 1), (10, .int (x30 + 1))] (by decide) 9 rfl (x30 + 1) rfl [1, 2, 3, 4, 5, 6, 7, 8, 9, 0] rfl ?_
                  refine r_goto X dL_snapshots_185 102 (by decide) ?_
                  exact hP33 ((x28 + j61), 1, (x30 + 1)) (Option.some.inj h).symm
          have h := hT61
          refine r_if_eq X dL_snapshots_145 152 (by decide) 148 rfl (fun c60 => ?_) (fun c60 => ?_)
          · have h := z_it c60 h
            refine r_iconst (v := 0) X rfl dL_snapshots_152 153 rfl ?_
            refine r_sub [(0, .ref (b + a0)), (1, .ref (b + a1)), (2, .ref (b + a2)), (3, .ref (b + a3)), (5, .int a5), (6, .int (x1 - 1)), (7, .int x2), (9, .int x29), (10, .int x30), (11, .int j59)] [0, 1, 2, 3, 4, 5, 6, 8, 9, 10] rfl ?_
            cases h
            exact hJ61
          · have h := z_ie c60 h
            refine r_iconst (v := 1) X rfl dL_snapshots_148 149 rfl ?_
            refine r_goto X dL_snapshots_149 153 (by decide) ?_
            refine r_sub [(0, .ref (b + a0)), (1, .ref (b + a1)), (2, .ref (b + a2)), (3, .ref (b + a3)), (5, .int a5), (6, .int (x1 - 1)), (7, .int x2), (9, .int x29), (10, .int x30), (11, .int j59)] [0, 1, 2, 3, 4, 5, 6, 8, 9, 10] rfl ?_
            cases h
            exact hJ61
        have h := hT59
        refine r_icmp_le X dL_snapshots_119 138 (by decide) 122 rfl (fun c58 => ?_) (fun c58 => ?_)
        · have h := z_it c58 h
          refine r_iconst (v := 0) X rfl dL_snapshots_138 139 rfl ?_
          cases h
          exact hJ59
        · have h := z_ie c58 h
          refine r_aload_n X 3 rfl dL_snapshots_122 123 rfl ?_
          refine r_bipush (v := 16) X rfl dL_snapshots_123 125 rfl ?_
          refine r_iload X 9 rfl dL_snapshots_125 127 rfl ?_
          refine r_iadd X dL_snapshots_127 128 rfl ?_
          obtain ⟨x66, e66, h⟩ := z_bd h
          refine r_iaload X ha3 hna3 e66 dL_snapshots_128 129 rfl ?_
          refine r_iload X 6 rfl dL_snapshots_129 131 rfl ?_
          refine r_icmp_ne X dL_snapshots_131 138 (by decide) 134 rfl (fun c67 => ?_) (fun c67 => ?_)
          · have h := z_ie c67 h
            refine r_iconst (v := 0) X rfl dL_snapshots_138 139 rfl ?_
            cases h
            exact hJ59
          · have h := z_it c67 h
            refine r_iconst (v := 1) X rfl dL_snapshots_134 135 rfl ?_
            refine r_goto X dL_snapshots_135 139 (by decide) ?_
            cases h
            exact hJ59
  · have h := z_ie c3 h
    refine r_aload_n X 3 rfl dL_snapshots_27 28 rfl ?_
    refine r_iload X 5 rfl dL_snapshots_28 30 rfl ?_
    obtain ⟨x68, e68, h⟩ := z_bd h
    refine r_callS (rest := []) X (tL_isOrigin hl G b a3 ha3 hna3 a5 M e68) zy_L_isOrigin zs_L_isOrigin km_L_192 rfl ⟨rfl, rfl⟩ ⟨rfl, rfl⟩ rfl rfl (Nat.le_of_ble_eq_true rfl) ⟨Nat.zero_le _, Nat.zero_le _⟩ dL_snapshots_30 33 rfl [.int x68] rfl ?_
    obtain ⟨j70, hT70, h⟩ := z_bd h
    have hJ70 : GW Γ G b 0 0 M 41 [(0, .ref (b + a0)), (1, .ref (b + a1)), (2, .ref (b + a2)), (3, .ref (b + a3)), (5, .int a5), (6, .int (x1 - 1))] [.int j70] := by
      refine r_istore X dL_snapshots_41 43 rfl [(0, .ref (b + a0)), (1, .ref (b + a1)), (2, .ref (b + a2)), (3, .ref (b + a3)), (5, .int a5), (6, .int (x1 - 1)), (8, .int j70)] (by decide) [1, 2, 3, 4, 5, 6, 0] rfl ?_
      refine r_iload X 6 rfl dL_snapshots_43 45 rfl ?_
      obtain ⟨M72, hT72, h⟩ := z_bd h
      have hJ72 : GW Γ G b 0 0 M72 55 [(0, .ref (b + a0)), (1, .ref (b + a1)), (2, .ref (b + a2)), (3, .ref (b + a3)), (6, .int (x1 - 1)), (8, .int j70)] [] := by
        refine r_aload_n X 0 rfl dL_snapshots_55 56 rfl ?_
        refine r_iload X 4 rfl dL_snapshots_56 58 rfl ?_
        obtain ⟨x73, M74, e74, h⟩ := z_bd2 h
        refine r_callSH (rest := []) X (tL_destroyed hl G b a0 ha0 (x1 - 1) M72 e74) zyh_L_destroyed km_L_200 rfl ⟨rfl, rfl⟩ rfl rfl (Nat.le_of_ble_eq_true rfl) ⟨Nat.le_refl _, Nat.le_refl _⟩ dL_snapshots_58 61 rfl [.int x73] rfl ?_
        refine r_iload X 5 rfl dL_snapshots_61 63 rfl ?_
        refine r_if_eq X dL_snapshots_63 75 (by decide) 66 rfl (fun c75 => ?_) (fun c75 => ?_)
        · have h := z_it c75 h
          refine r_bipush (v := (-2)) X rfl dL_snapshots_75 77 rfl ?_
          refine r_icmp_ne X dL_snapshots_77 84 (by decide) 80 rfl (fun c76 => ?_) (fun c76 => ?_)
          · have h := z_ie c76 h
            refine r_iconst (v := 0) X rfl dL_snapshots_84 85 rfl ?_
            cases h
            exact r_airet X R (by decide) (by decide) rfl dL_snapshots_85
          · have h := z_it c76 h
            refine r_iconst (v := 1) X rfl dL_snapshots_80 81 rfl ?_
            refine r_goto X dL_snapshots_81 85 (by decide) ?_
            cases h
            exact r_airet X R (by decide) (by decide) rfl dL_snapshots_85
        · have h := z_ie c75 h
          refine r_aload_n X 1 rfl dL_snapshots_66 67 rfl ?_
          refine r_aload_n X 2 rfl dL_snapshots_67 68 rfl ?_
          refine r_aload_n X 3 rfl dL_snapshots_68 69 rfl ?_
          obtain ⟨x77, M78, e78, h⟩ := z_bd2 h
          refine r_callS (rest := [.int x73]) X (tL_settle hl G b a1 ha1 hna1 a2 ha2 a3 ha3 hna3 M74 e78) zy_L_settle zs_L_settle km_L_166 rfl ⟨rfl, rfl⟩ ⟨rfl, rfl⟩ rfl rfl (Nat.le_of_ble_eq_true rfl) ⟨Nat.le_refl _, Nat.le_refl _⟩ dL_snapshots_69 72 rfl [.int x77, .int x73] rfl ?_
          refine r_goto X dL_snapshots_72 77 (by decide) ?_
          refine r_icmp_ne X dL_snapshots_77 84 (by decide) 80 rfl (fun c79 => ?_) (fun c79 => ?_)
          · have h := z_ie c79 h
            refine r_iconst (v := 0) X rfl dL_snapshots_84 85 rfl ?_
            cases h
            exact r_airet X R (by decide) (by decide) rfl dL_snapshots_85
          · have h := z_it c79 h
            refine r_iconst (v := 1) X rfl dL_snapshots_80 81 rfl ?_
            refine r_goto X dL_snapshots_81 85 (by decide) ?_
            cases h
            exact r_airet X R (by decide) (by decide) rfl dL_snapshots_85
      have h := hT72
      refine r_if_eq X dL_snapshots_45 55 (by decide) 48 rfl (fun c71 => ?_) (fun c71 => ?_)
      · have h := z_it c71 h
        refine r_sub [(0, .ref (b + a0)), (1, .ref (b + a1)), (2, .ref (b + a2)), (3, .ref (b + a3)), (6, .int (x1 - 1)), (8, .int j70)] [0, 1, 2, 3, 5, 6] rfl ?_
        cases h
        exact hJ72
      · have h := z_ie c71 h
        refine r_aload_n X 1 rfl dL_snapshots_48 49 rfl ?_
        refine r_aload_n X 3 rfl dL_snapshots_49 50 rfl ?_
        refine r_iload X 4 rfl dL_snapshots_50 52 rfl ?_
        obtain ⟨M80, e80, h⟩ := z_bd h
        refine r_callS (rest := []) X (tL_drop hl G b a1 ha1 hna1 a3 ha3 hna3 a5 M e80) zy_L_drop zs_L_drop km_L_196 rfl ⟨rfl, rfl⟩ ⟨rfl, rfl⟩ rfl rfl (Nat.le_of_ble_eq_true rfl) ⟨Nat.zero_le _, Nat.zero_le _⟩ dL_snapshots_52 55 rfl [] rfl ?_
        refine r_sub [(0, .ref (b + a0)), (1, .ref (b + a1)), (2, .ref (b + a2)), (3, .ref (b + a3)), (6, .int (x1 - 1)), (8, .int j70)] [0, 1, 2, 3, 5, 6] rfl ?_
        cases h
        exact hJ72
    have h := hT70
    refine r_if_ne X dL_snapshots_33 40 (by decide) 36 rfl (fun c69 => ?_) (fun c69 => ?_)
    · have h := z_ie c69 h
      refine r_iconst (v := 0) X rfl dL_snapshots_40 41 rfl ?_
      refine r_sub [(0, .ref (b + a0)), (1, .ref (b + a1)), (2, .ref (b + a2)), (3, .ref (b + a3)), (5, .int a5), (6, .int (x1 - 1))] [0, 1, 2, 3, 5, 6] rfl ?_
      cases h
      exact hJ70
    · have h := z_it c69 h
      refine r_iconst (v := 1) X rfl dL_snapshots_36 37 rfl ?_
      refine r_goto X dL_snapshots_37 41 (by decide) ?_
      refine r_sub [(0, .ref (b + a0)), (1, .ref (b + a1)), (2, .ref (b + a2)), (3, .ref (b + a3)), (5, .int a5), (6, .int (x1 - 1))] [0, 1, 2, 3, 5, 6] rfl ?_
      cases h
      exact hJ70
set_option maxRecDepth 100000 in
set_option maxHeartbeats 1000000 in
theorem tL_datasets {l : Launch} (hl : l.stackTraces = false) (G : zG) (b : Nat) (a0 : Nat) (ha0 : z_kd a0 = 6) (a1 : Nat) (ha1 : z_kd a1 = 8) (hna1 : z_ln a1 = 28) (a2 : Nat) (ha2 : z_kd a2 = 10) (a3 : Nat) (ha3 : z_kd a3 = 8) (hna3 : z_ln a3 = 32) (a4 : Int32) (a5 : Int32) (M : zM) {r9 : Int32} {M9 : zM} (h : fL_datasets a0 a1 a2 a3 a4 a5 M = some (r9, M9)) : z_MA l yL_datasets cL_datasets 11 (some .boolean) 9 156 G b [.ref (b + a0), .ref (b + a1), .ref (b + a2), .ref (b + a3), .int a4, .int a5] M (some (.int r9)) M9 := by
  refine z_meta (own := RL) hl (by decide) rfl rfl (fun Γ hΓ X R => ?_)
  subst hΓ
  show GW Γ G b 0 0 M 0 [(0, .ref (b + a0)), (1, .ref (b + a1)), (2, .ref (b + a2)), (3, .ref (b + a3)), (4, .int a4), (5, .int a5)] []
  unfold fL_datasets at h
  refine r_iload X 4 rfl dL_datasets_0 2 rfl ?_
  refine r_bipush (v := 18) X rfl dL_datasets_2 4 rfl ?_
  refine r_icmp_ge X dL_datasets_4 200 (by decide) 7 rfl (fun c1 => ?_) (fun c1 => ?_)
  · have h := z_it c1 h
    refine r_aload_n X 3 rfl dL_datasets_200 201 rfl ?_
    refine r_iload X 5 rfl dL_datasets_201 203 rfl ?_
    refine r_iconst (v := 0) X rfl dL_datasets_203 204 rfl ?_
    obtain ⟨x2, e2, h⟩ := z_bd h
    refine r_callS (rest := []) X (tL_numberAt hl G b a3 ha3 hna3 a5 0 M e2) zy_L_numberAt zs_L_numberAt km_L_112 rfl ⟨rfl, rfl⟩ ⟨rfl, rfl⟩ rfl rfl (Nat.le_of_ble_eq_true rfl) ⟨Nat.zero_le _, Nat.zero_le _⟩ dL_datasets_204 207 rfl [.int x2] rfl ?_
    obtain ⟨j4, hT4, h⟩ := z_bd h
    have hJ4 : GW Γ G b 0 0 M 231 [(0, .ref (b + a0)), (1, .ref (b + a1)), (2, .ref (b + a2)), (3, .ref (b + a3)), (5, .int a5)] [.int j4] := by
      refine r_istore X dL_datasets_231 233 rfl [(0, .ref (b + a0)), (1, .ref (b + a1)), (2, .ref (b + a2)), (3, .ref (b + a3)), (5, .int a5), (6, .int j4)] (by decide) [1, 2, 3, 4, 5, 0] rfl ?_
      refine r_iload X 5 rfl dL_datasets_233 235 rfl ?_
      obtain ⟨M6, hT6, h⟩ := z_bd h
      have hJ6 : GW Γ G b 0 0 M6 278 [(0, .ref (b + a0)), (1, .ref (b + a1)), (2, .ref (b + a2)), (3, .ref (b + a3)), (5, .int a5), (6, .int j4)] [] := by
        refine r_aload_n X 0 rfl dL_datasets_278 279 rfl ?_
        refine r_iload X 4 rfl dL_datasets_279 281 rfl ?_
        obtain ⟨x7, M8, e8, h⟩ := z_bd2 h
        refine r_callSH (rest := []) X (tL_removed hl G b a0 ha0 a5 M6 e8) zyh_L_removed km_L_214 rfl ⟨rfl, rfl⟩ rfl rfl (Nat.le_of_ble_eq_true rfl) ⟨Nat.le_refl _, Nat.le_refl _⟩ dL_datasets_281 284 rfl [.int x7] rfl ?_
        refine r_iload X 5 rfl dL_datasets_284 286 rfl ?_
        refine r_if_eq X dL_datasets_286 298 (by decide) 289 rfl (fun c9 => ?_) (fun c9 => ?_)
        · have h := z_it c9 h
          refine r_bipush (v := (-2)) X rfl dL_datasets_298 300 rfl ?_
          refine r_icmp_ne X dL_datasets_300 307 (by decide) 303 rfl (fun c10 => ?_) (fun c10 => ?_)
          · have h := z_ie c10 h
            refine r_iconst (v := 0) X rfl dL_datasets_307 308 rfl ?_
            cases h
            exact r_airet X R (by decide) (by decide) rfl dL_datasets_308
          · have h := z_it c10 h
            refine r_iconst (v := 1) X rfl dL_datasets_303 304 rfl ?_
            refine r_goto X dL_datasets_304 308 (by decide) ?_
            cases h
            exact r_airet X R (by decide) (by decide) rfl dL_datasets_308
        · have h := z_ie c9 h
          refine r_aload_n X 1 rfl dL_datasets_289 290 rfl ?_
          refine r_aload_n X 2 rfl dL_datasets_290 291 rfl ?_
          refine r_aload_n X 3 rfl dL_datasets_291 292 rfl ?_
          obtain ⟨x11, M12, e12, h⟩ := z_bd2 h
          refine r_callS (rest := [.int x7]) X (tL_settle hl G b a1 ha1 hna1 a2 ha2 a3 ha3 hna3 M8 e12) zy_L_settle zs_L_settle km_L_166 rfl ⟨rfl, rfl⟩ ⟨rfl, rfl⟩ rfl rfl (Nat.le_of_ble_eq_true rfl) ⟨Nat.le_refl _, Nat.le_refl _⟩ dL_datasets_292 295 rfl [.int x11, .int x7] rfl ?_
          refine r_goto X dL_datasets_295 300 (by decide) ?_
          refine r_icmp_ne X dL_datasets_300 307 (by decide) 303 rfl (fun c13 => ?_) (fun c13 => ?_)
          · have h := z_ie c13 h
            refine r_iconst (v := 0) X rfl dL_datasets_307 308 rfl ?_
            cases h
            exact r_airet X R (by decide) (by decide) rfl dL_datasets_308
          · have h := z_it c13 h
            refine r_iconst (v := 1) X rfl dL_datasets_303 304 rfl ?_
            refine r_goto X dL_datasets_304 308 (by decide) ?_
            cases h
            exact r_airet X R (by decide) (by decide) rfl dL_datasets_308
      have h := hT6
      refine r_if_eq X dL_datasets_235 278 (by decide) 238 rfl (fun c5 => ?_) (fun c5 => ?_)
      · have h := z_it c5 h
        cases h
        exact hJ6
      · have h := z_ie c5 h
        refine r_aload_n X 3 rfl dL_datasets_238 239 rfl ?_
        refine r_iconst (v := 4) X rfl dL_datasets_239 240 rfl ?_
        refine r_iload X 4 rfl dL_datasets_240 242 rfl ?_
        refine r_iadd X dL_datasets_242 243 rfl ?_
        refine r_iconst (v := 0) X rfl dL_datasets_243 244 rfl ?_
        obtain ⟨M14, e14, h⟩ := z_bd h
        refine r_iastore X ha3 hna3 e14 dL_datasets_244 245 rfl ?_
        refine r_aload_n X 3 rfl dL_datasets_245 246 rfl ?_
        refine r_bipush (v := 8) X rfl dL_datasets_246 248 rfl ?_
        refine r_iload X 4 rfl dL_datasets_248 250 rfl ?_
        refine r_iadd X dL_datasets_250 251 rfl ?_
        refine r_iconst (v := 0) X rfl dL_datasets_251 252 rfl ?_
        obtain ⟨M15, e15, h⟩ := z_bd h
        refine r_iastore X ha3 hna3 e15 dL_datasets_252 253 rfl ?_
        refine r_iconst (v := 0) X rfl dL_datasets_253 254 rfl ?_
        refine r_istore X dL_datasets_254 256 rfl [(0, .ref (b + a0)), (1, .ref (b + a1)), (2, .ref (b + a2)), (3, .ref (b + a3)), (5, .int a5), (6, .int j4), (7, .int 0)] (by decide) [1, 2, 3, 4, 5, 6, 0] rfl ?_
        obtain ⟨M18, hL19, h⟩ := z_bd h
        have hK19 : GW Γ G b 0 0 M18 278 [(0, .ref (b + a0)), (1, .ref (b + a1)), (2, .ref (b + a2)), (3, .ref (b + a3)), (5, .int a5), (6, .int j4)] [] := by
          cases h
          exact hJ6
        clear h
        refine z_loopP (fun (s : (Int32 × zM)) => GW Γ G b 0 0 s.2 256 [(0, .ref (b + a0)), (1, .ref (b + a1)), (2, .ref (b + a2)), (3, .ref (b + a3)), (5, .int a5), (6, .int j4), (7, .int s.1)] []) (fun s q19 hb hP19 hx19 => ?_) _ _ hL19
        obtain ⟨x16, M17⟩ := s
        have h : fL_datasets_L1 a1 a5 x16 M17 = some q19 := hb
        unfold fL_datasets_L1 at h
        refine r_iload X 6 rfl dL_datasets_256 258 rfl ?_
        refine r_iconst (v := 4) X rfl dL_datasets_258 259 rfl ?_
        refine r_icmp_ge X dL_datasets_259 278 (by decide) 262 rfl (fun c20 => ?_) (fun c20 => ?_)
        · have h := z_it c20 h
          refine r_sub [(0, .ref (b + a0)), (1, .ref (b + a1)), (2, .ref (b + a2)), (3, .ref (b + a3)), (5, .int a5), (6, .int j4)] [0, 1, 2, 3, 4, 5] rfl ?_
          have e := hx19 _ (Option.some.inj h).symm
          cases e
          exact hK19
        · have h := z_ie c20 h
          refine r_aload_n X 1 rfl dL_datasets_262 263 rfl ?_
          refine r_iconst (v := 4) X rfl dL_datasets_263 264 rfl ?_
          refine r_iload X 4 rfl dL_datasets_264 266 rfl ?_
          refine r_imul X dL_datasets_266 267 rfl ?_
          refine r_iload X 6 rfl dL_datasets_267 269 rfl ?_
          refine r_iadd X dL_datasets_269 270 rfl ?_
          refine r_iconst (v := 0) X rfl dL_datasets_270 271 rfl ?_
          obtain ⟨M21, e21, h⟩ := z_bd h
          refine r_iastore X ha1 hna1 e21 dL_datasets_271 272 rfl ?_
          refine r_iinc X dL_datasets_272 275 rfl [(0, .ref (b + a0)), (1, .ref (b + a1)), (2, .ref (b + a2)), (3, .ref (b + a3)), (5, .int a5), (6, .int j4), (7, .int (x16 + 1))] (by decide) 6 rfl (x16 + 1) rfl [1, 2, 3, 4, 5, 6, 0] rfl ?_
          refine r_goto X dL_datasets_275 256 (by decide) ?_
          exact hP19 ((x16 + 1), M21) (Option.some.inj h).symm
    have h := hT4
    refine r_if_ge X dL_datasets_207 230 (by decide) 210 rfl (fun c3 => ?_) (fun c3 => ?_)
    · have h := z_it c3 h
      refine r_iconst (v := 0) X rfl dL_datasets_230 231 rfl ?_
      refine r_sub [(0, .ref (b + a0)), (1, .ref (b + a1)), (2, .ref (b + a2)), (3, .ref (b + a3)), (5, .int a5)] [0, 1, 2, 3, 5] rfl ?_
      cases h
      exact hJ4
    · have h := z_ie c3 h
      refine r_aload_n X 3 rfl dL_datasets_210 211 rfl ?_
      refine r_iconst (v := 4) X rfl dL_datasets_211 212 rfl ?_
      obtain ⟨x22, e22, h⟩ := z_bd h
      refine r_iaload X ha3 hna3 e22 dL_datasets_212 213 rfl ?_
      refine r_aload_n X 3 rfl dL_datasets_213 214 rfl ?_
      refine r_iconst (v := 5) X rfl dL_datasets_214 215 rfl ?_
      obtain ⟨x23, e23, h⟩ := z_bd h
      refine r_iaload X ha3 hna3 e23 dL_datasets_215 216 rfl ?_
      refine r_iadd X dL_datasets_216 217 rfl ?_
      refine r_aload_n X 3 rfl dL_datasets_217 218 rfl ?_
      refine r_bipush (v := 6) X rfl dL_datasets_218 220 rfl ?_
      obtain ⟨x24, e24, h⟩ := z_bd h
      refine r_iaload X ha3 hna3 e24 dL_datasets_220 221 rfl ?_
      refine r_iadd X dL_datasets_221 222 rfl ?_
      refine r_iconst (v := 1) X rfl dL_datasets_222 223 rfl ?_
      refine r_icmp_le X dL_datasets_223 230 (by decide) 226 rfl (fun c25 => ?_) (fun c25 => ?_)
      · have h := z_it c25 h
        refine r_iconst (v := 0) X rfl dL_datasets_230 231 rfl ?_
        refine r_sub [(0, .ref (b + a0)), (1, .ref (b + a1)), (2, .ref (b + a2)), (3, .ref (b + a3)), (5, .int a5)] [0, 1, 2, 3, 5] rfl ?_
        cases h
        exact hJ4
      · have h := z_ie c25 h
        refine r_iconst (v := 1) X rfl dL_datasets_226 227 rfl ?_
        refine r_goto X dL_datasets_227 231 (by decide) ?_
        refine r_sub [(0, .ref (b + a0)), (1, .ref (b + a1)), (2, .ref (b + a2)), (3, .ref (b + a3)), (5, .int a5)] [0, 1, 2, 3, 5] rfl ?_
        cases h
        exact hJ4
  · have h := z_ie c1 h
    refine r_aload_n X 3 rfl dL_datasets_7 8 rfl ?_
    refine r_bipush (v := 8) X rfl dL_datasets_8 10 rfl ?_
    refine r_iload X 5 rfl dL_datasets_10 12 rfl ?_
    refine r_iadd X dL_datasets_12 13 rfl ?_
    obtain ⟨x26, e26, h⟩ := z_bd h
    refine r_iaload X ha3 hna3 e26 dL_datasets_13 14 rfl ?_
    refine r_if_le X dL_datasets_14 200 (by decide) 17 rfl (fun c27 => ?_) (fun c27 => ?_)
    · have h := z_it c27 h
      refine r_aload_n X 3 rfl dL_datasets_200 201 rfl ?_
      refine r_iload X 5 rfl dL_datasets_201 203 rfl ?_
      refine r_iconst (v := 0) X rfl dL_datasets_203 204 rfl ?_
      obtain ⟨x28, e28, h⟩ := z_bd h
      refine r_callS (rest := []) X (tL_numberAt hl G b a3 ha3 hna3 a5 0 M e28) zy_L_numberAt zs_L_numberAt km_L_112 rfl ⟨rfl, rfl⟩ ⟨rfl, rfl⟩ rfl rfl (Nat.le_of_ble_eq_true rfl) ⟨Nat.zero_le _, Nat.zero_le _⟩ dL_datasets_204 207 rfl [.int x28] rfl ?_
      obtain ⟨j30, hT30, h⟩ := z_bd h
      have hJ30 : GW Γ G b 0 0 M 231 [(0, .ref (b + a0)), (1, .ref (b + a1)), (2, .ref (b + a2)), (3, .ref (b + a3)), (5, .int a5)] [.int j30] := by
        refine r_istore X dL_datasets_231 233 rfl [(0, .ref (b + a0)), (1, .ref (b + a1)), (2, .ref (b + a2)), (3, .ref (b + a3)), (5, .int a5), (6, .int j30)] (by decide) [1, 2, 3, 4, 5, 0] rfl ?_
        refine r_iload X 5 rfl dL_datasets_233 235 rfl ?_
        obtain ⟨M32, hT32, h⟩ := z_bd h
        have hJ32 : GW Γ G b 0 0 M32 278 [(0, .ref (b + a0)), (1, .ref (b + a1)), (2, .ref (b + a2)), (3, .ref (b + a3)), (5, .int a5), (6, .int j30)] [] := by
          refine r_aload_n X 0 rfl dL_datasets_278 279 rfl ?_
          refine r_iload X 4 rfl dL_datasets_279 281 rfl ?_
          obtain ⟨x33, M34, e34, h⟩ := z_bd2 h
          refine r_callSH (rest := []) X (tL_removed hl G b a0 ha0 a5 M32 e34) zyh_L_removed km_L_214 rfl ⟨rfl, rfl⟩ rfl rfl (Nat.le_of_ble_eq_true rfl) ⟨Nat.le_refl _, Nat.le_refl _⟩ dL_datasets_281 284 rfl [.int x33] rfl ?_
          refine r_iload X 5 rfl dL_datasets_284 286 rfl ?_
          refine r_if_eq X dL_datasets_286 298 (by decide) 289 rfl (fun c35 => ?_) (fun c35 => ?_)
          · have h := z_it c35 h
            refine r_bipush (v := (-2)) X rfl dL_datasets_298 300 rfl ?_
            refine r_icmp_ne X dL_datasets_300 307 (by decide) 303 rfl (fun c36 => ?_) (fun c36 => ?_)
            · have h := z_ie c36 h
              refine r_iconst (v := 0) X rfl dL_datasets_307 308 rfl ?_
              cases h
              exact r_airet X R (by decide) (by decide) rfl dL_datasets_308
            · have h := z_it c36 h
              refine r_iconst (v := 1) X rfl dL_datasets_303 304 rfl ?_
              refine r_goto X dL_datasets_304 308 (by decide) ?_
              cases h
              exact r_airet X R (by decide) (by decide) rfl dL_datasets_308
          · have h := z_ie c35 h
            refine r_aload_n X 1 rfl dL_datasets_289 290 rfl ?_
            refine r_aload_n X 2 rfl dL_datasets_290 291 rfl ?_
            refine r_aload_n X 3 rfl dL_datasets_291 292 rfl ?_
            obtain ⟨x37, M38, e38, h⟩ := z_bd2 h
            refine r_callS (rest := [.int x33]) X (tL_settle hl G b a1 ha1 hna1 a2 ha2 a3 ha3 hna3 M34 e38) zy_L_settle zs_L_settle km_L_166 rfl ⟨rfl, rfl⟩ ⟨rfl, rfl⟩ rfl rfl (Nat.le_of_ble_eq_true rfl) ⟨Nat.le_refl _, Nat.le_refl _⟩ dL_datasets_292 295 rfl [.int x37, .int x33] rfl ?_
            refine r_goto X dL_datasets_295 300 (by decide) ?_
            refine r_icmp_ne X dL_datasets_300 307 (by decide) 303 rfl (fun c39 => ?_) (fun c39 => ?_)
            · have h := z_ie c39 h
              refine r_iconst (v := 0) X rfl dL_datasets_307 308 rfl ?_
              cases h
              exact r_airet X R (by decide) (by decide) rfl dL_datasets_308
            · have h := z_it c39 h
              refine r_iconst (v := 1) X rfl dL_datasets_303 304 rfl ?_
              refine r_goto X dL_datasets_304 308 (by decide) ?_
              cases h
              exact r_airet X R (by decide) (by decide) rfl dL_datasets_308
        have h := hT32
        refine r_if_eq X dL_datasets_235 278 (by decide) 238 rfl (fun c31 => ?_) (fun c31 => ?_)
        · have h := z_it c31 h
          cases h
          exact hJ32
        · have h := z_ie c31 h
          refine r_aload_n X 3 rfl dL_datasets_238 239 rfl ?_
          refine r_iconst (v := 4) X rfl dL_datasets_239 240 rfl ?_
          refine r_iload X 4 rfl dL_datasets_240 242 rfl ?_
          refine r_iadd X dL_datasets_242 243 rfl ?_
          refine r_iconst (v := 0) X rfl dL_datasets_243 244 rfl ?_
          obtain ⟨M40, e40, h⟩ := z_bd h
          refine r_iastore X ha3 hna3 e40 dL_datasets_244 245 rfl ?_
          refine r_aload_n X 3 rfl dL_datasets_245 246 rfl ?_
          refine r_bipush (v := 8) X rfl dL_datasets_246 248 rfl ?_
          refine r_iload X 4 rfl dL_datasets_248 250 rfl ?_
          refine r_iadd X dL_datasets_250 251 rfl ?_
          refine r_iconst (v := 0) X rfl dL_datasets_251 252 rfl ?_
          obtain ⟨M41, e41, h⟩ := z_bd h
          refine r_iastore X ha3 hna3 e41 dL_datasets_252 253 rfl ?_
          refine r_iconst (v := 0) X rfl dL_datasets_253 254 rfl ?_
          refine r_istore X dL_datasets_254 256 rfl [(0, .ref (b + a0)), (1, .ref (b + a1)), (2, .ref (b + a2)), (3, .ref (b + a3)), (5, .int a5), (6, .int j30), (7, .int 0)] (by decide) [1, 2, 3, 4, 5, 6, 0] rfl ?_
          obtain ⟨M44, hL45, h⟩ := z_bd h
          have hK45 : GW Γ G b 0 0 M44 278 [(0, .ref (b + a0)), (1, .ref (b + a1)), (2, .ref (b + a2)), (3, .ref (b + a3)), (5, .int a5), (6, .int j30)] [] := by
            cases h
            exact hJ32
          clear h
          refine z_loopP (fun (s : (Int32 × zM)) => GW Γ G b 0 0 s.2 256 [(0, .ref (b + a0)), (1, .ref (b + a1)), (2, .ref (b + a2)), (3, .ref (b + a3)), (5, .int a5), (6, .int j30), (7, .int s.1)] []) (fun s q45 hb hP45 hx45 => ?_) _ _ hL45
          obtain ⟨x42, M43⟩ := s
          have h : fL_datasets_L2 a1 a5 x42 M43 = some q45 := hb
          unfold fL_datasets_L2 at h
          refine r_iload X 6 rfl dL_datasets_256 258 rfl ?_
          refine r_iconst (v := 4) X rfl dL_datasets_258 259 rfl ?_
          refine r_icmp_ge X dL_datasets_259 278 (by decide) 262 rfl (fun c46 => ?_) (fun c46 => ?_)
          · have h := z_it c46 h
            refine r_sub [(0, .ref (b + a0)), (1, .ref (b + a1)), (2, .ref (b + a2)), (3, .ref (b + a3)), (5, .int a5), (6, .int j30)] [0, 1, 2, 3, 4, 5] rfl ?_
            have e := hx45 _ (Option.some.inj h).symm
            cases e
            exact hK45
          · have h := z_ie c46 h
            refine r_aload_n X 1 rfl dL_datasets_262 263 rfl ?_
            refine r_iconst (v := 4) X rfl dL_datasets_263 264 rfl ?_
            refine r_iload X 4 rfl dL_datasets_264 266 rfl ?_
            refine r_imul X dL_datasets_266 267 rfl ?_
            refine r_iload X 6 rfl dL_datasets_267 269 rfl ?_
            refine r_iadd X dL_datasets_269 270 rfl ?_
            refine r_iconst (v := 0) X rfl dL_datasets_270 271 rfl ?_
            obtain ⟨M47, e47, h⟩ := z_bd h
            refine r_iastore X ha1 hna1 e47 dL_datasets_271 272 rfl ?_
            refine r_iinc X dL_datasets_272 275 rfl [(0, .ref (b + a0)), (1, .ref (b + a1)), (2, .ref (b + a2)), (3, .ref (b + a3)), (5, .int a5), (6, .int j30), (7, .int (x42 + 1))] (by decide) 6 rfl (x42 + 1) rfl [1, 2, 3, 4, 5, 6, 0] rfl ?_
            refine r_goto X dL_datasets_275 256 (by decide) ?_
            exact hP45 ((x42 + 1), M47) (Option.some.inj h).symm
      have h := hT30
      refine r_if_ge X dL_datasets_207 230 (by decide) 210 rfl (fun c29 => ?_) (fun c29 => ?_)
      · have h := z_it c29 h
        refine r_iconst (v := 0) X rfl dL_datasets_230 231 rfl ?_
        refine r_sub [(0, .ref (b + a0)), (1, .ref (b + a1)), (2, .ref (b + a2)), (3, .ref (b + a3)), (5, .int a5)] [0, 1, 2, 3, 5] rfl ?_
        cases h
        exact hJ30
      · have h := z_ie c29 h
        refine r_aload_n X 3 rfl dL_datasets_210 211 rfl ?_
        refine r_iconst (v := 4) X rfl dL_datasets_211 212 rfl ?_
        obtain ⟨x48, e48, h⟩ := z_bd h
        refine r_iaload X ha3 hna3 e48 dL_datasets_212 213 rfl ?_
        refine r_aload_n X 3 rfl dL_datasets_213 214 rfl ?_
        refine r_iconst (v := 5) X rfl dL_datasets_214 215 rfl ?_
        obtain ⟨x49, e49, h⟩ := z_bd h
        refine r_iaload X ha3 hna3 e49 dL_datasets_215 216 rfl ?_
        refine r_iadd X dL_datasets_216 217 rfl ?_
        refine r_aload_n X 3 rfl dL_datasets_217 218 rfl ?_
        refine r_bipush (v := 6) X rfl dL_datasets_218 220 rfl ?_
        obtain ⟨x50, e50, h⟩ := z_bd h
        refine r_iaload X ha3 hna3 e50 dL_datasets_220 221 rfl ?_
        refine r_iadd X dL_datasets_221 222 rfl ?_
        refine r_iconst (v := 1) X rfl dL_datasets_222 223 rfl ?_
        refine r_icmp_le X dL_datasets_223 230 (by decide) 226 rfl (fun c51 => ?_) (fun c51 => ?_)
        · have h := z_it c51 h
          refine r_iconst (v := 0) X rfl dL_datasets_230 231 rfl ?_
          refine r_sub [(0, .ref (b + a0)), (1, .ref (b + a1)), (2, .ref (b + a2)), (3, .ref (b + a3)), (5, .int a5)] [0, 1, 2, 3, 5] rfl ?_
          cases h
          exact hJ30
        · have h := z_ie c51 h
          refine r_iconst (v := 1) X rfl dL_datasets_226 227 rfl ?_
          refine r_goto X dL_datasets_227 231 (by decide) ?_
          refine r_sub [(0, .ref (b + a0)), (1, .ref (b + a1)), (2, .ref (b + a2)), (3, .ref (b + a3)), (5, .int a5)] [0, 1, 2, 3, 5] rfl ?_
          cases h
          exact hJ30
    · have h := z_ie c27 h
      refine r_aload_n X 3 rfl dL_datasets_17 18 rfl ?_
      refine r_bipush (v := 8) X rfl dL_datasets_18 20 rfl ?_
      refine r_iload X 5 rfl dL_datasets_20 22 rfl ?_
      refine r_iadd X dL_datasets_22 23 rfl ?_
      obtain ⟨x52, e52, h⟩ := z_bd h
      refine r_iaload X ha3 hna3 e52 dL_datasets_23 24 rfl ?_
      refine r_iconst (v := 1) X rfl dL_datasets_24 25 rfl ?_
      refine r_isub X dL_datasets_25 26 rfl ?_
      refine r_istore X dL_datasets_26 28 rfl [(0, .ref (b + a0)), (3, .ref (b + a3)), (5, .int a5), (6, .int (x52 - 1))] (by decide) [1, 4, 6, 0] rfl ?_
      refine r_aload_n X 1 rfl dL_datasets_28 29 rfl ?_
      refine r_bipush (v := 16) X rfl dL_datasets_29 31 rfl ?_
      refine r_aload_n X 1 rfl dL_datasets_31 32 rfl ?_
      refine r_iload X 3 rfl dL_datasets_32 34 rfl ?_
      obtain ⟨x53, e53, h⟩ := z_bd h
      refine r_callS (rest := [.int 16, .ref (b + a3)]) X (tL_slot hl G b a3 ha3 hna3 (x52 - 1) M e53) zy_L_slot zs_L_slot km_L_35 rfl ⟨rfl, rfl⟩ ⟨rfl, rfl⟩ rfl rfl (Nat.le_of_ble_eq_true rfl) ⟨Nat.zero_le _, Nat.zero_le _⟩ dL_datasets_34 37 rfl [.int x53, .int 16, .ref (b + a3)] rfl ?_
      refine r_iadd X dL_datasets_37 38 rfl ?_
      obtain ⟨x54, e54, h⟩ := z_bd h
      refine r_iaload X ha3 hna3 e54 dL_datasets_38 39 rfl ?_
      refine r_istore X dL_datasets_39 41 rfl [(0, .ref (b + a0)), (3, .ref (b + a3)), (5, .int a5), (6, .int (x52 - 1)), (7, .int x54)] (by decide) [1, 2, 3, 4, 0] rfl ?_
      refine r_iconst (v := 0) X rfl dL_datasets_41 42 rfl ?_
      refine r_istore X dL_datasets_42 44 rfl [(0, .ref (b + a0)), (3, .ref (b + a3)), (5, .int a5), (6, .int (x52 - 1)), (7, .int x54), (8, .int 0)] (by decide) [1, 2, 3, 4, 5, 0] rfl ?_
      refine r_iconst (v := 0) X rfl dL_datasets_44 45 rfl ?_
      refine r_istore X dL_datasets_45 47 rfl [(0, .ref (b + a0)), (3, .ref (b + a3)), (5, .int a5), (6, .int (x52 - 1)), (7, .int x54), (8, .int 0), (9, .int 0)] (by decide) [1, 2, 3, 4, 5, 6, 0] rfl ?_
      obtain ⟨x58, M59, hL60, h⟩ := z_bd2 h
      have hK60 : GW Γ G b 0 0 M59 158 [(0, .ref (b + a0)), (3, .ref (b + a3)), (5, .int a5), (6, .int (x52 - 1)), (7, .int x54), (8, .int x58)] [] := by
        refine r_aload_n X 1 rfl dL_datasets_158 159 rfl ?_
        refine r_bipush (v := 8) X rfl dL_datasets_159 161 rfl ?_
        refine r_iload X 2 rfl dL_datasets_161 163 rfl ?_
        refine r_iadd X dL_datasets_163 164 rfl ?_
        refine r_aload_n X 1 rfl dL_datasets_164 165 rfl ?_
        refine r_bipush (v := 8) X rfl dL_datasets_165 167 rfl ?_
        refine r_iload X 4 rfl dL_datasets_167 169 rfl ?_
        refine r_iadd X dL_datasets_169 170 rfl ?_
        obtain ⟨x61, e61, h⟩ := z_bd h
        refine r_iaload X ha3 hna3 e61 dL_datasets_170 171 rfl ?_
        obtain ⟨M62, e62, h⟩ := z_bd h
        refine r_iastore X ha3 hna3 e62 dL_datasets_171 172 rfl ?_
        refine r_aload_n X 1 rfl dL_datasets_172 173 rfl ?_
        refine r_bipush (v := 8) X rfl dL_datasets_173 175 rfl ?_
        refine r_iload X 4 rfl dL_datasets_175 177 rfl ?_
        refine r_iadd X dL_datasets_177 178 rfl ?_
        refine r_iload X 3 rfl dL_datasets_178 180 rfl ?_
        refine r_iconst (v := 1) X rfl dL_datasets_180 181 rfl ?_
        refine r_iadd X dL_datasets_181 182 rfl ?_
        obtain ⟨M63, e63, h⟩ := z_bd h
        refine r_iastore X ha3 hna3 e63 dL_datasets_182 183 rfl ?_
        refine r_aload_n X 0 rfl dL_datasets_183 184 rfl ?_
        refine r_iload X 2 rfl dL_datasets_184 186 rfl ?_
        obtain ⟨x64, M65, e64, h⟩ := z_bd2 h
        have e64 := z_ntw_of e64
        refine r_callV (rest := []) X (z_MX_ret (tX6_promote hl G b a0 ha0 a5 M63 (r9 := .inr x64) e64)) zy_X6_promote zw_X6_promote km_L_211 ha0 rfl zv_X6 rfl ⟨rfl, rfl⟩ ⟨rfl, rfl⟩ rfl rfl (Nat.le_of_ble_eq_true rfl) ⟨Nat.zero_le _, Nat.zero_le _⟩ dL_datasets_186 189 rfl [.int x64] rfl ?_
        refine r_iload X 5 rfl dL_datasets_189 191 rfl ?_
        refine r_icmp_ne X dL_datasets_191 198 (by decide) 194 rfl (fun c66 => ?_) (fun c66 => ?_)
        · have h := z_ie c66 h
          refine r_iconst (v := 0) X rfl dL_datasets_198 199 rfl ?_
          cases h
          exact r_airet X R (by decide) (by decide) rfl dL_datasets_199
        · have h := z_it c66 h
          refine r_iconst (v := 1) X rfl dL_datasets_194 195 rfl ?_
          refine r_goto X dL_datasets_195 199 (by decide) ?_
          cases h
          exact r_airet X R (by decide) (by decide) rfl dL_datasets_199
      clear h
      refine z_loopP (fun (s : (Int32 × Int32 × zM)) => GW Γ G b 0 0 s.2.2 47 [(0, .ref (b + a0)), (3, .ref (b + a3)), (5, .int a5), (6, .int (x52 - 1)), (7, .int x54), (8, .int s.1), (9, .int s.2.1)] []) (fun s q60 hb hP60 hx60 => ?_) _ _ hL60
      obtain ⟨x55, x56, M57⟩ := s
      have h : fL_datasets_L3 a3 a5 x52 x54 x55 x56 M57 = some q60 := hb
      unfold fL_datasets_L3 at h
      refine r_iload X 6 rfl dL_datasets_47 49 rfl ?_
      refine r_iconst (v := 4) X rfl dL_datasets_49 50 rfl ?_
      refine r_icmp_ge X dL_datasets_50 158 (by decide) 53 rfl (fun c67 => ?_) (fun c67 => ?_)
      · have h := z_it c67 h
        refine r_sub [(0, .ref (b + a0)), (3, .ref (b + a3)), (5, .int a5), (6, .int (x52 - 1)), (7, .int x54), (8, .int x55)] [0, 1, 2, 3, 4, 5] rfl ?_
        have e := hx60 _ (Option.some.inj h).symm
        cases e
        exact hK60
      · have h := z_ie c67 h
        refine r_aload_n X 1 rfl dL_datasets_53 54 rfl ?_
        refine r_bipush (v := 12) X rfl dL_datasets_54 56 rfl ?_
        refine r_iload X 6 rfl dL_datasets_56 58 rfl ?_
        refine r_iadd X dL_datasets_58 59 rfl ?_
        obtain ⟨x68, e68, h⟩ := z_bd h
        refine r_iaload X ha3 hna3 e68 dL_datasets_59 60 rfl ?_
        obtain ⟨j70, hT70, h⟩ := z_bd h
        have hJ70 : GW Γ G b 0 0 M57 94 [(0, .ref (b + a0)), (3, .ref (b + a3)), (5, .int a5), (6, .int (x52 - 1)), (7, .int x54), (8, .int x55), (9, .int x56)] [.int j70] := by
          refine r_istore X dL_datasets_94 96 rfl [(0, .ref (b + a0)), (3, .ref (b + a3)), (5, .int a5), (6, .int (x52 - 1)), (7, .int x54), (8, .int x55), (9, .int x56), (10, .int j70)] (by decide) [1, 2, 3, 4, 5, 6, 7, 0] rfl ?_
          refine r_aload_n X 1 rfl dL_datasets_96 97 rfl ?_
          refine r_bipush (v := 16) X rfl dL_datasets_97 99 rfl ?_
          refine r_iload X 6 rfl dL_datasets_99 101 rfl ?_
          refine r_iadd X dL_datasets_101 102 rfl ?_
          refine r_iload X 7 rfl dL_datasets_102 104 rfl ?_
          obtain ⟨j72, hT72, h⟩ := z_bd h
          have hJ72 : GW Γ G b 0 0 M57 119 [(0, .ref (b + a0)), (3, .ref (b + a3)), (5, .int a5), (6, .int (x52 - 1)), (7, .int x54), (8, .int x55), (9, .int x56)] [.int j72, .int (16 + x56), .ref (b + a3)] := by
            obtain ⟨M73, e73, h⟩ := z_bd h
            refine r_iastore X ha3 hna3 e73 dL_datasets_119 120 rfl ?_
            refine r_iload X 5 rfl dL_datasets_120 122 rfl ?_
            refine r_aload_n X 1 rfl dL_datasets_122 123 rfl ?_
            refine r_bipush (v := 12) X rfl dL_datasets_123 125 rfl ?_
            refine r_iload X 6 rfl dL_datasets_125 127 rfl ?_
            refine r_iadd X dL_datasets_127 128 rfl ?_
            obtain ⟨x74, e74, h⟩ := z_bd h
            refine r_iaload X ha3 hna3 e74 dL_datasets_128 129 rfl ?_
            refine r_if_le X dL_datasets_129 148 (by decide) 132 rfl (fun c75 => ?_) (fun c75 => ?_)
            · have h := z_it c75 h
              refine r_iconst (v := 0) X rfl dL_datasets_148 149 rfl ?_
              refine r_iadd X dL_datasets_149 150 rfl ?_
              refine r_istore X dL_datasets_150 152 rfl [(0, .ref (b + a0)), (3, .ref (b + a3)), (5, .int a5), (6, .int (x52 - 1)), (7, .int x54), (8, .int (x55 + 0)), (9, .int x56)] (by decide) [1, 2, 3, 4, 5, 0, 6] rfl ?_
              refine r_iinc X dL_datasets_152 155 rfl [(0, .ref (b + a0)), (3, .ref (b + a3)), (5, .int a5), (6, .int (x52 - 1)), (7, .int x54), (8, .int (x55 + 0)), (9, .int (x56 + 1))] (by decide) 6 rfl (x56 + 1) rfl [1, 2, 3, 4, 5, 6, 0] rfl ?_
              refine r_goto X dL_datasets_155 47 (by decide) ?_
              exact hP60 ((x55 + 0), (x56 + 1), M73) (Option.some.inj h).symm
            · have h := z_ie c75 h
              refine r_aload_n X 1 rfl dL_datasets_132 133 rfl ?_
              refine r_bipush (v := 16) X rfl dL_datasets_133 135 rfl ?_
              refine r_iload X 6 rfl dL_datasets_135 137 rfl ?_
              refine r_iadd X dL_datasets_137 138 rfl ?_
              obtain ⟨x76, e76, h⟩ := z_bd h
              refine r_iaload X ha3 hna3 e76 dL_datasets_138 139 rfl ?_
              refine r_iload X 2 rfl dL_datasets_139 141 rfl ?_
              refine r_icmp_ne X dL_datasets_141 148 (by decide) 144 rfl (fun c77 => ?_) (fun c77 => ?_)
              · have h := z_ie c77 h
                refine r_iconst (v := 0) X rfl dL_datasets_148 149 rfl ?_
                refine r_iadd X dL_datasets_149 150 rfl ?_
                refine r_istore X dL_datasets_150 152 rfl [(0, .ref (b + a0)), (3, .ref (b + a3)), (5, .int a5), (6, .int (x52 - 1)), (7, .int x54), (8, .int (x55 + 0)), (9, .int x56)] (by decide) [1, 2, 3, 4, 5, 0, 6] rfl ?_
                refine r_iinc X dL_datasets_152 155 rfl [(0, .ref (b + a0)), (3, .ref (b + a3)), (5, .int a5), (6, .int (x52 - 1)), (7, .int x54), (8, .int (x55 + 0)), (9, .int (x56 + 1))] (by decide) 6 rfl (x56 + 1) rfl [1, 2, 3, 4, 5, 6, 0] rfl ?_
                refine r_goto X dL_datasets_155 47 (by decide) ?_
                exact hP60 ((x55 + 0), (x56 + 1), M73) (Option.some.inj h).symm
              · have h := z_it c77 h
                refine r_iconst (v := 1) X rfl dL_datasets_144 145 rfl ?_
                refine r_goto X dL_datasets_145 149 (by decide) ?_
                refine r_iadd X dL_datasets_149 150 rfl ?_
                refine r_istore X dL_datasets_150 152 rfl [(0, .ref (b + a0)), (3, .ref (b + a3)), (5, .int a5), (6, .int (x52 - 1)), (7, .int x54), (8, .int (x55 + 1)), (9, .int x56)] (by decide) [1, 2, 3, 4, 5, 0, 6] rfl ?_
                refine r_iinc X dL_datasets_152 155 rfl [(0, .ref (b + a0)), (3, .ref (b + a3)), (5, .int a5), (6, .int (x52 - 1)), (7, .int x54), (8, .int (x55 + 1)), (9, .int (x56 + 1))] (by decide) 6 rfl (x56 + 1) rfl [1, 2, 3, 4, 5, 6, 0] rfl ?_
                refine r_goto X dL_datasets_155 47 (by decide) ?_
                exact hP60 ((x55 + 1), (x56 + 1), M73) (Option.some.inj h).symm
          have h := hT72
          refine r_if_eq X dL_datasets_104 112 (by decide) 107 rfl (fun c71 => ?_) (fun c71 => ?_)
          · have h := z_it c71 h
            refine r_aload_n X 1 rfl dL_datasets_112 113 rfl ?_
            refine r_bipush (v := 16) X rfl dL_datasets_113 115 rfl ?_
            refine r_iload X 6 rfl dL_datasets_115 117 rfl ?_
            refine r_iadd X dL_datasets_117 118 rfl ?_
            obtain ⟨x78, e78, h⟩ := z_bd h
            refine r_iaload X ha3 hna3 e78 dL_datasets_118 119 rfl ?_
            refine r_sub [(0, .ref (b + a0)), (3, .ref (b + a3)), (5, .int a5), (6, .int (x52 - 1)), (7, .int x54), (8, .int x55), (9, .int x56)] [0, 1, 2, 3, 4, 5, 6] rfl ?_
            cases h
            exact hJ72
          · have h := z_ie c71 h
            refine r_iload X 2 rfl dL_datasets_107 109 rfl ?_
            refine r_goto X dL_datasets_109 119 (by decide) ?_
            refine r_sub [(0, .ref (b + a0)), (3, .ref (b + a3)), (5, .int a5), (6, .int (x52 - 1)), (7, .int x54), (8, .int x55), (9, .int x56)] [0, 1, 2, 3, 4, 5, 6] rfl ?_
            cases h
            exact hJ72
        have h := hT70
        refine r_if_le X dL_datasets_60 93 (by decide) 63 rfl (fun c69 => ?_) (fun c69 => ?_)
        · have h := z_it c69 h
          refine r_iconst (v := 0) X rfl dL_datasets_93 94 rfl ?_
          cases h
          exact hJ70
        · have h := z_ie c69 h
          refine r_aload_n X 1 rfl dL_datasets_63 64 rfl ?_
          refine r_bipush (v := 16) X rfl dL_datasets_64 66 rfl ?_
          refine r_iload X 6 rfl dL_datasets_66 68 rfl ?_
          refine r_iadd X dL_datasets_68 69 rfl ?_
          obtain ⟨x79, e79, h⟩ := z_bd h
          refine r_iaload X ha3 hna3 e79 dL_datasets_69 70 rfl ?_
          refine r_iload X 4 rfl dL_datasets_70 72 rfl ?_
          refine r_icmp_ne X dL_datasets_72 93 (by decide) 75 rfl (fun c80 => ?_) (fun c80 => ?_)
          · have h := z_ie c80 h
            refine r_iconst (v := 0) X rfl dL_datasets_93 94 rfl ?_
            cases h
            exact hJ70
          · have h := z_it c80 h
            refine r_aload_n X 1 rfl dL_datasets_75 76 rfl ?_
            refine r_bipush (v := 12) X rfl dL_datasets_76 78 rfl ?_
            refine r_iload X 6 rfl dL_datasets_78 80 rfl ?_
            refine r_iadd X dL_datasets_80 81 rfl ?_
            obtain ⟨x81, e81, h⟩ := z_bd h
            refine r_iaload X ha3 hna3 e81 dL_datasets_81 82 rfl ?_
            refine r_iconst (v := 1) X rfl dL_datasets_82 83 rfl ?_
            refine r_isub X dL_datasets_83 84 rfl ?_
            refine r_iload X 3 rfl dL_datasets_84 86 rfl ?_
            refine r_icmp_gt X dL_datasets_86 93 (by decide) 89 rfl (fun c82 => ?_) (fun c82 => ?_)
            · have h := z_it c82 h
              refine r_iconst (v := 0) X rfl dL_datasets_93 94 rfl ?_
              cases h
              exact hJ70
            · have h := z_ie c82 h
              refine r_iconst (v := 1) X rfl dL_datasets_89 90 rfl ?_
              refine r_goto X dL_datasets_90 94 (by decide) ?_
              cases h
              exact hJ70
set_option maxRecDepth 100000 in
set_option maxHeartbeats 4000000 in
theorem tL_way {Γ : zC} {G : zG} {b sb cs ss : Nat} {x10 : Int32} (X : z_CX Γ G b 18 cL_holds RL z_rmO) (hl9 : Γ.2.1.stackTraces = false) (hro : cs + 1 ≤ z_rmO.cells ∧ ss + 6 ≤ z_rmO.slots) (a1 j3 j9 : Int32) (M : zM) {r9 : Int32} {M9 : zM} (h : fL_way a1 j3 j9 M = some (r9, M9)) (K : GW Γ G b (cs + 1) (ss + 6) M9 608 [(0, .ref sb), (1, .ref (b + 0)), (2, .ref (b + 169)), (3, .ref (b + 170)), (4, .ref (b + 171)), (5, .ref (b + 172)), (6, .ref (b + 173)), (7, .ref (b + 174)), (8, .ref (b + 175)), (9, .int r9), (10, .int x10)] []) : GW Γ G b cs ss M 301 [(0, .ref sb), (1, .ref (b + 0)), (2, .ref (b + 169)), (3, .ref (b + 170)), (4, .ref (b + 171)), (5, .ref (b + 172)), (6, .ref (b + 173)), (7, .ref (b + 174)), (8, .ref (b + 175)), (10, .int x10), (11, .int a1), (13, .int j3), (15, .int j9)] [] := by
  have hl := hl9
  unfold fL_way at h
  refine r_iload X 10 rfl dL_holds_301 303 rfl ?_
  refine r_bipush (v := 16) X rfl dL_holds_303 305 rfl ?_
  refine r_icmp_eq X dL_holds_305 322 (by decide) 308 rfl (fun c1 => ?_) (fun c1 => ?_)
  · have h := z_it c1 h
    refine r_aload_n X 1 rfl dL_holds_322 323 rfl ?_
    refine r_aload_n X 2 rfl dL_holds_323 324 rfl ?_
    refine r_aload_n X 3 rfl dL_holds_324 325 rfl ?_
    refine r_aload X 4 rfl dL_holds_325 327 rfl ?_
    refine r_iload X 10 rfl dL_holds_327 329 rfl ?_
    refine r_iload X 11 rfl dL_holds_329 331 rfl ?_
    obtain ⟨x2, M3, e3, h⟩ := z_bd2 h
    refine r_callSA (rest := []) X (tL_datasets hl G b 0 z_k0 169 rfl rfl 170 rfl 171 rfl rfl a1 j3 M e3) zy_L_datasets zs_L_datasets km_L_232 rfl ⟨rfl, rfl⟩ rfl rfl (Nat.le_of_ble_eq_true rfl) hro dL_holds_331 334 rfl [.int x2] rfl ?_
    refine r_istore X dL_holds_334 336 rfl [(0, .ref sb), (1, .ref (b + 0)), (2, .ref (b + 169)), (3, .ref (b + 170)), (4, .ref (b + 171)), (5, .ref (b + 172)), (6, .ref (b + 173)), (7, .ref (b + 174)), (8, .ref (b + 175)), (9, .int x2), (10, .int x10)] (by decide) [1, 2, 3, 4, 5, 6, 7, 8, 9, 0, 10] rfl ?_
    refine r_goto X dL_holds_336 608 (by decide) ?_
    cases h
    exact K
  · have h := z_ie c1 h
    refine r_iload X 10 rfl dL_holds_308 310 rfl ?_
    refine r_bipush (v := 17) X rfl dL_holds_310 312 rfl ?_
    refine r_icmp_eq X dL_holds_312 322 (by decide) 315 rfl (fun c4 => ?_) (fun c4 => ?_)
    · have h := z_it c4 h
      refine r_aload_n X 1 rfl dL_holds_322 323 rfl ?_
      refine r_aload_n X 2 rfl dL_holds_323 324 rfl ?_
      refine r_aload_n X 3 rfl dL_holds_324 325 rfl ?_
      refine r_aload X 4 rfl dL_holds_325 327 rfl ?_
      refine r_iload X 10 rfl dL_holds_327 329 rfl ?_
      refine r_iload X 11 rfl dL_holds_329 331 rfl ?_
      obtain ⟨x5, M6, e6, h⟩ := z_bd2 h
      refine r_callSA (rest := []) X (tL_datasets hl G b 0 z_k0 169 rfl rfl 170 rfl 171 rfl rfl a1 j3 M e6) zy_L_datasets zs_L_datasets km_L_232 rfl ⟨rfl, rfl⟩ rfl rfl (Nat.le_of_ble_eq_true rfl) hro dL_holds_331 334 rfl [.int x5] rfl ?_
      refine r_istore X dL_holds_334 336 rfl [(0, .ref sb), (1, .ref (b + 0)), (2, .ref (b + 169)), (3, .ref (b + 170)), (4, .ref (b + 171)), (5, .ref (b + 172)), (6, .ref (b + 173)), (7, .ref (b + 174)), (8, .ref (b + 175)), (9, .int x5), (10, .int x10)] (by decide) [1, 2, 3, 4, 5, 6, 7, 8, 9, 0, 10] rfl ?_
      refine r_goto X dL_holds_336 608 (by decide) ?_
      cases h
      exact K
    · have h := z_ie c4 h
      refine r_iload X 10 rfl dL_holds_315 317 rfl ?_
      refine r_bipush (v := 18) X rfl dL_holds_317 319 rfl ?_
      refine r_icmp_ne X dL_holds_319 339 (by decide) 322 rfl (fun c7 => ?_) (fun c7 => ?_)
      · have h := z_ie c7 h
        refine r_iload X 10 rfl dL_holds_339 341 rfl ?_
        refine r_bipush (v := 19) X rfl dL_holds_341 343 rfl ?_
        refine r_icmp_ne X dL_holds_343 380 (by decide) 346 rfl (fun c10 => ?_) (fun c10 => ?_)
        · have h := z_ie c10 h
          refine r_iconst (v := 0) X rfl dL_holds_380 381 rfl ?_
          refine r_istore X dL_holds_381 383 rfl [(0, .ref sb), (1, .ref (b + 0)), (2, .ref (b + 169)), (3, .ref (b + 170)), (4, .ref (b + 171)), (5, .ref (b + 172)), (6, .ref (b + 173)), (7, .ref (b + 174)), (8, .ref (b + 175)), (10, .int x10), (11, .int a1), (13, .int j3), (15, .int j9), (16, .int 0)] (by decide) [1, 2, 3, 4, 5, 6, 7, 8, 9, 10, 11, 12, 13, 0] rfl ?_
          obtain ⟨M18, hL19, h⟩ := z_bd h
          have hK19 : GW Γ G b cs ss M18 406 [(0, .ref sb), (1, .ref (b + 0)), (2, .ref (b + 169)), (3, .ref (b + 170)), (4, .ref (b + 171)), (5, .ref (b + 172)), (6, .ref (b + 173)), (7, .ref (b + 174)), (8, .ref (b + 175)), (10, .int x10), (11, .int a1), (13, .int j3), (15, .int j9)] [] := by
            refine r_iload X 10 rfl dL_holds_406 408 rfl ?_
            refine r_bipush (v := 21) X rfl dL_holds_408 410 rfl ?_
            obtain ⟨j21, hT21, h⟩ := z_bd h
            have hJ21 : GW Γ G b cs ss M18 423 [(0, .ref sb), (1, .ref (b + 0)), (2, .ref (b + 169)), (3, .ref (b + 170)), (4, .ref (b + 171)), (5, .ref (b + 172)), (6, .ref (b + 173)), (7, .ref (b + 174)), (8, .ref (b + 175)), (10, .int x10), (13, .int j3), (15, .int j9)] [.int j21] := by
              refine r_istore X dL_holds_423 425 rfl [(0, .ref sb), (1, .ref (b + 0)), (2, .ref (b + 169)), (3, .ref (b + 170)), (4, .ref (b + 171)), (5, .ref (b + 172)), (6, .ref (b + 173)), (7, .ref (b + 174)), (8, .ref (b + 175)), (10, .int x10), (13, .int j3), (15, .int j9), (16, .int j21)] (by decide) [1, 2, 3, 4, 5, 6, 7, 8, 9, 10, 11, 12, 0] rfl ?_
              refine r_iconst (v := 0) X rfl dL_holds_425 426 rfl ?_
              refine r_istore X dL_holds_426 428 rfl [(0, .ref sb), (1, .ref (b + 0)), (2, .ref (b + 169)), (3, .ref (b + 170)), (4, .ref (b + 171)), (5, .ref (b + 172)), (6, .ref (b + 173)), (7, .ref (b + 174)), (8, .ref (b + 175)), (10, .int x10), (13, .int j3), (15, .int j9), (16, .int j21), (17, .int 0)] (by decide) [1, 2, 3, 4, 5, 6, 7, 8, 9, 10, 11, 12, 13, 0] rfl ?_
              obtain ⟨M24, hL25, h⟩ := z_bd h
              have hK25 : GW Γ G b cs ss M24 466 [(0, .ref sb), (1, .ref (b + 0)), (2, .ref (b + 169)), (3, .ref (b + 170)), (4, .ref (b + 171)), (5, .ref (b + 172)), (6, .ref (b + 173)), (7, .ref (b + 174)), (8, .ref (b + 175)), (10, .int x10), (13, .int j3), (15, .int j9), (16, .int j21)] [] := by
                refine r_iload X 12 rfl dL_holds_466 468 rfl ?_
                obtain ⟨M27, hT27, h⟩ := z_bd h
                have hJ27 : GW Γ G b cs ss M27 515 [(0, .ref sb), (1, .ref (b + 0)), (2, .ref (b + 169)), (3, .ref (b + 170)), (4, .ref (b + 171)), (5, .ref (b + 172)), (6, .ref (b + 173)), (7, .ref (b + 174)), (8, .ref (b + 175)), (10, .int x10), (13, .int j3), (16, .int j21)] [] := by
                  refine r_iload X 11 rfl dL_holds_515 517 rfl ?_
                  obtain ⟨j29, M30, hT30, h⟩ := z_bd2 h
                  have hJ30 : GW Γ G b cs ss M30 559 [(0, .ref sb), (1, .ref (b + 0)), (2, .ref (b + 169)), (3, .ref (b + 170)), (4, .ref (b + 171)), (5, .ref (b + 172)), (6, .ref (b + 173)), (7, .ref (b + 174)), (8, .ref (b + 175)), (10, .int x10)] [.int j29] := by
                    refine r_istore X dL_holds_559 561 rfl [(0, .ref sb), (1, .ref (b + 0)), (2, .ref (b + 169)), (3, .ref (b + 170)), (4, .ref (b + 171)), (5, .ref (b + 172)), (6, .ref (b + 173)), (7, .ref (b + 174)), (8, .ref (b + 175)), (9, .int j29), (10, .int x10)] (by decide) [1, 2, 3, 4, 5, 6, 7, 8, 9, 0, 10] rfl ?_
                    refine r_iload X 9 rfl dL_holds_561 563 rfl ?_
                    obtain ⟨j32, M33, hT33, h⟩ := z_bd2 h
                    have hJ33 : GW Γ G b cs ss M33 593 [(0, .ref sb), (1, .ref (b + 0)), (2, .ref (b + 169)), (3, .ref (b + 170)), (4, .ref (b + 171)), (5, .ref (b + 172)), (6, .ref (b + 173)), (7, .ref (b + 174)), (8, .ref (b + 175)), (10, .int x10)] [.int j32] := by
                      refine r_istore X dL_holds_593 595 rfl [(0, .ref sb), (1, .ref (b + 0)), (2, .ref (b + 169)), (3, .ref (b + 170)), (4, .ref (b + 171)), (5, .ref (b + 172)), (6, .ref (b + 173)), (7, .ref (b + 174)), (8, .ref (b + 175)), (9, .int j32), (10, .int x10)] (by decide) [1, 2, 3, 4, 5, 6, 7, 8, 9, 0, 10] rfl ?_
                      refine r_aload_n X 2 rfl dL_holds_595 596 rfl ?_
                      refine r_aload_n X 3 rfl dL_holds_596 597 rfl ?_
                      refine r_aload X 4 rfl dL_holds_597 599 rfl ?_
                      refine r_aload X 5 rfl dL_holds_599 601 rfl ?_
                      refine r_aload X 6 rfl dL_holds_601 603 rfl ?_
                      refine r_aload X 7 rfl dL_holds_603 605 rfl ?_
                      obtain ⟨M34, e34, h⟩ := z_bd h
                      refine r_callS (rest := []) X (tL_keep hl G b 169 rfl rfl 170 rfl 171 rfl rfl 172 rfl rfl 173 rfl 174 rfl rfl M33 e34) zy_L_keep zs_L_keep km_L_218 rfl ⟨rfl, rfl⟩ ⟨rfl, rfl⟩ rfl rfl (Nat.le_of_ble_eq_true rfl) ⟨Nat.le_trans (Nat.le_add_right _ 1) hro.1, Nat.le_trans (Nat.le_add_right _ 6) hro.2⟩ dL_holds_605 608 rfl [] rfl ?_
                      refine r_widen (cs + 1) (ss + 6) (Nat.le_add_right _ _) (Nat.le_add_right _ _) ?_
                      cases h
                      exact K
                    have h := hT33
                    refine r_if_eq X dL_holds_563 592 (by decide) 566 rfl (fun c31 => ?_) (fun c31 => ?_)
                    · have h := z_it c31 h
                      refine r_iconst (v := 0) X rfl dL_holds_592 593 rfl ?_
                      refine r_sub [(0, .ref sb), (1, .ref (b + 0)), (2, .ref (b + 169)), (3, .ref (b + 170)), (4, .ref (b + 171)), (5, .ref (b + 172)), (6, .ref (b + 173)), (7, .ref (b + 174)), (8, .ref (b + 175)), (10, .int x10)] [0, 1, 2, 3, 4, 5, 6, 7, 8, 10] rfl ?_
                      cases h
                      exact hJ33
                    · have h := z_ie c31 h
                      refine r_aload_n X 2 rfl dL_holds_566 567 rfl ?_
                      refine r_aload_n X 3 rfl dL_holds_567 568 rfl ?_
                      refine r_aload X 4 rfl dL_holds_568 570 rfl ?_
                      obtain ⟨x35, M36, e36, h⟩ := z_bd2 h
                      refine r_callS (rest := []) X (tL_settle hl G b 169 rfl rfl 170 rfl 171 rfl rfl M30 e36) zy_L_settle zs_L_settle km_L_166 rfl ⟨rfl, rfl⟩ ⟨rfl, rfl⟩ rfl rfl (Nat.le_of_ble_eq_true rfl) ⟨Nat.le_trans (Nat.le_add_right _ 1) hro.1, Nat.le_trans (Nat.le_add_right _ 6) hro.2⟩ dL_holds_570 573 rfl [.int x35] rfl ?_
                      refine r_if_ne X dL_holds_573 592 (by decide) 576 rfl (fun c37 => ?_) (fun c37 => ?_)
                      · have h := z_ie c37 h
                        refine r_iconst (v := 0) X rfl dL_holds_592 593 rfl ?_
                        refine r_sub [(0, .ref sb), (1, .ref (b + 0)), (2, .ref (b + 169)), (3, .ref (b + 170)), (4, .ref (b + 171)), (5, .ref (b + 172)), (6, .ref (b + 173)), (7, .ref (b + 174)), (8, .ref (b + 175)), (10, .int x10)] [0, 1, 2, 3, 4, 5, 6, 7, 8, 10] rfl ?_
                        cases h
                        exact hJ33
                      · have h := z_it c37 h
                        refine r_aload_n X 1 rfl dL_holds_576 577 rfl ?_
                        refine r_aload_n X 3 rfl dL_holds_577 578 rfl ?_
                        refine r_aload X 4 rfl dL_holds_578 580 rfl ?_
                        refine r_aload X 8 rfl dL_holds_580 582 rfl ?_
                        obtain ⟨x38, M39, e39, h⟩ := z_bd2 h
                        refine r_callS (rest := []) X (tL_isLogged hl G b 0 z_k0 170 rfl 171 rfl rfl 175 rfl rfl M36 e39) zy_L_isLogged zs_L_isLogged km_L_243 rfl ⟨rfl, rfl⟩ ⟨rfl, rfl⟩ rfl rfl (Nat.le_of_ble_eq_true rfl) ⟨Nat.le_trans (Nat.le_add_right _ 1) hro.1, Nat.le_trans (Nat.le_add_right _ 6) hro.2⟩ dL_holds_582 585 rfl [.int x38] rfl ?_
                        refine r_if_eq X dL_holds_585 592 (by decide) 588 rfl (fun c40 => ?_) (fun c40 => ?_)
                        · have h := z_it c40 h
                          refine r_iconst (v := 0) X rfl dL_holds_592 593 rfl ?_
                          refine r_sub [(0, .ref sb), (1, .ref (b + 0)), (2, .ref (b + 169)), (3, .ref (b + 170)), (4, .ref (b + 171)), (5, .ref (b + 172)), (6, .ref (b + 173)), (7, .ref (b + 174)), (8, .ref (b + 175)), (10, .int x10)] [0, 1, 2, 3, 4, 5, 6, 7, 8, 10] rfl ?_
                          cases h
                          exact hJ33
                        · have h := z_ie c40 h
                          refine r_iconst (v := 1) X rfl dL_holds_588 589 rfl ?_
                          refine r_goto X dL_holds_589 593 (by decide) ?_
                          refine r_sub [(0, .ref sb), (1, .ref (b + 0)), (2, .ref (b + 169)), (3, .ref (b + 170)), (4, .ref (b + 171)), (5, .ref (b + 172)), (6, .ref (b + 173)), (7, .ref (b + 174)), (8, .ref (b + 175)), (10, .int x10)] [0, 1, 2, 3, 4, 5, 6, 7, 8, 10] rfl ?_
                          cases h
                          exact hJ33
                  have h := hT30
                  refine r_if_eq X dL_holds_517 543 (by decide) 520 rfl (fun c28 => ?_) (fun c28 => ?_)
                  · have h := z_it c28 h
                    refine r_aload_n X 1 rfl dL_holds_543 544 rfl ?_
                    obtain ⟨x41, M42, e42, h⟩ := z_bd2 h
                    refine r_callV (rest := []) X (tX6_commit hl G b 0 z_k0 M27 e42) zy_X6_commit zw_X6_commit km_L_240 z_k0 rfl zv_X6 rfl ⟨rfl, rfl⟩ ⟨rfl, rfl⟩ rfl rfl (Nat.le_of_ble_eq_true rfl) ⟨Nat.le_trans (Nat.le_add_right _ 1) hro.1, Nat.le_trans (Nat.le_add_right _ 6) hro.2⟩ dL_holds_544 547 rfl [.int x41] rfl ?_
                    refine r_aload X 4 rfl dL_holds_547 549 rfl ?_
                    refine r_iconst (v := 0) X rfl dL_holds_549 550 rfl ?_
                    obtain ⟨x43, e43, h⟩ := z_bd h
                    refine r_iaload X rfl rfl e43 dL_holds_550 551 rfl ?_
                    refine r_icmp_ne X dL_holds_551 558 (by decide) 554 rfl (fun c44 => ?_) (fun c44 => ?_)
                    · have h := z_ie c44 h
                      refine r_iconst (v := 0) X rfl dL_holds_558 559 rfl ?_
                      refine r_sub [(0, .ref sb), (1, .ref (b + 0)), (2, .ref (b + 169)), (3, .ref (b + 170)), (4, .ref (b + 171)), (5, .ref (b + 172)), (6, .ref (b + 173)), (7, .ref (b + 174)), (8, .ref (b + 175)), (10, .int x10)] [0, 1, 2, 3, 4, 5, 6, 7, 8, 9] rfl ?_
                      cases h
                      exact hJ30
                    · have h := z_it c44 h
                      refine r_iconst (v := 1) X rfl dL_holds_554 555 rfl ?_
                      refine r_goto X dL_holds_555 559 (by decide) ?_
                      refine r_sub [(0, .ref sb), (1, .ref (b + 0)), (2, .ref (b + 169)), (3, .ref (b + 170)), (4, .ref (b + 171)), (5, .ref (b + 172)), (6, .ref (b + 173)), (7, .ref (b + 174)), (8, .ref (b + 175)), (10, .int x10)] [0, 1, 2, 3, 4, 5, 6, 7, 8, 9] rfl ?_
                      cases h
                      exact hJ30
                  · have h := z_ie c28 h
                    refine r_aload_n X 1 rfl dL_holds_520 521 rfl ?_
                    refine r_iload X 10 rfl dL_holds_521 523 rfl ?_
                    obtain ⟨x45, M46, e45, h⟩ := z_bd2 h
                    have e45 := z_ntw_of e45
                    refine r_callV (rest := []) X (z_MX_ret (tX6_snapshot hl G b 0 z_k0 j3 M27 (r9 := .inr x45) e45)) zy_X6_snapshot zw_X6_snapshot km_L_237 z_k0 rfl zv_X6 rfl ⟨rfl, rfl⟩ ⟨rfl, rfl⟩ rfl rfl (Nat.le_of_ble_eq_true rfl) ⟨Nat.le_trans (Nat.le_add_right _ 1) hro.1, Nat.le_trans (Nat.le_add_right _ 6) hro.2⟩ dL_holds_523 526 rfl [.int x45] rfl ?_
                    refine r_aload X 4 rfl dL_holds_526 528 rfl ?_
                    refine r_iconst (v := 1) X rfl dL_holds_528 529 rfl ?_
                    obtain ⟨x47, e47, h⟩ := z_bd h
                    refine r_iaload X rfl rfl e47 dL_holds_529 530 rfl ?_
                    refine r_iconst (v := 1) X rfl dL_holds_530 531 rfl ?_
                    refine r_isub X dL_holds_531 532 rfl ?_
                    refine r_icmp_ne X dL_holds_532 539 (by decide) 535 rfl (fun c48 => ?_) (fun c48 => ?_)
                    · have h := z_ie c48 h
                      refine r_iconst (v := 0) X rfl dL_holds_539 540 rfl ?_
                      refine r_goto X dL_holds_540 559 (by decide) ?_
                      refine r_sub [(0, .ref sb), (1, .ref (b + 0)), (2, .ref (b + 169)), (3, .ref (b + 170)), (4, .ref (b + 171)), (5, .ref (b + 172)), (6, .ref (b + 173)), (7, .ref (b + 174)), (8, .ref (b + 175)), (10, .int x10)] [0, 1, 2, 3, 4, 5, 6, 7, 8, 9] rfl ?_
                      cases h
                      exact hJ30
                    · have h := z_it c48 h
                      refine r_iconst (v := 1) X rfl dL_holds_535 536 rfl ?_
                      refine r_goto X dL_holds_536 559 (by decide) ?_
                      refine r_sub [(0, .ref sb), (1, .ref (b + 0)), (2, .ref (b + 169)), (3, .ref (b + 170)), (4, .ref (b + 171)), (5, .ref (b + 172)), (6, .ref (b + 173)), (7, .ref (b + 174)), (8, .ref (b + 175)), (10, .int x10)] [0, 1, 2, 3, 4, 5, 6, 7, 8, 9] rfl ?_
                      cases h
                      exact hJ30
                have h := hT27
                refine r_if_eq X dL_holds_468 515 (by decide) 471 rfl (fun c26 => ?_) (fun c26 => ?_)
                · have h := z_it c26 h
                  refine r_sub [(0, .ref sb), (1, .ref (b + 0)), (2, .ref (b + 169)), (3, .ref (b + 170)), (4, .ref (b + 171)), (5, .ref (b + 172)), (6, .ref (b + 173)), (7, .ref (b + 174)), (8, .ref (b + 175)), (10, .int x10), (13, .int j3), (16, .int j21)] [0, 1, 2, 3, 4, 5, 6, 7, 8, 9, 10, 12] rfl ?_
                  cases h
                  exact hJ27
                · have h := z_ie c26 h
                  refine r_aload X 4 rfl dL_holds_471 473 rfl ?_
                  refine r_bipush (v := 12) X rfl dL_holds_473 475 rfl ?_
                  refine r_iload X 11 rfl dL_holds_475 477 rfl ?_
                  refine r_iadd X dL_holds_477 478 rfl ?_
                  refine r_aload X 4 rfl dL_holds_478 480 rfl ?_
                  refine r_iconst (v := 1) X rfl dL_holds_480 481 rfl ?_
                  obtain ⟨x49, e49, h⟩ := z_bd h
                  refine r_iaload X rfl rfl e49 dL_holds_481 482 rfl ?_
                  refine r_iconst (v := 1) X rfl dL_holds_482 483 rfl ?_
                  refine r_iadd X dL_holds_483 484 rfl ?_
                  obtain ⟨M50, e50, h⟩ := z_bd h
                  refine r_iastore X rfl rfl e50 dL_holds_484 485 rfl ?_
                  refine r_aload X 4 rfl dL_holds_485 487 rfl ?_
                  refine r_bipush (v := 16) X rfl dL_holds_487 489 rfl ?_
                  refine r_iload X 11 rfl dL_holds_489 491 rfl ?_
                  refine r_iadd X dL_holds_491 492 rfl ?_
                  refine r_iload X 10 rfl dL_holds_492 494 rfl ?_
                  obtain ⟨M51, e51, h⟩ := z_bd h
                  refine r_iastore X rfl rfl e51 dL_holds_494 495 rfl ?_
                  refine r_aload X 4 rfl dL_holds_495 497 rfl ?_
                  refine r_bipush (v := 20) X rfl dL_holds_497 499 rfl ?_
                  refine r_iload X 11 rfl dL_holds_499 501 rfl ?_
                  refine r_iadd X dL_holds_501 502 rfl ?_
                  refine r_aload X 4 rfl dL_holds_502 504 rfl ?_
                  refine r_iconst (v := 0) X rfl dL_holds_504 505 rfl ?_
                  obtain ⟨x52, e52, h⟩ := z_bd h
                  refine r_iaload X rfl rfl e52 dL_holds_505 506 rfl ?_
                  obtain ⟨M53, e53, h⟩ := z_bd h
                  refine r_iastore X rfl rfl e53 dL_holds_506 507 rfl ?_
                  refine r_aload X 4 rfl dL_holds_507 509 rfl ?_
                  refine r_iconst (v := 1) X rfl dL_holds_509 510 rfl ?_
                  refine r_dup2 X rfl rfl dL_holds_510 511 rfl ?_
                  obtain ⟨x54, e54, h⟩ := z_bd h
                  refine r_iaload X rfl rfl e54 dL_holds_511 512 rfl ?_
                  refine r_iconst (v := 1) X rfl dL_holds_512 513 rfl ?_
                  refine r_iadd X dL_holds_513 514 rfl ?_
                  obtain ⟨M55, e55, h⟩ := z_bd h
                  refine r_iastore X rfl rfl e55 dL_holds_514 515 rfl ?_
                  refine r_sub [(0, .ref sb), (1, .ref (b + 0)), (2, .ref (b + 169)), (3, .ref (b + 170)), (4, .ref (b + 171)), (5, .ref (b + 172)), (6, .ref (b + 173)), (7, .ref (b + 174)), (8, .ref (b + 175)), (10, .int x10), (13, .int j3), (16, .int j21)] [0, 1, 2, 3, 4, 5, 6, 7, 8, 9, 10, 12] rfl ?_
                  cases h
                  exact hJ27
              clear h
              refine z_loopP (fun (s : (Int32 × zM)) => GW Γ G b cs ss s.2 428 [(0, .ref sb), (1, .ref (b + 0)), (2, .ref (b + 169)), (3, .ref (b + 170)), (4, .ref (b + 171)), (5, .ref (b + 172)), (6, .ref (b + 173)), (7, .ref (b + 174)), (8, .ref (b + 175)), (10, .int x10), (13, .int j3), (15, .int j9), (16, .int j21), (17, .int s.1)] []) (fun s q25 hb hP25 hx25 => ?_) _ _ hL25
              obtain ⟨x22, M23⟩ := s
              have h : fL_way_L2 j3 j9 j21 x22 M23 = some q25 := hb
              unfold fL_way_L2 at h
              refine r_iload X 13 rfl dL_holds_428 430 rfl ?_
              refine r_iconst (v := 4) X rfl dL_holds_430 431 rfl ?_
              refine r_icmp_ge X dL_holds_431 466 (by decide) 434 rfl (fun c56 => ?_) (fun c56 => ?_)
              · have h := z_it c56 h
                refine r_sub [(0, .ref sb), (1, .ref (b + 0)), (2, .ref (b + 169)), (3, .ref (b + 170)), (4, .ref (b + 171)), (5, .ref (b + 172)), (6, .ref (b + 173)), (7, .ref (b + 174)), (8, .ref (b + 175)), (10, .int x10), (13, .int j3), (15, .int j9), (16, .int j21)] [0, 1, 2, 3, 4, 5, 6, 7, 8, 9, 10, 11, 12] rfl ?_
                have e := hx25 _ (Option.some.inj h).symm
                cases e
                exact hK25
              · have h := z_ie c56 h
                refine r_iload X 12 rfl dL_holds_434 436 rfl ?_
                refine r_if_eq X dL_holds_436 466 (by decide) 439 rfl (fun c57 => ?_) (fun c57 => ?_)
                · have h := z_it c57 h
                  refine r_sub [(0, .ref sb), (1, .ref (b + 0)), (2, .ref (b + 169)), (3, .ref (b + 170)), (4, .ref (b + 171)), (5, .ref (b + 172)), (6, .ref (b + 173)), (7, .ref (b + 174)), (8, .ref (b + 175)), (10, .int x10), (13, .int j3), (15, .int j9), (16, .int j21)] [0, 1, 2, 3, 4, 5, 6, 7, 8, 9, 10, 11, 12] rfl ?_
                  have e := hx25 _ (Option.some.inj h).symm
                  cases e
                  exact hK25
                · have h := z_ie c57 h
                  refine r_aload_n X 2 rfl dL_holds_439 440 rfl ?_
                  refine r_bipush (v := 12) X rfl dL_holds_440 442 rfl ?_
                  refine r_iconst (v := 4) X rfl dL_holds_442 443 rfl ?_
                  refine r_iload X 11 rfl dL_holds_443 445 rfl ?_
                  refine r_imul X dL_holds_445 446 rfl ?_
                  refine r_iadd X dL_holds_446 447 rfl ?_
                  refine r_iload X 13 rfl dL_holds_447 449 rfl ?_
                  refine r_iadd X dL_holds_449 450 rfl ?_
                  refine r_aload_n X 2 rfl dL_holds_450 451 rfl ?_
                  refine r_iconst (v := 4) X rfl dL_holds_451 452 rfl ?_
                  refine r_iload X 10 rfl dL_holds_452 454 rfl ?_
                  refine r_imul X dL_holds_454 455 rfl ?_
                  refine r_iload X 13 rfl dL_holds_455 457 rfl ?_
                  refine r_iadd X dL_holds_457 458 rfl ?_
                  obtain ⟨x58, e58, h⟩ := z_bd h
                  refine r_iaload X rfl rfl e58 dL_holds_458 459 rfl ?_
                  obtain ⟨M59, e59, h⟩ := z_bd h
                  refine r_iastore X rfl rfl e59 dL_holds_459 460 rfl ?_
                  refine r_iinc X dL_holds_460 463 rfl [(0, .ref sb), (1, .ref (b + 0)), (2, .ref (b + 169)), (3, .ref (b + 170)), (4, .ref (b + 171)), (5, .ref (b + 172)), (6, .ref (b + 173)), (7, .ref (b + 174)), (8, .ref (b + 175)), (10, .int x10), (13, .int j3), (15, .int j9), (16, .int j21), (17, .int (x22 + 1))] (by decide) 13 rfl (x22 + 1) rfl [1, 2, 3, 4, 5, 6, 7, 8, 9, 10, 11, 12, 13, 0] rfl ?_
                  refine r_goto X dL_holds_463 428 (by decide) ?_
                  exact hP25 ((x22 + 1), M59) (Option.some.inj h).symm
            have h := hT21
            refine r_icmp_le X dL_holds_410 422 (by decide) 413 rfl (fun c20 => ?_) (fun c20 => ?_)
            · have h := z_it c20 h
              refine r_iconst (v := 0) X rfl dL_holds_422 423 rfl ?_
              refine r_sub [(0, .ref sb), (1, .ref (b + 0)), (2, .ref (b + 169)), (3, .ref (b + 170)), (4, .ref (b + 171)), (5, .ref (b + 172)), (6, .ref (b + 173)), (7, .ref (b + 174)), (8, .ref (b + 175)), (10, .int x10), (13, .int j3), (15, .int j9)] [0, 1, 2, 3, 4, 5, 6, 7, 8, 9, 11, 12] rfl ?_
              cases h
              exact hJ21
            · have h := z_ie c20 h
              refine r_iload X 12 rfl dL_holds_413 415 rfl ?_
              refine r_if_lt X dL_holds_415 422 (by decide) 418 rfl (fun c60 => ?_) (fun c60 => ?_)
              · have h := z_it c60 h
                refine r_iconst (v := 0) X rfl dL_holds_422 423 rfl ?_
                refine r_sub [(0, .ref sb), (1, .ref (b + 0)), (2, .ref (b + 169)), (3, .ref (b + 170)), (4, .ref (b + 171)), (5, .ref (b + 172)), (6, .ref (b + 173)), (7, .ref (b + 174)), (8, .ref (b + 175)), (10, .int x10), (13, .int j3), (15, .int j9)] [0, 1, 2, 3, 4, 5, 6, 7, 8, 9, 11, 12] rfl ?_
                cases h
                exact hJ21
              · have h := z_ie c60 h
                refine r_iconst (v := 1) X rfl dL_holds_418 419 rfl ?_
                refine r_goto X dL_holds_419 423 (by decide) ?_
                refine r_sub [(0, .ref sb), (1, .ref (b + 0)), (2, .ref (b + 169)), (3, .ref (b + 170)), (4, .ref (b + 171)), (5, .ref (b + 172)), (6, .ref (b + 173)), (7, .ref (b + 174)), (8, .ref (b + 175)), (10, .int x10), (13, .int j3), (15, .int j9)] [0, 1, 2, 3, 4, 5, 6, 7, 8, 9, 11, 12] rfl ?_
                cases h
                exact hJ21
          clear h
          refine z_loopP (fun (s : (Int32 × zM)) => GW Γ G b cs ss s.2 383 [(0, .ref sb), (1, .ref (b + 0)), (2, .ref (b + 169)), (3, .ref (b + 170)), (4, .ref (b + 171)), (5, .ref (b + 172)), (6, .ref (b + 173)), (7, .ref (b + 174)), (8, .ref (b + 175)), (10, .int x10), (11, .int a1), (13, .int j3), (15, .int j9), (16, .int s.1)] []) (fun s q19 hb hP19 hx19 => ?_) _ _ hL19
          obtain ⟨x16, M17⟩ := s
          have h : fL_way_L1 x16 M17 = some q19 := hb
          unfold fL_way_L1 at h
          refine r_iload X 13 rfl dL_holds_383 385 rfl ?_
          refine r_iconst (v := 4) X rfl dL_holds_385 386 rfl ?_
          refine r_icmp_ge X dL_holds_386 406 (by decide) 389 rfl (fun c61 => ?_) (fun c61 => ?_)
          · have h := z_it c61 h
            refine r_sub [(0, .ref sb), (1, .ref (b + 0)), (2, .ref (b + 169)), (3, .ref (b + 170)), (4, .ref (b + 171)), (5, .ref (b + 172)), (6, .ref (b + 173)), (7, .ref (b + 174)), (8, .ref (b + 175)), (10, .int x10), (11, .int a1), (13, .int j3), (15, .int j9)] [0, 1, 2, 3, 4, 5, 6, 7, 8, 9, 10, 11, 12] rfl ?_
            have e := hx19 _ (Option.some.inj h).symm
            cases e
            exact hK19
          · have h := z_ie c61 h
            refine r_aload X 8 rfl dL_holds_389 391 rfl ?_
            refine r_iload X 13 rfl dL_holds_391 393 rfl ?_
            refine r_aload_n X 1 rfl dL_holds_393 394 rfl ?_
            refine r_iload X 13 rfl dL_holds_394 396 rfl ?_
            obtain ⟨x62, e62, h⟩ := z_bd h
            have e62 := z_nt_of e62
            refine r_callV (rest := [.int x16, .ref (b + 175)]) X (z_MX_ret (tX6_logEntries hl G b 0 z_k0 x16 M17 (r9 := .inr x62) e62)) zy_X6_logEntries zw_X6_logEntries km_L_56 z_k0 rfl zv_X6 rfl ⟨rfl, rfl⟩ ⟨rfl, rfl⟩ rfl rfl (Nat.le_of_ble_eq_true rfl) ⟨Nat.le_trans (Nat.le_add_right _ 1) hro.1, Nat.le_trans (Nat.le_add_right _ 6) hro.2⟩ dL_holds_396 399 rfl [.int x62, .int x16, .ref (b + 175)] rfl ?_
            obtain ⟨M63, e63, h⟩ := z_bd h
            refine r_iastore X rfl rfl e63 dL_holds_399 400 rfl ?_
            refine r_iinc X dL_holds_400 403 rfl [(0, .ref sb), (1, .ref (b + 0)), (2, .ref (b + 169)), (3, .ref (b + 170)), (4, .ref (b + 171)), (5, .ref (b + 172)), (6, .ref (b + 173)), (7, .ref (b + 174)), (8, .ref (b + 175)), (10, .int x10), (11, .int a1), (13, .int j3), (15, .int j9), (16, .int (x16 + 1))] (by decide) 13 rfl (x16 + 1) rfl [1, 2, 3, 4, 5, 6, 7, 8, 9, 10, 11, 12, 13, 0] rfl ?_
            refine r_goto X dL_holds_403 383 (by decide) ?_
            exact hP19 ((x16 + 1), M63) (Option.some.inj h).symm
        · have h := z_it c10 h
          refine r_aload X 5 rfl dL_holds_346 348 rfl ?_
          refine r_aload X 6 rfl dL_holds_348 350 rfl ?_
          refine r_aload X 7 rfl dL_holds_350 352 rfl ?_
          refine r_aload_n X 2 rfl dL_holds_352 353 rfl ?_
          refine r_aload_n X 3 rfl dL_holds_353 354 rfl ?_
          refine r_aload X 4 rfl dL_holds_354 356 rfl ?_
          obtain ⟨M11, e11, h⟩ := z_bd h
          refine r_callS (rest := []) X (tL_keep hl G b 172 rfl rfl 173 rfl 174 rfl rfl 169 rfl rfl 170 rfl 171 rfl rfl M e11) zy_L_keep zs_L_keep km_L_218 rfl ⟨rfl, rfl⟩ ⟨rfl, rfl⟩ rfl rfl (Nat.le_of_ble_eq_true rfl) ⟨Nat.le_trans (Nat.le_add_right _ 1) hro.1, Nat.le_trans (Nat.le_add_right _ 6) hro.2⟩ dL_holds_356 359 rfl [] rfl ?_
          refine r_aload_n X 1 rfl dL_holds_359 360 rfl ?_
          obtain ⟨x12, M13, e13, h⟩ := z_bd2 h
          refine r_callV (rest := []) X (tX6_crash hl G b 0 z_k0 M11 e13) zy_X6_crash zw_X6_crash km_L_234 z_k0 rfl zv_X6 rfl ⟨rfl, rfl⟩ ⟨rfl, rfl⟩ rfl rfl (Nat.le_of_ble_eq_true rfl) ⟨Nat.le_trans (Nat.le_add_right _ 1) hro.1, Nat.le_trans (Nat.le_add_right _ 6) hro.2⟩ dL_holds_360 363 rfl [.int x12] rfl ?_
          refine r_aload X 4 rfl dL_holds_363 365 rfl ?_
          refine r_iconst (v := 0) X rfl dL_holds_365 366 rfl ?_
          obtain ⟨x14, e14, h⟩ := z_bd h
          refine r_iaload X rfl rfl e14 dL_holds_366 367 rfl ?_
          refine r_icmp_ne X dL_holds_367 374 (by decide) 370 rfl (fun c15 => ?_) (fun c15 => ?_)
          · have h := z_ie c15 h
            refine r_iconst (v := 0) X rfl dL_holds_374 375 rfl ?_
            refine r_istore X dL_holds_375 377 rfl [(0, .ref sb), (1, .ref (b + 0)), (2, .ref (b + 169)), (3, .ref (b + 170)), (4, .ref (b + 171)), (5, .ref (b + 172)), (6, .ref (b + 173)), (7, .ref (b + 174)), (8, .ref (b + 175)), (9, .int 0), (10, .int x10)] (by decide) [1, 2, 3, 4, 5, 6, 7, 8, 9, 0, 10] rfl ?_
            refine r_goto X dL_holds_377 608 (by decide) ?_
            refine r_widen (cs + 1) (ss + 6) (Nat.le_add_right _ _) (Nat.le_add_right _ _) ?_
            cases h
            exact K
          · have h := z_it c15 h
            refine r_iconst (v := 1) X rfl dL_holds_370 371 rfl ?_
            refine r_goto X dL_holds_371 375 (by decide) ?_
            refine r_istore X dL_holds_375 377 rfl [(0, .ref sb), (1, .ref (b + 0)), (2, .ref (b + 169)), (3, .ref (b + 170)), (4, .ref (b + 171)), (5, .ref (b + 172)), (6, .ref (b + 173)), (7, .ref (b + 174)), (8, .ref (b + 175)), (9, .int 1), (10, .int x10)] (by decide) [1, 2, 3, 4, 5, 6, 7, 8, 9, 0, 10] rfl ?_
            refine r_goto X dL_holds_377 608 (by decide) ?_
            refine r_widen (cs + 1) (ss + 6) (Nat.le_add_right _ _) (Nat.le_add_right _ _) ?_
            cases h
            exact K
      · have h := z_it c7 h
        refine r_aload_n X 1 rfl dL_holds_322 323 rfl ?_
        refine r_aload_n X 2 rfl dL_holds_323 324 rfl ?_
        refine r_aload_n X 3 rfl dL_holds_324 325 rfl ?_
        refine r_aload X 4 rfl dL_holds_325 327 rfl ?_
        refine r_iload X 10 rfl dL_holds_327 329 rfl ?_
        refine r_iload X 11 rfl dL_holds_329 331 rfl ?_
        obtain ⟨x8, M9, e9, h⟩ := z_bd2 h
        refine r_callSA (rest := []) X (tL_datasets hl G b 0 z_k0 169 rfl rfl 170 rfl 171 rfl rfl a1 j3 M e9) zy_L_datasets zs_L_datasets km_L_232 rfl ⟨rfl, rfl⟩ rfl rfl (Nat.le_of_ble_eq_true rfl) hro dL_holds_331 334 rfl [.int x8] rfl ?_
        refine r_istore X dL_holds_334 336 rfl [(0, .ref sb), (1, .ref (b + 0)), (2, .ref (b + 169)), (3, .ref (b + 170)), (4, .ref (b + 171)), (5, .ref (b + 172)), (6, .ref (b + 173)), (7, .ref (b + 174)), (8, .ref (b + 175)), (9, .int x8), (10, .int x10)] (by decide) [1, 2, 3, 4, 5, 6, 7, 8, 9, 0, 10] rfl ?_
        refine r_goto X dL_holds_336 608 (by decide) ?_
        cases h
        exact K
set_option maxRecDepth 100000 in
set_option maxHeartbeats 4000000 in
theorem tL_step {Γ : zC} {G : zG} {b sb cs ss L : Nat} {xs : Nat → Int32} {x10 : Int32} (X : z_CX Γ G b 18 cL_holds RL z_rmO) (hl9 : Γ.2.1.stackTraces = false) (hX : va_X sb L xs (z_s Γ) (z_s Γ).heap) (hb9 : sb < (z_s Γ).heap.size ∧ sb < b) (hro : cs + 1 ≤ z_rmO.cells ∧ ss + 6 ≤ z_rmO.slots) (a1 a2 a3 : Int32) (M : zM) (hf1 : z_MF Γ.2.1 yL_from cL_from 4 (some .int) G b sb L xs [.ref sb, .int (3 * x10), .int 24] M (some (.int a1))) (hf2 : z_MF Γ.2.1 yL_from cL_from 4 (some .int) G b sb L xs [.ref sb, .int ((3 * x10) + 1), .int 10000] M (some (.int a2))) (hf3 : z_MF Γ.2.1 yL_from cL_from 4 (some .int) G b sb L xs [.ref sb, .int ((3 * x10) + 2), .int 3] M (some (.int a3))) {M9 : zM} (h : fL_step a1 a2 a3 x10 M = some (1, M9)) (K : GW Γ G b (cs + 1) (ss + 6) M9 639 [(0, .ref sb), (1, .ref (b + 0)), (2, .ref (b + 169)), (3, .ref (b + 170)), (4, .ref (b + 171)), (5, .ref (b + 172)), (6, .ref (b + 173)), (7, .ref (b + 174)), (8, .ref (b + 175)), (9, .int 1), (10, .int x10)] []) : GW Γ G b cs ss M 89 [(0, .ref sb), (1, .ref (b + 0)), (2, .ref (b + 169)), (3, .ref (b + 170)), (4, .ref (b + 171)), (5, .ref (b + 172)), (6, .ref (b + 173)), (7, .ref (b + 174)), (8, .ref (b + 175)), (10, .int x10)] [] := by
  have hl := hl9
  unfold fL_step at h
  refine r_aload_n X 0 rfl dL_holds_89 90 rfl ?_
  refine r_iconst (v := 3) X rfl dL_holds_90 91 rfl ?_
  refine r_iload X 9 rfl dL_holds_91 93 rfl ?_
  refine r_imul X dL_holds_93 94 rfl ?_
  refine r_bipush (v := 24) X rfl dL_holds_94 96 rfl ?_
  refine r_callF (rest := []) X hX hb9 hf1 zy_L_from zs_L_from km_L_222 rfl ⟨rfl, rfl⟩ rfl rfl (Nat.le_of_ble_eq_true rfl) ⟨Nat.le_trans (Nat.le_add_right _ 1) hro.1, Nat.le_trans (Nat.le_add_right _ 6) hro.2⟩ dL_holds_96 99 rfl [.int a1] rfl ?_
  refine r_istore X dL_holds_99 101 rfl [(0, .ref sb), (1, .ref (b + 0)), (2, .ref (b + 169)), (3, .ref (b + 170)), (4, .ref (b + 171)), (5, .ref (b + 172)), (6, .ref (b + 173)), (7, .ref (b + 174)), (8, .ref (b + 175)), (10, .int x10), (11, .int a1)] (by decide) [1, 2, 3, 4, 5, 6, 7, 8, 9, 10, 0] rfl ?_
  refine r_aload_n X 0 rfl dL_holds_101 102 rfl ?_
  refine r_iconst (v := 3) X rfl dL_holds_102 103 rfl ?_
  refine r_iload X 9 rfl dL_holds_103 105 rfl ?_
  refine r_imul X dL_holds_105 106 rfl ?_
  refine r_iconst (v := 1) X rfl dL_holds_106 107 rfl ?_
  refine r_iadd X dL_holds_107 108 rfl ?_
  refine r_sipush (v := 10000) X rfl dL_holds_108 111 rfl ?_
  refine r_callF (rest := []) X hX hb9 hf2 zy_L_from zs_L_from km_L_222 rfl ⟨rfl, rfl⟩ rfl rfl (Nat.le_of_ble_eq_true rfl) ⟨Nat.le_trans (Nat.le_add_right _ 1) hro.1, Nat.le_trans (Nat.le_add_right _ 6) hro.2⟩ dL_holds_111 114 rfl [.int a2] rfl ?_
  refine r_istore X dL_holds_114 116 rfl [(0, .ref sb), (1, .ref (b + 0)), (2, .ref (b + 169)), (3, .ref (b + 170)), (4, .ref (b + 171)), (5, .ref (b + 172)), (6, .ref (b + 173)), (7, .ref (b + 174)), (8, .ref (b + 175)), (10, .int x10), (11, .int a1), (12, .int a2)] (by decide) [1, 2, 3, 4, 5, 6, 7, 8, 9, 10, 11, 0] rfl ?_
  refine r_aload_n X 0 rfl dL_holds_116 117 rfl ?_
  refine r_iconst (v := 3) X rfl dL_holds_117 118 rfl ?_
  refine r_iload X 9 rfl dL_holds_118 120 rfl ?_
  refine r_imul X dL_holds_120 121 rfl ?_
  refine r_iconst (v := 2) X rfl dL_holds_121 122 rfl ?_
  refine r_iadd X dL_holds_122 123 rfl ?_
  refine r_iconst (v := 3) X rfl dL_holds_123 124 rfl ?_
  refine r_callF (rest := []) X hX hb9 hf3 zy_L_from zs_L_from km_L_222 rfl ⟨rfl, rfl⟩ rfl rfl (Nat.le_of_ble_eq_true rfl) ⟨Nat.le_trans (Nat.le_add_right _ 1) hro.1, Nat.le_trans (Nat.le_add_right _ 6) hro.2⟩ dL_holds_124 127 rfl [.int a3] rfl ?_
  refine r_istore X dL_holds_127 129 rfl [(0, .ref sb), (1, .ref (b + 0)), (2, .ref (b + 169)), (3, .ref (b + 170)), (4, .ref (b + 171)), (5, .ref (b + 172)), (6, .ref (b + 173)), (7, .ref (b + 174)), (8, .ref (b + 175)), (10, .int x10), (11, .int a1), (12, .int a2), (13, .int a3)] (by decide) [1, 2, 3, 4, 5, 6, 7, 8, 9, 10, 11, 12, 0] rfl ?_
  refine r_aload X 4 rfl dL_holds_129 131 rfl ?_
  refine r_iconst (v := 4) X rfl dL_holds_131 132 rfl ?_
  refine r_iload X 12 rfl dL_holds_132 134 rfl ?_
  refine r_iadd X dL_holds_134 135 rfl ?_
  obtain ⟨x1, e1, h⟩ := z_bd h
  refine r_iaload X rfl rfl e1 dL_holds_135 136 rfl ?_
  refine r_iconst (v := 1) X rfl dL_holds_136 137 rfl ?_
  obtain ⟨j3, hT3, h⟩ := z_bd h
  have hJ3 : GW Γ G b cs ss M 170 [(0, .ref sb), (1, .ref (b + 0)), (2, .ref (b + 169)), (3, .ref (b + 170)), (4, .ref (b + 171)), (5, .ref (b + 172)), (6, .ref (b + 173)), (7, .ref (b + 174)), (8, .ref (b + 175)), (10, .int x10), (11, .int a1), (12, .int a2)] [.int j3] := by
    refine r_istore X dL_holds_170 172 rfl [(0, .ref sb), (1, .ref (b + 0)), (2, .ref (b + 169)), (3, .ref (b + 170)), (4, .ref (b + 171)), (5, .ref (b + 172)), (6, .ref (b + 173)), (7, .ref (b + 174)), (8, .ref (b + 175)), (10, .int x10), (11, .int a1), (12, .int a2), (13, .int j3)] (by decide) [1, 2, 3, 4, 5, 6, 7, 8, 9, 10, 11, 12, 0] rfl ?_
    refine r_aload X 4 rfl dL_holds_172 174 rfl ?_
    refine r_bipush (v := 12) X rfl dL_holds_174 176 rfl ?_
    refine r_iload X 11 rfl dL_holds_176 178 rfl ?_
    refine r_iconst (v := 4) X rfl dL_holds_178 179 rfl ?_
    refine r_irem X (by decide) dL_holds_179 180 rfl ?_
    refine r_iadd X dL_holds_180 181 rfl ?_
    obtain ⟨x4, e4, h⟩ := z_bd h
    refine r_iaload X rfl rfl e4 dL_holds_181 182 rfl ?_
    obtain ⟨j6, hT6, h⟩ := z_bd h
    have hJ6 : GW Γ G b cs ss M 193 [(0, .ref sb), (1, .ref (b + 0)), (2, .ref (b + 169)), (3, .ref (b + 170)), (4, .ref (b + 171)), (5, .ref (b + 172)), (6, .ref (b + 173)), (7, .ref (b + 174)), (8, .ref (b + 175)), (10, .int x10), (11, .int a1), (12, .int a2), (13, .int j3)] [.int j6] := by
      refine r_istore X dL_holds_193 195 rfl [(0, .ref sb), (1, .ref (b + 0)), (2, .ref (b + 169)), (3, .ref (b + 170)), (4, .ref (b + 171)), (5, .ref (b + 172)), (6, .ref (b + 173)), (7, .ref (b + 174)), (8, .ref (b + 175)), (10, .int x10), (11, .int a1), (12, .int a2), (13, .int j3), (14, .int j6)] (by decide) [1, 2, 3, 4, 5, 6, 7, 8, 9, 10, 11, 12, 13, 0] rfl ?_
      refine r_aload X 4 rfl dL_holds_195 197 rfl ?_
      refine r_bipush (v := 12) X rfl dL_holds_197 199 rfl ?_
      obtain ⟨x7, e7, h⟩ := z_bd h
      refine r_iaload X rfl rfl e7 dL_holds_199 200 rfl ?_
      obtain ⟨j9, hT9, h⟩ := z_bd h
      have hJ9 : GW Γ G b cs ss M 244 [(0, .ref sb), (1, .ref (b + 0)), (2, .ref (b + 169)), (3, .ref (b + 170)), (4, .ref (b + 171)), (5, .ref (b + 172)), (6, .ref (b + 173)), (7, .ref (b + 174)), (8, .ref (b + 175)), (10, .int x10), (11, .int a1), (12, .int a2), (13, .int j3), (14, .int j6)] [.int j9] := by
        refine r_istore X dL_holds_244 246 rfl [(0, .ref sb), (1, .ref (b + 0)), (2, .ref (b + 169)), (3, .ref (b + 170)), (4, .ref (b + 171)), (5, .ref (b + 172)), (6, .ref (b + 173)), (7, .ref (b + 174)), (8, .ref (b + 175)), (10, .int x10), (11, .int a1), (12, .int a2), (13, .int j3), (14, .int j6), (15, .int j9)] (by decide) [1, 2, 3, 4, 5, 6, 7, 8, 9, 10, 11, 12, 13, 14, 0] rfl ?_
        refine r_iload X 10 rfl dL_holds_246 248 rfl ?_
        refine r_bipush (v := 9) X rfl dL_holds_248 250 rfl ?_
        obtain ⟨j11, M12, hT12, h⟩ := z_bd2 h
        have hJ12 : GW Γ G b (cs + 1) (ss + 6) M12 608 [(0, .ref sb), (1, .ref (b + 0)), (2, .ref (b + 169)), (3, .ref (b + 170)), (4, .ref (b + 171)), (5, .ref (b + 172)), (6, .ref (b + 173)), (7, .ref (b + 174)), (8, .ref (b + 175)), (9, .int j11), (10, .int x10)] [] := by
          refine r_iload X 9 rfl dL_holds_608 610 rfl ?_
          refine r_if_eq X dL_holds_610 636 (by decide) 613 rfl (fun c13 => ?_) (fun c13 => ?_)
          · have h := z_it c13 h
            refine r_iconst (v := 0) X rfl dL_holds_636 637 rfl ?_
            refine r_istore X dL_holds_637 639 rfl [(0, .ref sb), (1, .ref (b + 0)), (2, .ref (b + 169)), (3, .ref (b + 170)), (4, .ref (b + 171)), (5, .ref (b + 172)), (6, .ref (b + 173)), (7, .ref (b + 174)), (8, .ref (b + 175)), (9, .int 0), (10, .int x10)] (by decide) [1, 2, 3, 4, 5, 6, 7, 8, 9, 0, 10] rfl ?_
            cases h
          · have h := z_ie c13 h
            refine r_iload X 10 rfl dL_holds_613 615 rfl ?_
            refine r_iconst (v := 5) X rfl dL_holds_615 616 rfl ?_
            refine r_irem X (by decide) dL_holds_616 617 rfl ?_
            refine r_iconst (v := 4) X rfl dL_holds_617 618 rfl ?_
            refine r_icmp_lt X dL_holds_618 632 (by decide) 621 rfl (fun c14 => ?_) (fun c14 => ?_)
            · have h := z_it c14 h
              refine r_iconst (v := 1) X rfl dL_holds_632 633 rfl ?_
              refine r_goto X dL_holds_633 637 (by decide) ?_
              refine r_istore X dL_holds_637 639 rfl [(0, .ref sb), (1, .ref (b + 0)), (2, .ref (b + 169)), (3, .ref (b + 170)), (4, .ref (b + 171)), (5, .ref (b + 172)), (6, .ref (b + 173)), (7, .ref (b + 174)), (8, .ref (b + 175)), (9, .int 1), (10, .int x10)] (by decide) [1, 2, 3, 4, 5, 6, 7, 8, 9, 0, 10] rfl ?_
              cases h
              exact K
            · have h := z_ie c14 h
              refine r_aload_n X 1 rfl dL_holds_621 622 rfl ?_
              refine r_aload_n X 2 rfl dL_holds_622 623 rfl ?_
              refine r_aload_n X 3 rfl dL_holds_623 624 rfl ?_
              refine r_aload X 4 rfl dL_holds_624 626 rfl ?_
              obtain ⟨x15, M16, e16, h⟩ := z_bd2 h
              refine r_callS (rest := []) X (tL_isTold hl G b 0 z_k0 169 rfl rfl 170 rfl 171 rfl rfl M12 e16) zy_L_isTold zs_L_isTold km_L_247 rfl ⟨rfl, rfl⟩ ⟨rfl, rfl⟩ rfl rfl (Nat.le_of_ble_eq_true rfl) hro dL_holds_626 629 rfl [.int x15] rfl ?_
              refine r_if_eq X dL_holds_629 636 (by decide) 632 rfl (fun c17 => ?_) (fun c17 => ?_)
              · have h := z_it c17 h
                refine r_iconst (v := 0) X rfl dL_holds_636 637 rfl ?_
                refine r_istore X dL_holds_637 639 rfl [(0, .ref sb), (1, .ref (b + 0)), (2, .ref (b + 169)), (3, .ref (b + 170)), (4, .ref (b + 171)), (5, .ref (b + 172)), (6, .ref (b + 173)), (7, .ref (b + 174)), (8, .ref (b + 175)), (9, .int 0), (10, .int x10)] (by decide) [1, 2, 3, 4, 5, 6, 7, 8, 9, 0, 10] rfl ?_
                cases h
              · have h := z_ie c17 h
                refine r_iconst (v := 1) X rfl dL_holds_632 633 rfl ?_
                refine r_goto X dL_holds_633 637 (by decide) ?_
                refine r_istore X dL_holds_637 639 rfl [(0, .ref sb), (1, .ref (b + 0)), (2, .ref (b + 169)), (3, .ref (b + 170)), (4, .ref (b + 171)), (5, .ref (b + 172)), (6, .ref (b + 173)), (7, .ref (b + 174)), (8, .ref (b + 175)), (9, .int 1), (10, .int x10)] (by decide) [1, 2, 3, 4, 5, 6, 7, 8, 9, 0, 10] rfl ?_
                cases h
                exact K
        have h := hT12
        refine r_icmp_ge X dL_holds_250 272 (by decide) 253 rfl (fun c10 => ?_) (fun c10 => ?_)
        · have h := z_it c10 h
          refine r_iload X 10 rfl dL_holds_272 274 rfl ?_
          refine r_bipush (v := 16) X rfl dL_holds_274 276 rfl ?_
          refine r_icmp_ge X dL_holds_276 301 (by decide) 279 rfl (fun c18 => ?_) (fun c18 => ?_)
          · have h := z_it c18 h
            refine r_sub [(0, .ref sb), (1, .ref (b + 0)), (2, .ref (b + 169)), (3, .ref (b + 170)), (4, .ref (b + 171)), (5, .ref (b + 172)), (6, .ref (b + 173)), (7, .ref (b + 174)), (8, .ref (b + 175)), (10, .int x10), (11, .int a1), (13, .int j3), (15, .int j9)] [0, 1, 2, 3, 4, 5, 6, 7, 8, 9, 10, 12, 14] rfl ?_
            exact tL_way X hl9 hro a1 j3 j9 M h hJ12
          · have h := z_ie c18 h
            refine r_iload X 13 rfl dL_holds_279 281 rfl ?_
            refine r_if_lt X dL_holds_281 301 (by decide) 284 rfl (fun c19 => ?_) (fun c19 => ?_)
            · have h := z_it c19 h
              refine r_sub [(0, .ref sb), (1, .ref (b + 0)), (2, .ref (b + 169)), (3, .ref (b + 170)), (4, .ref (b + 171)), (5, .ref (b + 172)), (6, .ref (b + 173)), (7, .ref (b + 174)), (8, .ref (b + 175)), (10, .int x10), (11, .int a1), (13, .int j3), (15, .int j9)] [0, 1, 2, 3, 4, 5, 6, 7, 8, 9, 10, 12, 14] rfl ?_
              exact tL_way X hl9 hro a1 j3 j9 M h hJ12
            · have h := z_ie c19 h
              refine r_aload_n X 1 rfl dL_holds_284 285 rfl ?_
              refine r_aload_n X 2 rfl dL_holds_285 286 rfl ?_
              refine r_aload_n X 3 rfl dL_holds_286 287 rfl ?_
              refine r_aload X 4 rfl dL_holds_287 289 rfl ?_
              refine r_iload X 10 rfl dL_holds_289 291 rfl ?_
              refine r_iload X 13 rfl dL_holds_291 293 rfl ?_
              obtain ⟨x20, M21, e21, h⟩ := z_bd2 h
              refine r_callSA (rest := []) X (tL_snapshots hl G b 0 z_k0 169 rfl rfl 170 rfl 171 rfl rfl a1 j6 M e21) zy_L_snapshots zs_L_snapshots km_L_229 rfl ⟨rfl, rfl⟩ rfl rfl (Nat.le_of_ble_eq_true rfl) hro dL_holds_293 296 rfl [.int x20] rfl ?_
              refine r_istore X dL_holds_296 298 rfl [(0, .ref sb), (1, .ref (b + 0)), (2, .ref (b + 169)), (3, .ref (b + 170)), (4, .ref (b + 171)), (5, .ref (b + 172)), (6, .ref (b + 173)), (7, .ref (b + 174)), (8, .ref (b + 175)), (9, .int x20), (10, .int x10)] (by decide) [1, 2, 3, 4, 5, 6, 7, 8, 9, 0, 10] rfl ?_
              refine r_goto X dL_holds_298 608 (by decide) ?_
              cases h
              exact hJ12
        · have h := z_ie c10 h
          refine r_aload_n X 1 rfl dL_holds_253 254 rfl ?_
          refine r_aload_n X 2 rfl dL_holds_254 255 rfl ?_
          refine r_aload_n X 3 rfl dL_holds_255 256 rfl ?_
          refine r_aload X 4 rfl dL_holds_256 258 rfl ?_
          refine r_iload X 10 rfl dL_holds_258 260 rfl ?_
          refine r_iload X 12 rfl dL_holds_260 262 rfl ?_
          refine r_iload X 11 rfl dL_holds_262 264 rfl ?_
          obtain ⟨x22, M23, e23, h⟩ := z_bd2 h
          refine r_callS (rest := []) X (tL_places hl G b 0 z_k0 169 rfl rfl 170 rfl 171 rfl rfl a1 j3 a2 M e23) zy_L_places zs_L_places km_L_225 rfl ⟨rfl, rfl⟩ ⟨rfl, rfl⟩ rfl rfl (Nat.le_of_ble_eq_true rfl) ⟨Nat.le_trans (Nat.le_add_right _ 1) hro.1, Nat.le_trans (Nat.le_add_right _ 6) hro.2⟩ dL_holds_264 267 rfl [.int x22] rfl ?_
          refine r_istore X dL_holds_267 269 rfl [(0, .ref sb), (1, .ref (b + 0)), (2, .ref (b + 169)), (3, .ref (b + 170)), (4, .ref (b + 171)), (5, .ref (b + 172)), (6, .ref (b + 173)), (7, .ref (b + 174)), (8, .ref (b + 175)), (9, .int x22), (10, .int x10)] (by decide) [1, 2, 3, 4, 5, 6, 7, 8, 9, 0, 10] rfl ?_
          refine r_goto X dL_holds_269 608 (by decide) ?_
          refine r_widen (cs + 1) (ss + 6) (Nat.le_add_right _ _) (Nat.le_add_right _ _) ?_
          cases h
          exact hJ12
      have h := hT9
      refine r_if_ne X dL_holds_200 207 (by decide) 203 rfl (fun c8 => ?_) (fun c8 => ?_)
      · have h := z_ie c8 h
        refine r_aload X 4 rfl dL_holds_207 209 rfl ?_
        refine r_bipush (v := 13) X rfl dL_holds_209 211 rfl ?_
        obtain ⟨x24, e24, h⟩ := z_bd h
        refine r_iaload X rfl rfl e24 dL_holds_211 212 rfl ?_
        refine r_if_ne X dL_holds_212 219 (by decide) 215 rfl (fun c25 => ?_) (fun c25 => ?_)
        · have h := z_ie c25 h
          refine r_aload X 4 rfl dL_holds_219 221 rfl ?_
          refine r_bipush (v := 14) X rfl dL_holds_221 223 rfl ?_
          obtain ⟨x26, e26, h⟩ := z_bd h
          refine r_iaload X rfl rfl e26 dL_holds_223 224 rfl ?_
          refine r_if_ne X dL_holds_224 231 (by decide) 227 rfl (fun c27 => ?_) (fun c27 => ?_)
          · have h := z_ie c27 h
            refine r_aload X 4 rfl dL_holds_231 233 rfl ?_
            refine r_bipush (v := 15) X rfl dL_holds_233 235 rfl ?_
            obtain ⟨x28, e28, h⟩ := z_bd h
            refine r_iaload X rfl rfl e28 dL_holds_235 236 rfl ?_
            refine r_if_ne X dL_holds_236 243 (by decide) 239 rfl (fun c29 => ?_) (fun c29 => ?_)
            · have h := z_ie c29 h
              refine r_iconst (v := (-1)) X rfl dL_holds_243 244 rfl ?_
              cases h
              exact hJ9
            · have h := z_it c29 h
              refine r_iconst (v := 3) X rfl dL_holds_239 240 rfl ?_
              refine r_goto X dL_holds_240 244 (by decide) ?_
              cases h
              exact hJ9
          · have h := z_it c27 h
            refine r_iconst (v := 2) X rfl dL_holds_227 228 rfl ?_
            refine r_goto X dL_holds_228 244 (by decide) ?_
            cases h
            exact hJ9
        · have h := z_it c25 h
          refine r_iconst (v := 1) X rfl dL_holds_215 216 rfl ?_
          refine r_goto X dL_holds_216 244 (by decide) ?_
          cases h
          exact hJ9
      · have h := z_it c8 h
        refine r_iconst (v := 0) X rfl dL_holds_203 204 rfl ?_
        refine r_goto X dL_holds_204 244 (by decide) ?_
        cases h
        exact hJ9
    have h := hT6
    refine r_if_le X dL_holds_182 192 (by decide) 185 rfl (fun c5 => ?_) (fun c5 => ?_)
    · have h := z_it c5 h
      refine r_iconst (v := (-1)) X rfl dL_holds_192 193 rfl ?_
      cases h
      exact hJ6
    · have h := z_ie c5 h
      refine r_iload X 11 rfl dL_holds_185 187 rfl ?_
      refine r_iconst (v := 4) X rfl dL_holds_187 188 rfl ?_
      refine r_irem X (by decide) dL_holds_188 189 rfl ?_
      refine r_goto X dL_holds_189 193 (by decide) ?_
      cases h
      exact hJ6
  have h := hT3
  refine r_icmp_ne X dL_holds_137 145 (by decide) 140 rfl (fun c2 => ?_) (fun c2 => ?_)
  · have h := z_ie c2 h
    refine r_aload X 4 rfl dL_holds_145 147 rfl ?_
    refine r_iconst (v := 4) X rfl dL_holds_147 148 rfl ?_
    obtain ⟨x30, e30, h⟩ := z_bd h
    refine r_iaload X rfl rfl e30 dL_holds_148 149 rfl ?_
    refine r_iconst (v := 1) X rfl dL_holds_149 150 rfl ?_
    refine r_icmp_ne X dL_holds_150 157 (by decide) 153 rfl (fun c31 => ?_) (fun c31 => ?_)
    · have h := z_ie c31 h
      refine r_aload X 4 rfl dL_holds_157 159 rfl ?_
      refine r_iconst (v := 5) X rfl dL_holds_159 160 rfl ?_
      obtain ⟨x32, e32, h⟩ := z_bd h
      refine r_iaload X rfl rfl e32 dL_holds_160 161 rfl ?_
      refine r_iconst (v := 1) X rfl dL_holds_161 162 rfl ?_
      refine r_icmp_ne X dL_holds_162 169 (by decide) 165 rfl (fun c33 => ?_) (fun c33 => ?_)
      · have h := z_ie c33 h
        refine r_iconst (v := 2) X rfl dL_holds_169 170 rfl ?_
        refine r_sub [(0, .ref sb), (1, .ref (b + 0)), (2, .ref (b + 169)), (3, .ref (b + 170)), (4, .ref (b + 171)), (5, .ref (b + 172)), (6, .ref (b + 173)), (7, .ref (b + 174)), (8, .ref (b + 175)), (10, .int x10), (11, .int a1), (12, .int a2)] [0, 1, 2, 3, 4, 5, 6, 7, 8, 9, 10, 11] rfl ?_
        cases h
        exact hJ3
      · have h := z_it c33 h
        refine r_iconst (v := 1) X rfl dL_holds_165 166 rfl ?_
        refine r_goto X dL_holds_166 170 (by decide) ?_
        refine r_sub [(0, .ref sb), (1, .ref (b + 0)), (2, .ref (b + 169)), (3, .ref (b + 170)), (4, .ref (b + 171)), (5, .ref (b + 172)), (6, .ref (b + 173)), (7, .ref (b + 174)), (8, .ref (b + 175)), (10, .int x10), (11, .int a1), (12, .int a2)] [0, 1, 2, 3, 4, 5, 6, 7, 8, 9, 10, 11] rfl ?_
        cases h
        exact hJ3
    · have h := z_it c31 h
      refine r_iconst (v := 0) X rfl dL_holds_153 154 rfl ?_
      refine r_goto X dL_holds_154 170 (by decide) ?_
      refine r_sub [(0, .ref sb), (1, .ref (b + 0)), (2, .ref (b + 169)), (3, .ref (b + 170)), (4, .ref (b + 171)), (5, .ref (b + 172)), (6, .ref (b + 173)), (7, .ref (b + 174)), (8, .ref (b + 175)), (10, .int x10), (11, .int a1), (12, .int a2)] [0, 1, 2, 3, 4, 5, 6, 7, 8, 9, 10, 11] rfl ?_
      cases h
      exact hJ3
  · have h := z_it c2 h
    refine r_iload X 12 rfl dL_holds_140 142 rfl ?_
    refine r_goto X dL_holds_142 170 (by decide) ?_
    refine r_sub [(0, .ref sb), (1, .ref (b + 0)), (2, .ref (b + 169)), (3, .ref (b + 170)), (4, .ref (b + 171)), (5, .ref (b + 172)), (6, .ref (b + 173)), (7, .ref (b + 174)), (8, .ref (b + 175)), (10, .int x10), (11, .int a1), (12, .int a2)] [0, 1, 2, 3, 4, 5, 6, 7, 8, 9, 10, 11] rfl ?_
    cases h
    exact hJ3
