/-! ===== the methods as functions of the memory, by program out of the listing ===== -/
def fX5_findDataset (t0 : Nat) (a1 : Int32) (M : zM) : Option (Option Nat) :=
  if a1 < 0 then (some none) else (if 6 ≤ a1 then (some none) else ((z_lq 11 (t0 + 1) 6 a1).bind fun x3 => if (M x3 1) = 0 then (some none) else ((z_lq 11 (t0 + 1) 6 a1).bind fun x5 => some (some x5))))
def fX6_datasetOrThrow (t0 : Nat) (a1 : Int32) (M : zM) : Option (String ⊕ Nat) :=
  (fX5_findDataset (t0 + 1) a1 M).bind fun o1 => z_oc o1 (some (.inl "java/lang/IndexOutOfBoundsException")) (fun x2 => z_gd x2 0 (some (.inr x2)))
def fX6_placeOrThrow (a0 : Int32) (a1 : Int32) (M : zM) : Option (String ⊕ Int32) :=
  if a0 < 0 then (some (.inl "java/lang/IndexOutOfBoundsException")) else (if a0 < 8 then (if a1 < 0 then (some (.inl "java/lang/IndexOutOfBoundsException")) else (if a1 < 16 then (some (.inr ((a0 * 16) + a1))) else (some (.inl "java/lang/IndexOutOfBoundsException")))) else (some (.inl "java/lang/IndexOutOfBoundsException")))
def fX4_blockOf (t0 : Nat) (a1 : Int32) (M : zM) : Option Int32 :=
  if a1 < 0 then (some (-1)) else (if 128 ≤ a1 then (some (-1)) else ((z_ld M (t0 + 1) 128 a1).bind fun x3 => some x3))
def fX3_isBlock (a0 : Int32) (M : zM) : Option Int32 :=
  if a0 < 0 then (some 0) else (if 128 ≤ a0 then (some 0) else (some 1))
def fX3_isAllocated (t0 : Nat) (a1 : Int32) (M : zM) : Option Int32 :=
  (fX3_isBlock a1 M).bind fun x1 => if x1 = 0 then (some 0) else ((z_ld M (t0 + 1) 128 a1).bind fun x3 => if x3 = 1 then (some 1) else (some 0))
def fX3_bornIn (t0 : Nat) (a1 : Int32) (a2 : Int32) (M : zM) : Option Int32 :=
  (fX3_isAllocated t0 a1 M).bind fun x1 => if x1 = 0 then (some 0) else ((z_ld M (t0 + 3) 128 a1).bind fun x3 => if x3 = a2 then (some 1) else (some 0))
def fX3_usesOf (t0 : Nat) (a1 : Int32) (M : zM) : Option Int32 :=
  (fX3_isBlock a1 M).bind fun x1 => if x1 = 0 then (some 0) else ((z_ld M (t0 + 4) 128 a1).bind fun x3 => some x3)
def fX3_setValue (t0 : Nat) (a1 : Int32) (a2 : Int32) (M : zM) : Option zM :=
  (fX3_isBlock a1 M).bind fun x1 => if x1 = 0 then (some M) else ((z_sa M (t0 + 2) 128 a1 a2).bind fun M3 => some M3)
def fX3_count_L1 (t0 : Nat) (a1 : Int32) (a3 : Int32) (M : zM) (x1 : Int32) (x2 : Int32) : Option ((Int32 × Int32) ⊕ Int32) :=
  if a3 ≤ x2 then (some (.inr x1)) else ((fX3_isBlock x2 M).bind fun x6 => if x6 = 0 then (some (.inl (x1, (x2 + 1)))) else ((z_ld M (t0 + 1) 128 x2).bind fun x8 => if x8 = a1 then (some (.inl ((x1 + 1), (x2 + 1)))) else (some (.inl (x1, (x2 + 1))))))
def fX3_count (t0 : Nat) (a1 : Int32) (a2 : Int32) (a3 : Int32) (M : zM) : Option Int32 :=
  (z_loop (fun (s : (Int32 × Int32)) => fX3_count_L1 t0 a1 a3 M s.1 s.2) z_FU (0, a2)).bind fun x3 => some x3
def fX3_freeInRegion (t0 : Nat) (a1 : Int32) (M : zM) : Option Int32 :=
  (fX3_count t0 0 (a1 * 32) ((a1 * 32) + 32) M).bind fun x1 => some x1
def fX3_emptiestRegion_L1 (t0 : Nat) (M : zM) (x1 : Int32) (x2 : Int32) (x3 : Int32) : Option ((Int32 × Int32 × Int32) ⊕ Int32) :=
  if 4 ≤ x3 then (some (.inr x1)) else ((fX3_freeInRegion t0 x3 M).bind fun x7 => if x7 ≤ x2 then (some (.inl (x1, x2, (x3 + 1)))) else (some (.inl (x3, x7, (x3 + 1)))))
def fX3_emptiestRegion (t0 : Nat) (M : zM) : Option Int32 :=
  (z_loop (fun (s : (Int32 × Int32 × Int32)) => fX3_emptiestRegion_L1 t0 M s.1 s.2.1 s.2.2) z_FU (0, (-1), 0)).bind fun x4 => some x4
def fX3_nextFreeBlock_L1 (t0 : Nat) (M : zM) (x1 : Int32) (x2 : Int32) : Option (Int32 ⊕ (Unit ⊕ Int32)) :=
  if ((x1 * 32) + 32) ≤ x2 then (some (.inr (.inl ()))) else ((fX3_isBlock x2 M).bind fun x5 => if x5 = 0 then (some (.inl (x2 + 1))) else ((z_ld M (t0 + 1) 128 x2).bind fun x7 => if x7 = 0 then (some (.inr (.inr x2))) else (some (.inl (x2 + 1)))))
def fX3_nextFreeBlock (t0 : Nat) (M : zM) : Option Int32 :=
  (fX3_emptiestRegion t0 M).bind fun x1 => (z_loop (fun (s : Int32) => fX3_nextFreeBlock_L1 t0 M x1 s) z_FU (x1 * 32)).bind fun z3 => z_sc z3 (fun _ => some (-1)) (fun u9 => some u9)
def fX3_allocate (t0 : Nat) (a1 : Int32) (a2 : Int32) (a3 : Int32) (M : zM) : Option zM :=
  (fX3_isBlock a1 M).bind fun x1 => if x1 = 0 then (some M) else ((z_sa M (t0 + 1) 128 a1 1).bind fun M3 => (z_sa M3 (t0 + 2) 128 a1 a2).bind fun M4 => (z_sa M4 (t0 + 3) 128 a1 a3).bind fun M5 => some M5)
def fX3_removeUse (t0 : Nat) (a1 : Int32) (M : zM) : Option zM :=
  (fX3_isBlock a1 M).bind fun x1 => if x1 = 0 then (some M) else ((z_ld M (t0 + 4) 128 a1).bind fun x3 => (z_sa M (t0 + 4) 128 a1 (x3 - 1)).bind fun M4 => some M4)
def fX3_addUse (t0 : Nat) (a1 : Int32) (M : zM) : Option zM :=
  (fX3_isBlock a1 M).bind fun x1 => if x1 = 0 then (some M) else ((z_ld M (t0 + 4) 128 a1).bind fun x3 => (z_sa M (t0 + 4) 128 a1 (x3 + 1)).bind fun M4 => some M4)
def fX4_set (t0 : Nat) (a1 : Int32) (a2 : Int32) (M : zM) : Option zM :=
  if a1 < 0 then (some M) else (if 128 ≤ a1 then (some M) else ((z_sa M (t0 + 1) 128 a1 a2).bind fun M3 => some M3))
def fX5_put (t0 : Nat) (a1 : Nat) (a2 : Int32) (a3 : Int32) (M : zM) : Option zM :=
  (fX4_blockOf a1 a2 M).bind fun x1 => (fX3_removeUse (t0 + 3) x1 M).bind fun M2 => (fX3_addUse (t0 + 3) a3 M2).bind fun M3 => (fX4_set a1 a2 a3 M3).bind fun M4 => some M4
def fX3_retireUnused_L1 (t0 : Nat) (a1 : Int32) (x1 : Int32) (x2 : Int32) (M3 : zM) : Option ((Int32 × Int32 × zM) ⊕ (Int32 × zM)) :=
  if 128 ≤ x2 then (some (.inr (x1, M3))) else ((z_ld M3 (t0 + 1) 128 x2).bind fun x8 => if x8 = 1 then ((z_ld M3 (t0 + 4) 128 x2).bind fun x10 => if x10 = 0 then ((z_ld M3 (t0 + 3) 128 x2).bind fun x12 => if x12 = a1 then ((z_sa M3 (t0 + 1) 128 x2 0).bind fun M14 => some (.inl ((x1 + 1), (x2 + 1), M14))) else ((z_sa M3 (t0 + 1) 128 x2 2).bind fun M15 => some (.inl ((x1 + 1), (x2 + 1), M15)))) else (some (.inl (x1, (x2 + 1), M3)))) else (some (.inl (x1, (x2 + 1), M3))))
def fX3_retireUnused (t0 : Nat) (a1 : Int32) (M : zM) : Option (Int32 × zM) :=
  z_b2 (z_loop (fun (s : (Int32 × Int32 × zM)) => fX3_retireUnused_L1 t0 a1 s.1 s.2.1 s.2.2) z_FU (0, 0, M)) fun x4 M5 => some (x4, M5)
def fX5_settle (t0 : Nat) (M : zM) : Option (Int32 × zM) :=
  z_b2 (fX3_retireUnused (t0 + 3) (M t0 4) M) fun x1 M2 => some (x1, M2)
def fX6_write (t0 : Nat) (a1 : Int32) (a2 : Int32) (a3 : Int32) (a4 : Int32) (M : zM) : Option ((String ⊕ Int32) × zM) :=
  (fX6_datasetOrThrow t0 a1 M).bind fun o1 => z_ox o1 (fun E9 => some (.inl E9, M)) (fun x2 => z_gd x2 0 ((fX6_placeOrThrow a2 a3 M).bind fun o3 => z_ox o3 (fun E9 => some (.inl E9, M)) (fun x4 => (fX4_blockOf (x2 + 1) x4 M).bind fun x5 => (fX3_bornIn ((t0 + 1) + 3) x5 (M (t0 + 1) 4) M).bind fun x6 => if x6 = 0 then ((fX3_nextFreeBlock ((t0 + 1) + 3) M).bind fun x8 => if x8 = (-1) then (some (.inl "java/lang/IllegalStateException", M)) else ((fX3_allocate ((t0 + 1) + 3) x8 a4 (M (t0 + 1) 4) M).bind fun M10 => (fX5_put (t0 + 1) (x2 + 1) x4 x8 M10).bind fun M11 => z_b2 (fX5_settle (t0 + 1) M11) fun x12 M13 => some ((.inr x8), M13))) else ((fX3_usesOf ((t0 + 1) + 3) x5 M).bind fun x14 => if x14 = 1 then ((fX3_setValue ((t0 + 1) + 3) x5 a4 M).bind fun M16 => some ((.inr x5), M16)) else ((fX3_nextFreeBlock ((t0 + 1) + 3) M).bind fun x17 => if x17 = (-1) then (some (.inl "java/lang/IllegalStateException", M)) else ((fX3_allocate ((t0 + 1) + 3) x17 a4 (M (t0 + 1) 4) M).bind fun M19 => (fX5_put (t0 + 1) (x2 + 1) x4 x17 M19).bind fun M20 => z_b2 (fX5_settle (t0 + 1) M20) fun x21 M22 => some ((.inr x17), M22)))))))
def fX3_valueOf (t0 : Nat) (a1 : Int32) (M : zM) : Option Int32 :=
  (fX3_isBlock a1 M).bind fun x1 => if x1 = 0 then (some 0) else ((z_ld M (t0 + 2) 128 a1).bind fun x3 => some x3)
def fX6_read (t0 : Nat) (a1 : Int32) (a2 : Int32) (a3 : Int32) (M : zM) : Option (String ⊕ Int32) :=
  (fX6_datasetOrThrow t0 a1 M).bind fun o1 => z_ox o1 (fun E9 => some (.inl E9)) (fun x2 => z_gd x2 0 ((fX6_placeOrThrow a2 a3 M).bind fun o3 => z_ox o3 (fun E9 => some (.inl E9)) (fun x4 => (fX4_blockOf (x2 + 1) x4 M).bind fun x5 => (fX3_valueOf ((t0 + 1) + 3) x5 M).bind fun x6 => some (.inr x6))))
def fX6_blockAt (t0 : Nat) (a1 : Int32) (a2 : Int32) (a3 : Int32) (M : zM) : Option (String ⊕ Int32) :=
  (fX6_datasetOrThrow t0 a1 M).bind fun o1 => z_ox o1 (fun E9 => some (.inl E9)) (fun x2 => z_gd x2 0 ((fX6_placeOrThrow a2 a3 M).bind fun o3 => z_ox o3 (fun E9 => some (.inl E9)) (fun x4 => (fX4_blockOf (x2 + 1) x4 M).bind fun x5 => some (.inr x5))))
def fX6_length_L1 (M : zM) (x2 : Nat) (x4 : Int32) (x5 : Int32) (x6 : Int32) : Option ((Int32 × Int32) ⊕ Int32) :=
  if 16 ≤ x6 then (some (.inr x5)) else ((fX4_blockOf (x2 + 1) (x4 + x6) M).bind fun x10 => if x10 = (-1) then (some (.inl (x5, (x6 + 1)))) else (some (.inl ((x6 + 1), (x6 + 1)))))
def fX6_length (t0 : Nat) (a1 : Int32) (a2 : Int32) (M : zM) : Option (String ⊕ Int32) :=
  (fX6_datasetOrThrow t0 a1 M).bind fun o1 => z_ox o1 (fun E9 => some (.inl E9)) (fun x2 => z_gd x2 0 ((fX6_placeOrThrow a2 0 M).bind fun o3 => z_ox o3 (fun E9 => some (.inl E9)) (fun x4 => (z_loop (fun (s : (Int32 × Int32)) => fX6_length_L1 M x2 x4 s.1 s.2) z_FU (0, 0)).bind fun x7 => some (.inr x7))))
def fX6_fits (a0 : Int32) (a1 : Int32) (M : zM) : Option Int32 :=
  if a1 < 1 then (some 0) else (if (16 - a0) < a1 then (some 0) else (some 1))
def fX6_punch_L1 (t0 : Nat) (a4 : Int32) (x2 : Nat) (x4 : Int32) (x7 : Int32) (x8 : Int32) (M9 : zM) : Option ((Int32 × Int32 × zM) ⊕ (Int32 × zM)) :=
  if a4 ≤ x8 then (some (.inr (x7, M9))) else ((fX4_blockOf (x2 + 1) (x4 + x8) M9).bind fun x16 => if x16 = (-1) then (some (.inl (x7, (x8 + 1), M9))) else ((fX5_put (t0 + 1) (x2 + 1) (x4 + x8) (-1) M9).bind fun M18 => some (.inl ((x7 + 1), (x8 + 1), M18))))
def fX6_punch (t0 : Nat) (a1 : Int32) (a2 : Int32) (a3 : Int32) (a4 : Int32) (M : zM) : Option ((String ⊕ Int32) × zM) :=
  (fX6_datasetOrThrow t0 a1 M).bind fun o1 => z_ox o1 (fun E9 => some (.inl E9, M)) (fun x2 => z_gd x2 0 ((fX6_placeOrThrow a2 a3 M).bind fun o3 => z_ox o3 (fun E9 => some (.inl E9, M)) (fun x4 => (fX6_fits a3 a4 M).bind fun x5 => if x5 = 0 then (some (.inl "java/lang/IllegalArgumentException", M)) else (z_b2 (z_loop (fun (s : (Int32 × Int32 × zM)) => fX6_punch_L1 t0 a4 x2 x4 s.1 s.2.1 s.2.2) z_FU (0, 0, M)) fun x10 M11 => z_b2 (fX5_settle (t0 + 1) M11) fun x13 M14 => some ((.inr x10), M14)))))
def fX6_take_L1 (t0 : Nat) (a1 : Nat) (a2 : Int32) (a3 : Int32) (x1 : Int32) (M2 : zM) : Option ((Int32 × zM) ⊕ zM) :=
  if a3 ≤ x1 then (some (.inr M2)) else (if 16 ≤ x1 then (some (.inr M2)) else ((fX4_blockOf a1 (a2 + x1) M2).bind fun x7 => (z_sa M2 (t0 + 167) 16 x1 x7).bind fun M8 => some (.inl ((x1 + 1), M8))))
def fX6_take (t0 : Nat) (a1 : Nat) (a2 : Int32) (a3 : Int32) (M : zM) : Option zM :=
  (z_loop (fun (s : (Int32 × zM)) => fX6_take_L1 t0 a1 a2 a3 s.1 s.2) z_FU (0, M)).bind fun M3 => some M3
def fX6_reflink_L1 (t0 : Nat) (a6 : Int32) (x2 : Nat) (x6 : Int32) (x12 : Int32) (x13 : Int32) (M14 : zM) : Option ((Int32 × Int32 × zM) ⊕ (Int32 × zM)) :=
  if a6 ≤ x13 then (some (.inr (x12, M14))) else (if 16 ≤ x13 then (some (.inr (x12, M14))) else ((fX4_blockOf (x2 + 1) (x6 + x13) M14).bind fun x22 => (z_ld M14 (t0 + 167) 16 x13).bind fun x23 => if x22 = x23 then (some (.inl (x12, (x13 + 1), M14))) else ((z_ld M14 (t0 + 167) 16 x13).bind fun x25 => (fX5_put (t0 + 1) (x2 + 1) (x6 + x13) x25 M14).bind fun M26 => some (.inl ((x12 + 1), (x13 + 1), M26)))))
def fX6_reflink (t0 : Nat) (a1 : Int32) (a2 : Int32) (a3 : Int32) (a4 : Int32) (a5 : Int32) (a6 : Int32) (M : zM) : Option ((String ⊕ Int32) × zM) :=
  (fX6_datasetOrThrow t0 a1 M).bind fun o1 => z_ox o1 (fun E9 => some (.inl E9, M)) (fun x2 => z_gd x2 0 ((fX6_placeOrThrow a2 a3 M).bind fun o3 => z_ox o3 (fun E9 => some (.inl E9, M)) (fun x4 => (fX6_placeOrThrow a4 a5 M).bind fun o5 => z_ox o5 (fun E9 => some (.inl E9, M)) (fun x6 => (fX6_fits a3 a6 M).bind fun x7 => if x7 = 0 then (some (.inl "java/lang/IllegalArgumentException", M)) else ((fX6_fits a5 a6 M).bind fun x9 => if x9 = 0 then (some (.inl "java/lang/IllegalArgumentException", M)) else ((fX6_take t0 (x2 + 1) x4 a6 M).bind fun M11 => z_b2 (z_loop (fun (s : (Int32 × Int32 × zM)) => fX6_reflink_L1 t0 a6 x2 x6 s.1 s.2.1 s.2.2) z_FU (0, 0, M11)) fun x15 M16 => z_b2 (fX5_settle (t0 + 1) M16) fun x18 M19 => some ((.inr x15), M19)))))))
def fX3_releasePending_L1 (t0 : Nat) (x1 : Int32) (M2 : zM) : Option ((Int32 × zM) ⊕ zM) :=
  if 128 ≤ x1 then (some (.inr M2)) else ((z_ld M2 (t0 + 1) 128 x1).bind fun x6 => if x6 = 2 then ((z_sa M2 (t0 + 1) 128 x1 0).bind fun M8 => some (.inl ((x1 + 1), M8))) else (some (.inl ((x1 + 1), M2))))
def fX3_releasePending (t0 : Nat) (M : zM) : Option zM :=
  (z_loop (fun (s : (Int32 × zM)) => fX3_releasePending_L1 t0 s.1 s.2) z_FU (0, M)).bind fun M3 => some M3
def fX1_markChanges_L1 (t0 : Nat) (a1 : Nat) (a2 : Nat) (x1 : Int32) (M2 : zM) : Option ((Int32 × zM) ⊕ zM) :=
  if 32 ≤ x1 then (some (.inr M2)) else ((fX3_isAllocated a1 ((M2 t0 0) + x1) M2).bind fun x6 => if x6 = 0 then ((z_sb M2 (t0 + 4) 32 x1 0).bind fun M8 => some (.inl ((x1 + 1), M8))) else ((fX3_isAllocated a2 ((M2 t0 0) + x1) M2).bind fun x9 => if x9 = 0 then ((z_sb M2 (t0 + 4) 32 x1 1).bind fun M11 => some (.inl ((x1 + 1), M11))) else ((z_sb M2 (t0 + 4) 32 x1 0).bind fun M12 => some (.inl ((x1 + 1), M12)))))
def fX1_markChanges (t0 : Nat) (a1 : Nat) (a2 : Nat) (M : zM) : Option zM :=
  (z_loop (fun (s : (Int32 × zM)) => fX1_markChanges_L1 t0 a1 a2 s.1 s.2) z_FU (0, M)).bind fun M3 => some M3
def fX1_isEntry (a0 : Int32) (M : zM) : Option Int32 :=
  if a0 < 0 then (some 0) else (if 66 ≤ a0 then (some 0) else (some 1))
def fX1_append (t0 : Nat) (a1 : Int32) (a2 : Int32) (a3 : Int32) (M : zM) : Option zM :=
  if a2 ≤ 0 then (some M) else ((fX1_isEntry (M t0 4) M).bind fun x2 => if x2 = 0 then (some M) else ((z_sa M (t0 + 1) 66 (M t0 4) a1).bind fun M4 => (z_sa M4 (t0 + 2) 66 (M4 t0 4) a2).bind fun M5 => (z_sb M5 (t0 + 3) 66 (M5 t0 4) a3).bind fun M6 => (some (z_st M6 t0 4 ((M6 t0 4) + 1))).bind fun M7 => some M7))
def fX1_appendMarkedRuns_L1 (t0 : Nat) (a1 : Int32) (x1 : Int32) (x2 : Int32) (M3 : zM) : Option ((Int32 × Int32 × zM) ⊕ (Int32 × zM)) :=
  if 32 ≤ x2 then (some (.inr (x1, M3))) else ((z_ld M3 (t0 + 4) 32 x2).bind fun x9 => if x9 = 0 then ((fX1_append t0 (((M3 t0 0) + x2) - x1) x1 a1 M3).bind fun M11 => some (.inl (0, (x2 + 1), M11))) else (some (.inl ((x1 + 1), (x2 + 1), M3))))
def fX1_appendMarkedRuns (t0 : Nat) (a1 : Int32) (M : zM) : Option zM :=
  z_b2 (z_loop (fun (s : (Int32 × Int32 × zM)) => fX1_appendMarkedRuns_L1 t0 a1 s.1 s.2.1 s.2.2) z_FU (0, 0, M)) fun x4 M5 => (fX1_append t0 (((M5 t0 0) + 32) - x4) x4 a1 M5).bind fun M7 => some M7
def fX1_markAllocated_L1 (t0 : Nat) (a1 : Nat) (x1 : Int32) (M2 : zM) : Option ((Int32 × zM) ⊕ zM) :=
  if 32 ≤ x1 then (some (.inr M2)) else ((fX3_isAllocated a1 ((M2 t0 0) + x1) M2).bind fun x6 => (z_sb M2 (t0 + 4) 32 x1 x6).bind fun M7 => some (.inl ((x1 + 1), M7)))
def fX1_markAllocated (t0 : Nat) (a1 : Nat) (M : zM) : Option zM :=
  (z_loop (fun (s : (Int32 × zM)) => fX1_markAllocated_L1 t0 a1 s.1 s.2) z_FU (0, M)).bind fun M3 => some M3
def fX1_countMarkedRuns_L1 (t0 : Nat) (M : zM) (x1 : Int32) (x2 : Int32) : Option ((Int32 × Int32) ⊕ Int32) :=
  if 32 ≤ x2 then (some (.inr x1)) else ((z_ld M (t0 + 4) 32 x2).bind fun x6 => if x6 = 0 then (some (.inl (x1, (x2 + 1)))) else (if x2 = 0 then (some (.inl ((x1 + 1), (x2 + 1)))) else ((z_ld M (t0 + 4) 32 (x2 - 1)).bind fun x9 => if x9 = 0 then (some (.inl ((x1 + 1), (x2 + 1)))) else (some (.inl (x1, (x2 + 1)))))))
def fX1_countMarkedRuns (t0 : Nat) (M : zM) : Option Int32 :=
  (z_loop (fun (s : (Int32 × Int32)) => fX1_countMarkedRuns_L1 t0 M s.1 s.2) z_FU (0, 0)).bind fun x3 => some x3
def fX1_record (t0 : Nat) (a1 : Nat) (a2 : Nat) (M : zM) : Option (Int32 × zM) :=
  (fX1_markChanges t0 a1 a2 M).bind fun M1 => (fX1_appendMarkedRuns t0 1 M1).bind fun M2 => (fX1_markChanges t0 a2 a1 M2).bind fun M3 => (fX1_appendMarkedRuns t0 0 M3).bind fun M4 => (fX1_markAllocated t0 a1 M4).bind fun M5 => (fX1_countMarkedRuns t0 M5).bind fun x6 => if ((2 * x6) + 2) < (M5 t0 4) then ((some (z_st M5 t0 4 0)).bind fun M8 => (fX1_appendMarkedRuns t0 1 M8).bind fun M9 => some (1, M9)) else (some (0, M5))
def fX4_copyFrom (t0 : Nat) (a1 : Nat) (M : zM) : Option zM :=
  (some (z_cpy M (a1 + 1) (t0 + 1) 128)).bind fun M1 => some M1
def fX0_copyFrom (t0 : Nat) (a1 : Nat) (M : zM) : Option zM :=
  (fX4_copyFrom (t0 + 1) (a1 + 1) M).bind fun M1 => (z_pz M1 t0 1 (M1 a1 1)).bind fun M2 => (some (z_st M2 t0 2 (M2 a1 2))).bind fun M3 => some M3
def fX2_copyFrom (t0 : Nat) (a1 : Nat) (M : zM) : Option zM :=
  (fX4_copyFrom (t0 + 1) (a1 + 1) M).bind fun M1 => (z_pz M1 t0 1 (M1 a1 1)).bind fun M2 => (some (z_st M2 t0 2 (M2 a1 2))).bind fun M3 => (some (z_st M3 t0 3 (M3 a1 3))).bind fun M4 => (some (z_st M4 t0 4 (M4 a1 4))).bind fun M5 => (some (z_st M5 t0 5 (M5 a1 5))).bind fun M6 => some M6
def fX3_copyFrom (t0 : Nat) (a1 : Nat) (M : zM) : Option zM :=
  (some (z_cpy M (a1 + 1) (t0 + 1) 128)).bind fun M1 => (some (z_cpy M1 (a1 + 2) (t0 + 2) 128)).bind fun M2 => (some (z_cpy M2 (a1 + 3) (t0 + 3) 128)).bind fun M3 => (some (z_cpy M3 (a1 + 4) (t0 + 4) 128)).bind fun M4 => some M4
def fX1_copyFrom_L1 (t0 : Nat) (a1 : Nat) (x2 : Int32) (M3 : zM) : Option ((Int32 × zM) ⊕ zM) :=
  if (M3 t0 4) ≤ x2 then (some (.inr M3)) else (if 66 ≤ x2 then (some (.inr M3)) else ((z_ld M3 (a1 + 1) 66 x2).bind fun x8 => (z_sa M3 (t0 + 1) 66 x2 x8).bind fun M9 => (z_ld M9 (a1 + 2) 66 x2).bind fun x10 => (z_sa M9 (t0 + 2) 66 x2 x10).bind fun M11 => (z_ld M11 (a1 + 3) 66 x2).bind fun x12 => (z_sb M11 (t0 + 3) 66 x2 x12).bind fun M13 => some (.inl ((x2 + 1), M13))))
def fX1_copyFrom (t0 : Nat) (a1 : Nat) (M : zM) : Option zM :=
  (some (z_st M t0 4 (M a1 4))).bind fun M1 => (z_loop (fun (s : (Int32 × zM)) => fX1_copyFrom_L1 t0 a1 s.1 s.2) z_FU (0, M1)).bind fun M4 => some M4
def fX5_copyFrom_L3 (t0 : Nat) (a1 : Nat) (x10 : Int32) (M11 : zM) : Option ((Int32 × zM) ⊕ zM) :=
  if 4 ≤ x10 then (some (.inr M11)) else ((z_lq 13 (t0 + 8) 4 x10).bind fun x18 => (z_lq 13 (a1 + 8) 4 x10).bind fun x19 => (fX1_copyFrom x18 x19 M11).bind fun M20 => some (.inl ((x10 + 1), M20)))
def fX5_copyFrom_L2 (t0 : Nat) (a1 : Nat) (x5 : Int32) (M6 : zM) : Option ((Int32 × zM) ⊕ zM) :=
  if 12 ≤ x5 then (some (.inr M6)) else ((z_lq 12 (t0 + 2) 12 x5).bind fun x22 => (z_lq 12 (a1 + 2) 12 x5).bind fun x23 => (fX2_copyFrom x22 x23 M6).bind fun M24 => some (.inl ((x5 + 1), M24)))
def fX5_copyFrom_L1 (t0 : Nat) (a1 : Nat) (x1 : Int32) (M2 : zM) : Option ((Int32 × zM) ⊕ zM) :=
  if 6 ≤ x1 then (some (.inr M2)) else ((z_lq 11 (t0 + 1) 6 x1).bind fun x26 => (z_lq 11 (a1 + 1) 6 x1).bind fun x27 => (fX0_copyFrom x26 x27 M2).bind fun M28 => some (.inl ((x1 + 1), M28)))
def fX5_copyFrom (t0 : Nat) (a1 : Nat) (M : zM) : Option zM :=
  (z_loop (fun (s : (Int32 × zM)) => fX5_copyFrom_L1 t0 a1 s.1 s.2) z_FU (0, M)).bind fun M3 => (z_loop (fun (s : (Int32 × zM)) => fX5_copyFrom_L2 t0 a1 s.1 s.2) z_FU (0, M3)).bind fun M7 => (fX3_copyFrom (t0 + 3) (a1 + 3) M7).bind fun M9 => (z_loop (fun (s : (Int32 × zM)) => fX5_copyFrom_L3 t0 a1 s.1 s.2) z_FU (0, M9)).bind fun M12 => (some (z_st M12 t0 4 (M12 a1 4))).bind fun M14 => (some (z_st M14 t0 5 (M14 a1 5))).bind fun M15 => (some (z_st M15 t0 6 (M15 a1 6))).bind fun M16 => some M16
def fX6_closeTransaction_L1 (t0 : Nat) (x2 : Int32) (M3 : zM) : Option ((Int32 × zM) ⊕ zM) :=
  if 4 ≤ x2 then (some (.inr M3)) else ((z_lq 13 ((t0 + 1) + 8) 4 x2).bind fun x9 => z_b2 (fX1_record x9 ((t0 + 1) + 3) ((t0 + 84) + 3) M3) fun x10 M11 => if x10 = 0 then (some (.inl ((x2 + 1), M11))) else ((some (z_st M11 (t0 + 1) 6 ((M11 (t0 + 1) 6) + 1))).bind fun M13 => some (.inl ((x2 + 1), M13))))
def fX6_closeTransaction (t0 : Nat) (M : zM) : Option (Int32 × zM) :=
  (fX3_releasePending ((t0 + 1) + 3) M).bind fun M1 => (z_loop (fun (s : (Int32 × zM)) => fX6_closeTransaction_L1 t0 s.1 s.2) z_FU (0, M1)).bind fun M4 => (some (z_st M4 (t0 + 1) 4 ((M (t0 + 1) 4) + 1))).bind fun M6 => (fX5_copyFrom (t0 + 84) (t0 + 1) M6).bind fun M7 => some ((M (t0 + 1) 4), M7)
def fX6_commit (t0 : Nat) (M : zM) : Option (Int32 × zM) :=
  z_b2 (fX6_closeTransaction t0 M) fun x1 M2 => some (x1, M2)
def fX6_crash (t0 : Nat) (M : zM) : Option (Int32 × zM) :=
  (fX5_copyFrom (t0 + 1) (t0 + 84) M).bind fun M1 => some ((M1 (t0 + 1) 4), M1)
def fX6_transaction (t0 : Nat) (M : zM) : Option Int32 :=
  some (M (t0 + 1) 4)
def fX5_unusedSnapshot_L1 (t0 : Nat) (M : zM) (x1 : Int32) : Option (Int32 ⊕ (Unit ⊕ Option Nat)) :=
  if 12 ≤ x1 then (some (.inr (.inl ()))) else ((z_lq 12 (t0 + 2) 12 x1).bind fun x4 => if (M x4 1) = 0 then ((z_lq 12 (t0 + 2) 12 x1).bind fun x6 => some (.inr (.inr (some x6)))) else (some (.inl (x1 + 1))))
def fX5_unusedSnapshot (t0 : Nat) (M : zM) : Option (Option Nat) :=
  (z_loop (fun (s : Int32) => fX5_unusedSnapshot_L1 t0 M s) z_FU 0).bind fun z2 => z_sc z2 (fun _ => some none) (fun u9 => some u9)
def fX2_belongsTo (t0 : Nat) (a1 : Int32) (M : zM) : Option Int32 :=
  if (M t0 1) = 0 then (some 0) else (if (M t0 3) = a1 then (some 1) else (some 0))
def fX5_snapshotsOf_L1 (t0 : Nat) (a1 : Int32) (M : zM) (x1 : Int32) (x2 : Int32) : Option ((Int32 × Int32) ⊕ Int32) :=
  if 12 ≤ x2 then (some (.inr x1)) else ((z_lq 12 (t0 + 2) 12 x2).bind fun x6 => (fX2_belongsTo x6 a1 M).bind fun x7 => if x7 = 0 then (some (.inl (x1, (x2 + 1)))) else (some (.inl ((x1 + 1), (x2 + 1)))))
def fX5_snapshotsOf (t0 : Nat) (a1 : Int32) (M : zM) : Option Int32 :=
  (z_loop (fun (s : (Int32 × Int32)) => fX5_snapshotsOf_L1 t0 a1 M s.1 s.2) z_FU (0, 0)).bind fun x3 => some x3
def fX5_fill_L1 (t0 : Nat) (a1 : Nat) (a2 : Nat) (x1 : Int32) (M2 : zM) : Option ((Int32 × zM) ⊕ zM) :=
  if 128 ≤ x1 then (some (.inr M2)) else ((fX4_blockOf a2 x1 M2).bind fun x6 => (fX5_put t0 a1 x1 x6 M2).bind fun M7 => some (.inl ((x1 + 1), M7)))
def fX5_fill (t0 : Nat) (a1 : Nat) (a2 : Nat) (M : zM) : Option zM :=
  (z_loop (fun (s : (Int32 × zM)) => fX5_fill_L1 t0 a1 a2 s.1 s.2) z_FU (0, M)).bind fun M3 => some M3
def fX5_take (t0 : Nat) (a1 : Nat) (a2 : Nat) (a3 : Int32) (M : zM) : Option zM :=
  (fX5_snapshotsOf t0 a3 M).bind fun x1 => (some (z_st M a1 4 x1)).bind fun M2 => (some (z_st M2 a1 3 a3)).bind fun M3 => (some (z_st M3 a1 2 (M3 t0 5))).bind fun M4 => (some (z_st M4 a1 5 (M4 t0 4))).bind fun M5 => (z_pz M5 a1 1 1).bind fun M6 => (fX5_fill t0 (a1 + 1) (a2 + 1) M6).bind fun M7 => (some (z_st M7 t0 5 ((M7 t0 5) + 1))).bind fun M8 => some M8
def fX6_snapshot (t0 : Nat) (a1 : Int32) (M : zM) : Option ((String ⊕ Int32) × zM) :=
  (fX6_datasetOrThrow t0 a1 M).bind fun o1 => z_ox o1 (fun E9 => some (.inl E9, M)) (fun x2 => z_gd x2 0 ((fX5_unusedSnapshot (t0 + 1) M).bind fun o3 => z_oc o3 (some (.inl "java/lang/IllegalStateException", M)) (fun x4 => z_gd x4 2 ((fX5_take (t0 + 1) x4 x2 a1 M).bind fun M5 => z_b2 (fX6_closeTransaction t0 M5) fun x6 M7 => some ((.inr (M7 x4 2)), M7)))))
def fX5_findSnapshot_L1 (t0 : Nat) (a1 : Int32) (M : zM) (x1 : Int32) : Option (Int32 ⊕ (Unit ⊕ Option Nat)) :=
  if 12 ≤ x1 then (some (.inr (.inl ()))) else ((z_lq 12 (t0 + 2) 12 x1).bind fun x4 => if (M x4 1) = 0 then (some (.inl (x1 + 1))) else ((z_lq 12 (t0 + 2) 12 x1).bind fun x6 => if (M x6 2) = a1 then ((z_lq 12 (t0 + 2) 12 x1).bind fun x8 => some (.inr (.inr (some x8)))) else (some (.inl (x1 + 1)))))
def fX5_findSnapshot (t0 : Nat) (a1 : Int32) (M : zM) : Option (Option Nat) :=
  (z_loop (fun (s : Int32) => fX5_findSnapshot_L1 t0 a1 M s) z_FU 0).bind fun z2 => z_sc z2 (fun _ => some none) (fun u9 => some u9)
def fX6_snapshotOrThrow (t0 : Nat) (a1 : Int32) (M : zM) : Option (String ⊕ Nat) :=
  (fX5_findSnapshot (t0 + 1) a1 M).bind fun o1 => z_oc o1 (some (.inl "java/lang/IndexOutOfBoundsException")) (fun x2 => z_gd x2 2 (some (.inr x2)))
def fX6_readSnapshot (t0 : Nat) (a1 : Int32) (a2 : Int32) (a3 : Int32) (M : zM) : Option (String ⊕ Int32) :=
  (fX6_snapshotOrThrow t0 a1 M).bind fun o1 => z_ox o1 (fun E9 => some (.inl E9)) (fun x2 => z_gd x2 2 ((fX6_placeOrThrow a2 a3 M).bind fun o3 => z_ox o3 (fun E9 => some (.inl E9)) (fun x4 => (fX4_blockOf (x2 + 1) x4 M).bind fun x5 => (fX3_valueOf ((t0 + 1) + 3) x5 M).bind fun x6 => some (.inr x6))))
def fX6_blockInSnapshot (t0 : Nat) (a1 : Int32) (a2 : Int32) (a3 : Int32) (M : zM) : Option (String ⊕ Int32) :=
  (fX6_snapshotOrThrow t0 a1 M).bind fun o1 => z_ox o1 (fun E9 => some (.inl E9)) (fun x2 => z_gd x2 2 ((fX6_placeOrThrow a2 a3 M).bind fun o3 => z_ox o3 (fun E9 => some (.inl E9)) (fun x4 => (fX4_blockOf (x2 + 1) x4 M).bind fun x5 => some (.inr x5))))
def fX6_transactionOf (t0 : Nat) (a1 : Int32) (M : zM) : Option (String ⊕ Int32) :=
  (fX6_snapshotOrThrow t0 a1 M).bind fun o1 => z_ox o1 (fun E9 => some (.inl E9)) (fun x2 => z_gd x2 2 (some (.inr (M x2 5))))
def fX6_datasetOf (t0 : Nat) (a1 : Int32) (M : zM) : Option (String ⊕ Int32) :=
  (fX6_snapshotOrThrow t0 a1 M).bind fun o1 => z_ox o1 (fun E9 => some (.inl E9)) (fun x2 => z_gd x2 2 (some (.inr (M x2 3))))
def fX6_snapshots (t0 : Nat) (a1 : Int32) (M : zM) : Option (String ⊕ Int32) :=
  (fX6_datasetOrThrow t0 a1 M).bind fun o1 => z_ox o1 (fun E9 => some (.inl E9)) (fun x2 => z_gd x2 0 ((fX5_snapshotsOf (t0 + 1) a1 M).bind fun x3 => some (.inr x3)))
def fX5_snapshotOfRank_L1 (t0 : Nat) (a1 : Int32) (a2 : Int32) (M : zM) (x1 : Int32) : Option (Int32 ⊕ (Unit ⊕ Option Nat)) :=
  if 12 ≤ x1 then (some (.inr (.inl ()))) else ((z_lq 12 (t0 + 2) 12 x1).bind fun x4 => (fX2_belongsTo x4 a1 M).bind fun x5 => if x5 = 0 then (some (.inl (x1 + 1))) else ((z_lq 12 (t0 + 2) 12 x1).bind fun x7 => if (M x7 4) = a2 then ((z_lq 12 (t0 + 2) 12 x1).bind fun x9 => some (.inr (.inr (some x9)))) else (some (.inl (x1 + 1)))))
def fX5_snapshotOfRank (t0 : Nat) (a1 : Int32) (a2 : Int32) (M : zM) : Option (Option Nat) :=
  (z_loop (fun (s : Int32) => fX5_snapshotOfRank_L1 t0 a1 a2 M s) z_FU 0).bind fun z2 => z_sc z2 (fun _ => some none) (fun u9 => some u9)
def fX6_snapshotAt (t0 : Nat) (a1 : Int32) (a2 : Int32) (M : zM) : Option (String ⊕ Int32) :=
  (fX6_datasetOrThrow t0 a1 M).bind fun o1 => z_ox o1 (fun E9 => some (.inl E9)) (fun x2 => z_gd x2 0 ((fX5_snapshotOfRank (t0 + 1) a1 a2 M).bind fun o3 => z_oc o3 (some (.inl "java/lang/IndexOutOfBoundsException")) (fun x4 => z_gd x4 2 (some (.inr (M x4 2))))))
def fX5_isOrigin_L1 (t0 : Nat) (a1 : Int32) (M : zM) (x1 : Int32) : Option (Int32 ⊕ (Unit ⊕ Int32)) :=
  if 6 ≤ x1 then (some (.inr (.inl ()))) else ((z_lq 11 (t0 + 1) 6 x1).bind fun x4 => if (M x4 1) = 0 then (some (.inl (x1 + 1))) else ((z_lq 11 (t0 + 1) 6 x1).bind fun x6 => if (M x6 2) = a1 then (some (.inr (.inr 1))) else (some (.inl (x1 + 1)))))
def fX5_isOrigin (t0 : Nat) (a1 : Int32) (M : zM) : Option Int32 :=
  (z_loop (fun (s : Int32) => fX5_isOrigin_L1 t0 a1 M s) z_FU 0).bind fun z2 => z_sc z2 (fun _ => some 0) (fun u9 => some u9)
def fX5_isBehind (t0 : Nat) (a1 : Nat) (a2 : Nat) (M : zM) : Option Int32 :=
  (fX2_belongsTo a1 (M a2 3) M).bind fun x1 => if x1 = 0 then (some 0) else (if (M a1 4) ≤ (M a2 4) then (some 0) else (some 1))
def fX5_clear_L1 (t0 : Nat) (a1 : Nat) (x1 : Int32) (M2 : zM) : Option ((Int32 × zM) ⊕ zM) :=
  if 128 ≤ x1 then (some (.inr M2)) else ((fX5_put t0 a1 x1 (-1) M2).bind fun M6 => some (.inl ((x1 + 1), M6)))
def fX5_clear (t0 : Nat) (a1 : Nat) (M : zM) : Option zM :=
  (z_loop (fun (s : (Int32 × zM)) => fX5_clear_L1 t0 a1 s.1 s.2) z_FU (0, M)).bind fun M3 => some M3
def fX5_drop_L1 (t0 : Nat) (a1 : Nat) (x1 : Int32) (M2 : zM) : Option ((Int32 × zM) ⊕ zM) :=
  if 12 ≤ x1 then (some (.inr M2)) else ((z_lq 12 (t0 + 2) 12 x1).bind fun x8 => (fX5_isBehind t0 x8 a1 M2).bind fun x9 => if x9 = 0 then (some (.inl ((x1 + 1), M2))) else ((z_lq 12 (t0 + 2) 12 x1).bind fun x11 => (some (z_st M2 x11 4 ((M2 x11 4) - 1))).bind fun M12 => some (.inl ((x1 + 1), M12))))
def fX5_drop (t0 : Nat) (a1 : Nat) (M : zM) : Option zM :=
  (z_loop (fun (s : (Int32 × zM)) => fX5_drop_L1 t0 a1 s.1 s.2) z_FU (0, M)).bind fun M3 => (fX5_clear t0 (a1 + 1) M3).bind fun M5 => (z_pz M5 a1 1 0).bind fun M6 => some M6
def fX6_destroySnapshot (t0 : Nat) (a1 : Int32) (M : zM) : Option ((String ⊕ Int32) × zM) :=
  (fX6_snapshotOrThrow t0 a1 M).bind fun o1 => z_ox o1 (fun E9 => some (.inl E9, M)) (fun x2 => z_gd x2 2 ((fX5_isOrigin (t0 + 1) a1 M).bind fun x3 => if x3 = 0 then ((fX5_drop (t0 + 1) x2 M).bind fun M5 => z_b2 (fX5_settle (t0 + 1) M5) fun x6 M7 => some ((.inr x6), M7)) else (some (.inl "java/lang/IllegalStateException", M))))
def fX5_hasOriginBehind_L1 (t0 : Nat) (a1 : Nat) (M : zM) (x1 : Int32) : Option (Int32 ⊕ (Unit ⊕ Int32)) :=
  if 12 ≤ x1 then (some (.inr (.inl ()))) else ((z_lq 12 (t0 + 2) 12 x1).bind fun x4 => (fX5_isBehind t0 x4 a1 M).bind fun x5 => if x5 = 0 then (some (.inl (x1 + 1))) else ((z_lq 12 (t0 + 2) 12 x1).bind fun x7 => (fX5_isOrigin t0 (M x7 2) M).bind fun x8 => if x8 = 0 then (some (.inl (x1 + 1))) else (some (.inr (.inr 1)))))
def fX5_hasOriginBehind (t0 : Nat) (a1 : Nat) (M : zM) : Option Int32 :=
  (z_loop (fun (s : Int32) => fX5_hasOriginBehind_L1 t0 a1 M s) z_FU 0).bind fun z2 => z_sc z2 (fun _ => some 0) (fun u9 => some u9)
def fX5_dropBehind_L1 (t0 : Nat) (a1 : Nat) (x1 : Int32) (x2 : Int32) (M3 : zM) : Option ((Int32 × Int32 × zM) ⊕ (Int32 × zM)) :=
  if 12 ≤ x2 then (some (.inr (x1, M3))) else ((z_lq 12 (t0 + 2) 12 x2).bind fun x8 => (fX5_isBehind t0 x8 a1 M3).bind fun x9 => if x9 = 0 then (some (.inl (x1, (x2 + 1), M3))) else ((z_lq 12 (t0 + 2) 12 x2).bind fun x11 => (fX5_drop t0 x11 M3).bind fun M12 => some (.inl ((x1 + 1), (x2 + 1), M12))))
def fX5_dropBehind (t0 : Nat) (a1 : Nat) (M : zM) : Option (Int32 × zM) :=
  z_b2 (z_loop (fun (s : (Int32 × Int32 × zM)) => fX5_dropBehind_L1 t0 a1 s.1 s.2.1 s.2.2) z_FU (0, 0, M)) fun x4 M5 => some (x4, M5)
def fX6_rollback (t0 : Nat) (a1 : Int32) (a2 : Int32) (M : zM) : Option ((String ⊕ Int32) × zM) :=
  (fX6_datasetOrThrow t0 a1 M).bind fun o1 => z_ox o1 (fun E9 => some (.inl E9, M)) (fun x2 => z_gd x2 0 ((fX6_snapshotOrThrow t0 a2 M).bind fun o3 => z_ox o3 (fun E9 => some (.inl E9, M)) (fun x4 => z_gd x4 2 (if (M x4 3) = a1 then ((fX5_hasOriginBehind (t0 + 1) x4 M).bind fun x6 => if x6 = 0 then ((fX5_fill (t0 + 1) (x2 + 1) (x4 + 1) M).bind fun M8 => z_b2 (fX5_dropBehind (t0 + 1) x4 M8) fun x9 M10 => z_b2 (fX5_settle (t0 + 1) M10) fun x11 M12 => some ((.inr x9), M12)) else (some (.inl "java/lang/IllegalStateException", M))) else (some (.inl "java/lang/IllegalArgumentException", M))))))
def fX6_changed_L1 (M : zM) (x2 : Nat) (x4 : Nat) (x5 : Int32) (x6 : Int32) : Option ((Int32 × Int32) ⊕ Int32) :=
  if 128 ≤ x6 then (some (.inr x5)) else ((fX4_blockOf (x2 + 1) x6 M).bind fun x10 => (fX4_blockOf (x4 + 1) x6 M).bind fun x11 => if x10 = x11 then (some (.inl (x5, (x6 + 1)))) else (some (.inl ((x5 + 1), (x6 + 1)))))
def fX6_changed (t0 : Nat) (a1 : Int32) (a2 : Int32) (M : zM) : Option (String ⊕ Int32) :=
  (fX6_snapshotOrThrow t0 a1 M).bind fun o1 => z_ox o1 (fun E9 => some (.inl E9)) (fun x2 => z_gd x2 2 ((fX6_datasetOrThrow t0 a2 M).bind fun o3 => z_ox o3 (fun E9 => some (.inl E9)) (fun x4 => z_gd x4 0 ((z_loop (fun (s : (Int32 × Int32)) => fX6_changed_L1 M x2 x4 s.1 s.2) z_FU (0, 0)).bind fun x7 => some (.inr x7)))))
def fX5_countDatasets_L1 (t0 : Nat) (M : zM) (x1 : Int32) (x2 : Int32) : Option ((Int32 × Int32) ⊕ Int32) :=
  if 6 ≤ x2 then (some (.inr x1)) else ((z_lq 11 (t0 + 1) 6 x2).bind fun x6 => if (M x6 1) = 0 then (some (.inl (x1, (x2 + 1)))) else (some (.inl ((x1 + 1), (x2 + 1)))))
def fX5_countDatasets (t0 : Nat) (M : zM) : Option Int32 :=
  (z_loop (fun (s : (Int32 × Int32)) => fX5_countDatasets_L1 t0 M s.1 s.2) z_FU (0, 0)).bind fun x3 => some x3
def fX6_datasets (t0 : Nat) (M : zM) : Option Int32 :=
  (fX5_countDatasets (t0 + 1) M).bind fun x1 => some x1
def fX5_unusedDataset_L1 (t0 : Nat) (M : zM) (x1 : Int32) : Option (Int32 ⊕ (Unit ⊕ Int32)) :=
  if 6 ≤ x1 then (some (.inr (.inl ()))) else ((z_lq 11 (t0 + 1) 6 x1).bind fun x4 => if (M x4 1) = 0 then (some (.inr (.inr x1))) else (some (.inl (x1 + 1))))
def fX5_unusedDataset (t0 : Nat) (M : zM) : Option Int32 :=
  (z_loop (fun (s : Int32) => fX5_unusedDataset_L1 t0 M s) z_FU 0).bind fun z2 => z_sc z2 (fun _ => some (-1)) (fun u9 => some u9)
def fX5_branch (t0 : Nat) (a1 : Int32) (a2 : Nat) (M : zM) : Option zM :=
  if a1 < 0 then (some M) else (if 6 ≤ a1 then (some M) else ((z_lq 11 (t0 + 1) 6 a1).bind fun x3 => (z_pz M x3 1 1).bind fun M4 => (z_lq 11 (t0 + 1) 6 a1).bind fun x5 => (some (z_st M4 x5 2 (M4 a2 2))).bind fun M6 => (z_lq 11 (t0 + 1) 6 a1).bind fun x7 => (fX5_fill t0 (x7 + 1) (a2 + 1) M6).bind fun M8 => some M8))
def fX6_makeClone (t0 : Nat) (a1 : Int32) (M : zM) : Option ((String ⊕ Int32) × zM) :=
  (fX6_snapshotOrThrow t0 a1 M).bind fun o1 => z_ox o1 (fun E9 => some (.inl E9, M)) (fun x2 => z_gd x2 2 ((fX5_unusedDataset (t0 + 1) M).bind fun x3 => if x3 = (-1) then (some (.inl "java/lang/IllegalStateException", M)) else ((fX5_branch (t0 + 1) x3 x2 M).bind fun M5 => some ((.inr x3), M5))))
def fX6_origin (t0 : Nat) (a1 : Int32) (M : zM) : Option (String ⊕ Int32) :=
  (fX6_datasetOrThrow t0 a1 M).bind fun o1 => z_ox o1 (fun E9 => some (.inl E9)) (fun x2 => z_gd x2 0 (some (.inr (M x2 2))))
def fX5_handOver_L1 (t0 : Nat) (a1 : Nat) (a2 : Int32) (M : zM) (x1 : Int32) (M2 : zM) : Option ((Int32 × zM) ⊕ zM) :=
  if 12 ≤ x1 then (some (.inr M2)) else ((z_lq 12 (t0 + 2) 12 x1).bind fun x6 => (fX2_belongsTo x6 a2 M2).bind fun x7 => if x7 = 0 then ((z_lq 12 (t0 + 2) 12 x1).bind fun x9 => (fX2_belongsTo x9 (M a1 3) M2).bind fun x10 => if x10 = 0 then ((z_lq 12 (t0 + 2) 12 x1).bind fun x12 => (fX2_belongsTo x12 (M a1 3) M2).bind fun x13 => if x13 = 0 then (some (.inl ((x1 + 1), M2))) else ((z_lq 12 (t0 + 2) 12 x1).bind fun x15 => (some (z_st M2 x15 4 ((M2 x15 4) - ((M a1 4) + 1)))).bind fun M16 => some (.inl ((x1 + 1), M16)))) else ((z_lq 12 (t0 + 2) 12 x1).bind fun x17 => if ((M a1 4) + 1) ≤ (M2 x17 4) then ((z_lq 12 (t0 + 2) 12 x1).bind fun x19 => (fX2_belongsTo x19 (M a1 3) M2).bind fun x20 => if x20 = 0 then (some (.inl ((x1 + 1), M2))) else ((z_lq 12 (t0 + 2) 12 x1).bind fun x22 => (some (z_st M2 x22 4 ((M2 x22 4) - ((M a1 4) + 1)))).bind fun M23 => some (.inl ((x1 + 1), M23)))) else ((z_lq 12 (t0 + 2) 12 x1).bind fun x24 => (some (z_st M2 x24 3 a2)).bind fun M25 => some (.inl ((x1 + 1), M25))))) else ((z_lq 12 (t0 + 2) 12 x1).bind fun x26 => (some (z_st M2 x26 4 ((M2 x26 4) + ((M a1 4) + 1)))).bind fun M27 => some (.inl ((x1 + 1), M27))))
def fX5_handOver (t0 : Nat) (a1 : Nat) (a2 : Int32) (M : zM) : Option zM :=
  (z_loop (fun (s : (Int32 × zM)) => fX5_handOver_L1 t0 a1 a2 M s.1 s.2) z_FU (0, M)).bind fun M3 => some M3
def fX6_promote (t0 : Nat) (a1 : Int32) (M : zM) : Option ((String ⊕ Int32) × zM) :=
  (fX6_datasetOrThrow t0 a1 M).bind fun o1 => z_ox o1 (fun E9 => some (.inl E9, M)) (fun x2 => z_gd x2 0 ((fX5_findSnapshot (t0 + 1) (M x2 2) M).bind fun o3 => z_oc o3 (some (.inl "java/lang/IllegalStateException", M)) (fun x4 => z_gd x4 2 ((fX5_findDataset (t0 + 1) (M x4 3) M).bind fun o5 => z_oc o5 ((fX5_snapshotsOf (t0 + 1) a1 M).bind fun x7 => some ((.inr x7), M)) (fun x6 => z_gd x6 0 ((fX5_handOver (t0 + 1) x4 a1 M).bind fun M8 => (some (z_st M8 x2 2 (M8 x6 2))).bind fun M9 => (some (z_st M9 x6 2 (M9 x4 2))).bind fun M10 => (fX5_snapshotsOf (t0 + 1) a1 M10).bind fun x11 => some ((.inr x11), M10)))))))
def fX6_destroy (t0 : Nat) (a1 : Int32) (M : zM) : Option ((String ⊕ Int32) × zM) :=
  (fX6_datasetOrThrow t0 a1 M).bind fun o1 => z_ox o1 (fun E9 => some (.inl E9, M)) (fun x2 => z_gd x2 0 ((fX5_snapshotsOf (t0 + 1) a1 M).bind fun x3 => if x3 ≤ 0 then ((fX5_countDatasets (t0 + 1) M).bind fun x5 => if x5 = 1 then (some (.inl "java/lang/IllegalStateException", M)) else ((fX5_clear (t0 + 1) (x2 + 1) M).bind fun M7 => (z_pz M7 x2 1 0).bind fun M8 => (some (z_st M8 x2 2 (-1))).bind fun M9 => z_b2 (fX5_settle (t0 + 1) M9) fun x10 M11 => some ((.inr x10), M11))) else (some (.inl "java/lang/IllegalStateException", M))))
def fX6_countUses_L1 (t0 : Nat) (a1 : Nat) (x2 : Int32) (M3 : zM) : Option ((Int32 × zM) ⊕ zM) :=
  if 128 ≤ x2 then (some (.inr M3)) else ((fX4_blockOf a1 x2 M3).bind fun x7 => if x7 < 0 then (some (.inl ((x2 + 1), M3))) else (if 128 ≤ x7 then (some (.inl ((x2 + 1), M3))) else ((z_ld M3 (t0 + 168) 128 x7).bind fun x10 => (z_sa M3 (t0 + 168) 128 x7 (x10 + 1)).bind fun M11 => some (.inl ((x2 + 1), M11)))))
def fX6_countUses (t0 : Nat) (a1 : Nat) (M : zM) : Option zM :=
  (some (z_fill M (t0 + 168) 0)).bind fun M1 => (z_loop (fun (s : (Int32 × zM)) => fX6_countUses_L1 t0 a1 s.1 s.2) z_FU (0, M1)).bind fun M4 => some M4
def fX6_referenced_L1 (t0 : Nat) (M3 : zM) (x4 : Int32) (x5 : Int32) : Option ((Int32 × Int32) ⊕ Int32) :=
  if 128 ≤ x5 then (some (.inr x4)) else ((z_ld M3 (t0 + 168) 128 x5).bind fun x9 => if x9 ≤ 0 then (some (.inl (x4, (x5 + 1)))) else (some (.inl ((x4 + 1), (x5 + 1)))))
def fX6_referenced (t0 : Nat) (a1 : Int32) (M : zM) : Option ((String ⊕ Int32) × zM) :=
  (fX6_datasetOrThrow t0 a1 M).bind fun o1 => z_ox o1 (fun E9 => some (.inl E9, M)) (fun x2 => z_gd x2 0 ((fX6_countUses t0 (x2 + 1) M).bind fun M3 => (z_loop (fun (s : (Int32 × Int32)) => fX6_referenced_L1 t0 M3 s.1 s.2) z_FU (0, 0)).bind fun x6 => some ((.inr x6), M3)))
def fX6_countOwn_L1 (t0 : Nat) (M1 : zM) (x2 : Int32) (x3 : Int32) : Option ((Int32 × Int32) ⊕ Int32) :=
  if 128 ≤ x3 then (some (.inr x2)) else ((z_ld M1 (t0 + 168) 128 x3).bind fun x7 => if x7 ≤ 0 then (some (.inl (x2, (x3 + 1)))) else ((z_ld M1 (t0 + 168) 128 x3).bind fun x9 => (fX3_usesOf ((t0 + 1) + 3) x3 M1).bind fun x10 => if x9 = x10 then (some (.inl ((x2 + 1), (x3 + 1)))) else (some (.inl (x2, (x3 + 1))))))
def fX6_countOwn (t0 : Nat) (a1 : Nat) (M : zM) : Option (Int32 × zM) :=
  (fX6_countUses t0 a1 M).bind fun M1 => (z_loop (fun (s : (Int32 × Int32)) => fX6_countOwn_L1 t0 M1 s.1 s.2) z_FU (0, 0)).bind fun x4 => some (x4, M1)
def fX6_unique (t0 : Nat) (a1 : Int32) (M : zM) : Option ((String ⊕ Int32) × zM) :=
  (fX6_datasetOrThrow t0 a1 M).bind fun o1 => z_ox o1 (fun E9 => some (.inl E9, M)) (fun x2 => z_gd x2 0 (z_b2 (fX6_countOwn t0 (x2 + 1) M) fun x3 M4 => some ((.inr x3), M4)))
def fX6_uniqueOfSnapshot (t0 : Nat) (a1 : Int32) (M : zM) : Option ((String ⊕ Int32) × zM) :=
  (fX6_snapshotOrThrow t0 a1 M).bind fun o1 => z_ox o1 (fun E9 => some (.inl E9, M)) (fun x2 => z_gd x2 2 (z_b2 (fX6_countOwn t0 (x2 + 1) M) fun x3 M4 => some ((.inr x3), M4)))
def fX3_birthOf (t0 : Nat) (a1 : Int32) (M : zM) : Option Int32 :=
  (fX3_isBlock a1 M).bind fun x1 => if x1 = 0 then (some 0) else ((z_ld M (t0 + 3) 128 a1).bind fun x3 => some x3)
def fX6_newer_L1 (t0 : Nat) (a2 : Int32) (M : zM) (x2 : Nat) (x3 : Int32) (x4 : Int32) : Option ((Int32 × Int32) ⊕ Int32) :=
  if 128 ≤ x4 then (some (.inr x3)) else ((fX4_blockOf (x2 + 1) x4 M).bind fun x8 => if x8 = (-1) then (some (.inl (x3, (x4 + 1)))) else ((fX3_birthOf ((t0 + 1) + 3) x8 M).bind fun x10 => if x10 ≤ a2 then (some (.inl (x3, (x4 + 1)))) else (some (.inl ((x3 + 1), (x4 + 1))))))
def fX6_newer (t0 : Nat) (a1 : Int32) (a2 : Int32) (M : zM) : Option (String ⊕ Int32) :=
  (fX6_datasetOrThrow t0 a1 M).bind fun o1 => z_ox o1 (fun E9 => some (.inl E9)) (fun x2 => z_gd x2 0 ((z_loop (fun (s : (Int32 × Int32)) => fX6_newer_L1 t0 a2 M x2 s.1 s.2) z_FU (0, 0)).bind fun x5 => some (.inr x5)))
def fX6_blockOrThrow (a0 : Int32) (M : zM) : Option (String ⊕ Unit) :=
  if a0 < 0 then (some (.inl "java/lang/IndexOutOfBoundsException")) else (if a0 < 128 then (some (.inr ())) else (some (.inl "java/lang/IndexOutOfBoundsException")))
def fX6_birth (t0 : Nat) (a1 : Int32) (M : zM) : Option (String ⊕ Int32) :=
  (fX6_blockOrThrow a1 M).bind fun o1 => z_ox o1 (fun E9 => some (.inl E9)) (fun x2 => (fX3_isAllocated ((t0 + 1) + 3) a1 M).bind fun x3 => if x3 = 0 then (some (.inl "java/lang/IllegalStateException")) else ((fX3_birthOf ((t0 + 1) + 3) a1 M).bind fun x5 => some (.inr x5)))
def fX6_references (t0 : Nat) (a1 : Int32) (M : zM) : Option (String ⊕ Int32) :=
  (fX6_blockOrThrow a1 M).bind fun o1 => z_ox o1 (fun E9 => some (.inl E9)) (fun x2 => (fX3_usesOf ((t0 + 1) + 3) a1 M).bind fun x3 => some (.inr x3))
def fX6_free (t0 : Nat) (M : zM) : Option Int32 :=
  (fX3_count ((t0 + 1) + 3) 0 0 128 M).bind fun x1 => some x1
def fX6_pending (t0 : Nat) (M : zM) : Option Int32 :=
  (fX3_count ((t0 + 1) + 3) 2 0 128 M).bind fun x1 => some x1
def fX6_regionOrThrow (a0 : Int32) (M : zM) : Option (String ⊕ Unit) :=
  if a0 < 0 then (some (.inl "java/lang/IndexOutOfBoundsException")) else (if a0 < 4 then (some (.inr ())) else (some (.inl "java/lang/IndexOutOfBoundsException")))
def fX6_freeIn (t0 : Nat) (a1 : Int32) (M : zM) : Option (String ⊕ Int32) :=
  (fX6_regionOrThrow a1 M).bind fun o1 => z_ox o1 (fun E9 => some (.inl E9)) (fun x2 => (fX3_freeInRegion ((t0 + 1) + 3) a1 M).bind fun x3 => some (.inr x3))
def fX6_logOrThrow (t0 : Nat) (a1 : Int32) (M : zM) : Option (String ⊕ Nat) :=
  if a1 < 0 then (some (.inl "java/lang/IndexOutOfBoundsException")) else (if a1 < 4 then ((z_lq 13 ((t0 + 1) + 8) 4 a1).bind fun x3 => some (.inr x3)) else (some (.inl "java/lang/IndexOutOfBoundsException")))
def fX6_logEntries (t0 : Nat) (a1 : Int32) (M : zM) : Option (String ⊕ Int32) :=
  (fX6_logOrThrow t0 a1 M).bind fun o1 => z_ox o1 (fun E9 => some (.inl E9)) (fun x2 => z_gd x2 1 (some (.inr (M x2 4))))
def fX6_logWithEntryOrThrow (t0 : Nat) (a1 : Int32) (a2 : Int32) (M : zM) : Option (String ⊕ Nat) :=
  (fX6_logOrThrow t0 a1 M).bind fun o1 => z_ox o1 (fun E9 => some (.inl E9)) (fun x2 => z_gd x2 1 (if a2 < 0 then (some (.inl "java/lang/IndexOutOfBoundsException")) else (if a2 < (M x2 4) then (some (.inr x2)) else (some (.inl "java/lang/IndexOutOfBoundsException")))))
def fX1_firstOf (t0 : Nat) (a1 : Int32) (M : zM) : Option Int32 :=
  (fX1_isEntry a1 M).bind fun x1 => if x1 = 0 then (some 0) else ((z_ld M (t0 + 1) 66 a1).bind fun x3 => some x3)
def fX1_blocksOf (t0 : Nat) (a1 : Int32) (M : zM) : Option Int32 :=
  (fX1_isEntry a1 M).bind fun x1 => if x1 = 0 then (some 0) else ((z_ld M (t0 + 2) 66 a1).bind fun x3 => some x3)
def fX6_runAt (t0 : Nat) (a1 : Int32) (a2 : Int32) (M : zM) : Option (String ⊕ Int32) :=
  (fX6_logWithEntryOrThrow t0 a1 a2 M).bind fun o1 => z_ox o1 (fun E9 => some (.inl E9)) (fun x2 => z_gd x2 1 ((fX1_firstOf x2 a2 M).bind fun x3 => (fX1_blocksOf x2 a2 M).bind fun x4 => some (.inr ((100 * x3) + x4))))
def fX1_isAllocation (t0 : Nat) (a1 : Int32) (M : zM) : Option Int32 :=
  (fX1_isEntry a1 M).bind fun x1 => if x1 = 0 then (some 0) else ((z_ld M (t0 + 3) 66 a1).bind fun x3 => if x3 = 0 then (some 0) else (some 1))
def fX6_allocates (t0 : Nat) (a1 : Int32) (a2 : Int32) (M : zM) : Option (String ⊕ Int32) :=
  (fX6_logWithEntryOrThrow t0 a1 a2 M).bind fun o1 => z_ox o1 (fun E9 => some (.inl E9)) (fun x2 => z_gd x2 1 ((fX1_isAllocation x2 a2 M).bind fun x3 => z_bz x3 (some (.inr x3))))
def fX1_replayEntry_L1 (t0 : Nat) (a1 : Int32) (M : zM) (x1 : Int32) (x2 : Int32) (x3 : Int32) (M4 : zM) : Option ((Int32 × zM) ⊕ zM) :=
  if ((x1 - (M t0 0)) + x2) ≤ x3 then (some (.inr M4)) else (if x3 < 0 then (some (.inl ((x3 + 1), M4))) else (if 32 ≤ x3 then (some (.inl ((x3 + 1), M4))) else ((fX1_isAllocation t0 a1 M4).bind fun x10 => (z_sb M4 (t0 + 4) 32 x3 x10).bind fun M11 => some (.inl ((x3 + 1), M11)))))
def fX1_replayEntry (t0 : Nat) (a1 : Int32) (M : zM) : Option zM :=
  (fX1_firstOf t0 a1 M).bind fun x1 => (fX1_blocksOf t0 a1 M).bind fun x2 => (z_loop (fun (s : (Int32 × zM)) => fX1_replayEntry_L1 t0 a1 M x1 x2 s.1 s.2) z_FU ((x1 - (M t0 0)), M)).bind fun M5 => some M5
def fX1_countReplayed_L3 (t0 : Nat) (M7 : zM) (x9 : Int32) (x10 : Int32) : Option ((Int32 × Int32) ⊕ Int32) :=
  if 32 ≤ x10 then (some (.inr x9)) else ((z_ld M7 (t0 + 4) 32 x10).bind fun x14 => if x14 = 0 then (some (.inl (x9, (x10 + 1)))) else (some (.inl ((x9 + 1), (x10 + 1)))))
def fX1_countReplayed_L2 (t0 : Nat) (x5 : Int32) (M6 : zM) : Option ((Int32 × zM) ⊕ zM) :=
  if (M6 t0 4) ≤ x5 then (some (.inr M6)) else ((fX1_replayEntry t0 x5 M6).bind fun M17 => some (.inl ((x5 + 1), M17)))
def fX1_countReplayed_L1 (t0 : Nat) (x1 : Int32) (M2 : zM) : Option ((Int32 × zM) ⊕ zM) :=
  if 32 ≤ x1 then (some (.inr M2)) else ((z_sb M2 (t0 + 4) 32 x1 0).bind fun M19 => some (.inl ((x1 + 1), M19)))
def fX1_countReplayed (t0 : Nat) (M : zM) : Option (Int32 × zM) :=
  (z_loop (fun (s : (Int32 × zM)) => fX1_countReplayed_L1 t0 s.1 s.2) z_FU (0, M)).bind fun M3 => (z_loop (fun (s : (Int32 × zM)) => fX1_countReplayed_L2 t0 s.1 s.2) z_FU (0, M3)).bind fun M7 => (z_loop (fun (s : (Int32 × Int32)) => fX1_countReplayed_L3 t0 M7 s.1 s.2) z_FU (0, 0)).bind fun x11 => some (x11, M7)
def fX6_replay (t0 : Nat) (a1 : Int32) (M : zM) : Option ((String ⊕ Int32) × zM) :=
  (fX6_logOrThrow t0 a1 M).bind fun o1 => z_ox o1 (fun E9 => some (.inl E9, M)) (fun x2 => z_gd x2 1 (z_b2 (fX1_countReplayed x2 M) fun x3 M4 => some ((.inr x3), M4)))
def fX6_condensed (t0 : Nat) (M : zM) : Option Int32 :=
  some (M (t0 + 1) 6)
