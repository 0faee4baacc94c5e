theorem zn_10 {k : Nat} (h : z_kd k = 10) : z_ln k = 1 := beq_iff_eq.mp (z_all (P := fun k => z_ln k == 1) (by decide +kernel) rfl h).2
theorem z_k0 : z_kd 0 = 6 := rfl
theorem z_k169 : z_kd 169 = 7 := rfl
theorem z_k174 : z_kd 174 = 10 := rfl
theorem kl_L_13 : Cond.classLink RL 13 "java/lang/IndexOutOfBoundsException" ∈ z_TB := z_in 387 (by decide +kernel) rfl
theorem kl_L_15 : Cond.classLink RL 15 "java/lang/IllegalStateException" ∈ z_TB := z_in 388 (by decide +kernel) rfl
theorem kl_L_31 : Cond.classLink RL 31 "java/lang/IllegalArgumentException" ∈ z_TB := z_in 577 (by decide +kernel) rfl
theorem kcast_io : Cond.castable "java/lang/IndexOutOfBoundsException" "java/lang/IndexOutOfBoundsException" ∈ z_TB := z_in 403 (by decide +kernel) rfl
theorem kcast_is : Cond.castable "java/lang/IllegalStateException" "java/lang/IllegalStateException" ∈ z_TB := z_in 506 (by decide +kernel) rfl
theorem kcast_ia : Cond.castable "java/lang/IllegalArgumentException" "java/lang/IllegalArgumentException" ∈ z_TB := z_in 587 (by decide +kernel) rfl
theorem zyh_L_write : z_YH yL_write cL_write 7 (some .int) [(0, 14, 17, 13), (0, 14, 21, 15)] 6 := ⟨⟨by decide +kernel, by decide +kernel, by decide +kernel⟩, z_in 85 (by decide +kernel) rfl, z_in 385 (by decide +kernel) rfl, z_in 386 (by decide +kernel) rfl⟩
theorem zyh_L_read : z_YH yL_read cL_read 6 (some .int) [(0, 12, 15, 13)] 5 := ⟨⟨by decide +kernel, by decide +kernel, by decide +kernel⟩, z_in 85 (by decide +kernel) rfl, z_in 550 (by decide +kernel) rfl, z_in 551 (by decide +kernel) rfl⟩
theorem zyh_L_blockAt : z_YH yL_blockAt cL_blockAt 6 (some .int) [(0, 12, 15, 13)] 5 := ⟨⟨by decide +kernel, by decide +kernel, by decide +kernel⟩, z_in 85 (by decide +kernel) rfl, z_in 561 (by decide +kernel) rfl, z_in 562 (by decide +kernel) rfl⟩
theorem zyh_L_length : z_YH yL_length cL_length 5 (some .int) [(0, 10, 13, 13)] 4 := ⟨⟨by decide +kernel, by decide +kernel, by decide +kernel⟩, z_in 85 (by decide +kernel) rfl, z_in 568 (by decide +kernel) rfl, z_in 569 (by decide +kernel) rfl⟩
theorem zyh_L_punch : z_YH yL_punch cL_punch 7 (some .int) [(0, 14, 17, 13), (0, 14, 21, 31)] 6 := ⟨⟨by decide +kernel, by decide +kernel, by decide +kernel⟩, z_in 85 (by decide +kernel) rfl, z_in 575 (by decide +kernel) rfl, z_in 576 (by decide +kernel) rfl⟩
theorem zyh_L_reflink : z_YH yL_reflink cL_reflink 9 (some .int) [(0, 18, 21, 13), (0, 18, 25, 31)] 8 := ⟨⟨by decide +kernel, by decide +kernel, by decide +kernel⟩, z_in 85 (by decide +kernel) rfl, z_in 602 (by decide +kernel) rfl, z_in 603 (by decide +kernel) rfl⟩
theorem zyh_L_snapshot : z_YH yL_snapshot cL_snapshot 4 (some .int) [(0, 9, 12, 13), (0, 9, 15, 15)] 3 := ⟨⟨by decide +kernel, by decide +kernel, by decide +kernel⟩, z_in 85 (by decide +kernel) rfl, z_in 614 (by decide +kernel) rfl, z_in 615 (by decide +kernel) rfl⟩
theorem zyh_L_readSnapshot : z_YH yL_readSnapshot cL_readSnapshot 6 (some .int) [(0, 12, 15, 13)] 5 := ⟨⟨by decide +kernel, by decide +kernel, by decide +kernel⟩, z_in 85 (by decide +kernel) rfl, z_in 643 (by decide +kernel) rfl, z_in 644 (by decide +kernel) rfl⟩
theorem zyh_L_blockInSnapshot : z_YH yL_blockInSnapshot cL_blockInSnapshot 6 (some .int) [(0, 12, 15, 13)] 5 := ⟨⟨by decide +kernel, by decide +kernel, by decide +kernel⟩, z_in 85 (by decide +kernel) rfl, z_in 659 (by decide +kernel) rfl, z_in 660 (by decide +kernel) rfl⟩
theorem zyh_L_transactionOf : z_YH yL_transactionOf cL_transactionOf 4 (some .int) [(0, 9, 12, 13)] 3 := ⟨⟨by decide +kernel, by decide +kernel, by decide +kernel⟩, z_in 85 (by decide +kernel) rfl, z_in 666 (by decide +kernel) rfl, z_in 667 (by decide +kernel) rfl⟩
theorem zyh_L_datasetOf : z_YH yL_datasetOf cL_datasetOf 4 (some .int) [(0, 9, 12, 13)] 3 := ⟨⟨by decide +kernel, by decide +kernel, by decide +kernel⟩, z_in 85 (by decide +kernel) rfl, z_in 673 (by decide +kernel) rfl, z_in 674 (by decide +kernel) rfl⟩
theorem zyh_L_snapshots : z_YH yL_snapshots cL_snapshots 4 (some .int) [(0, 9, 12, 13)] 3 := ⟨⟨by decide +kernel, by decide +kernel, by decide +kernel⟩, z_in 85 (by decide +kernel) rfl, z_in 680 (by decide +kernel) rfl, z_in 681 (by decide +kernel) rfl⟩
theorem zyh_L_snapshotAt : z_YH yL_snapshotAt cL_snapshotAt 5 (some .int) [(0, 10, 13, 13)] 4 := ⟨⟨by decide +kernel, by decide +kernel, by decide +kernel⟩, z_in 85 (by decide +kernel) rfl, z_in 688 (by decide +kernel) rfl, z_in 689 (by decide +kernel) rfl⟩
theorem zyh_L_destroySnapshot : z_YH yL_destroySnapshot cL_destroySnapshot 4 (some .int) [(0, 9, 12, 13), (0, 9, 15, 15)] 3 := ⟨⟨by decide +kernel, by decide +kernel, by decide +kernel⟩, z_in 85 (by decide +kernel) rfl, z_in 700 (by decide +kernel) rfl, z_in 701 (by decide +kernel) rfl⟩
theorem zyh_L_rollback : z_YH yL_rollback cL_rollback 5 (some .int) [(0, 10, 13, 13), (0, 10, 17, 31), (0, 10, 21, 15)] 4 := ⟨⟨by decide +kernel, by decide +kernel, by decide +kernel⟩, z_in 85 (by decide +kernel) rfl, z_in 724 (by decide +kernel) rfl, z_in 725 (by decide +kernel) rfl⟩
theorem zyh_L_changed : z_YH yL_changed cL_changed 5 (some .int) [(0, 10, 13, 13)] 4 := ⟨⟨by decide +kernel, by decide +kernel, by decide +kernel⟩, z_in 85 (by decide +kernel) rfl, z_in 744 (by decide +kernel) rfl, z_in 745 (by decide +kernel) rfl⟩
theorem zyh_L_makeClone : z_YH yL_makeClone cL_makeClone 4 (some .int) [(0, 9, 12, 13), (0, 9, 15, 15)] 3 := ⟨⟨by decide +kernel, by decide +kernel, by decide +kernel⟩, z_in 85 (by decide +kernel) rfl, z_in 751 (by decide +kernel) rfl, z_in 752 (by decide +kernel) rfl⟩
theorem zyh_L_origin : z_YH yL_origin cL_origin 4 (some .int) [(0, 9, 12, 13)] 3 := ⟨⟨by decide +kernel, by decide +kernel, by decide +kernel⟩, z_in 85 (by decide +kernel) rfl, z_in 767 (by decide +kernel) rfl, z_in 768 (by decide +kernel) rfl⟩
theorem zyh_L_promote : z_YH yL_promote cL_promote 4 (some .int) [(0, 9, 12, 13), (0, 9, 15, 15)] 3 := ⟨⟨by decide +kernel, by decide +kernel, by decide +kernel⟩, z_in 85 (by decide +kernel) rfl, z_in 774 (by decide +kernel) rfl, z_in 775 (by decide +kernel) rfl⟩
theorem zyh_L_destroy : z_YH yL_destroy cL_destroy 4 (some .int) [(0, 9, 12, 13), (0, 9, 15, 15)] 3 := ⟨⟨by decide +kernel, by decide +kernel, by decide +kernel⟩, z_in 85 (by decide +kernel) rfl, z_in 786 (by decide +kernel) rfl, z_in 787 (by decide +kernel) rfl⟩
theorem zyh_L_referenced : z_YH yL_referenced cL_referenced 4 (some .int) [(0, 9, 12, 13)] 3 := ⟨⟨by decide +kernel, by decide +kernel, by decide +kernel⟩, z_in 85 (by decide +kernel) rfl, z_in 796 (by decide +kernel) rfl, z_in 797 (by decide +kernel) rfl⟩
theorem zyh_L_unique : z_YH yL_unique cL_unique 4 (some .int) [(0, 9, 12, 13)] 3 := ⟨⟨by decide +kernel, by decide +kernel, by decide +kernel⟩, z_in 85 (by decide +kernel) rfl, z_in 808 (by decide +kernel) rfl, z_in 809 (by decide +kernel) rfl⟩
theorem zyh_L_uniqueOfSnapshot : z_YH yL_uniqueOfSnapshot cL_uniqueOfSnapshot 4 (some .int) [(0, 9, 12, 13)] 3 := ⟨⟨by decide +kernel, by decide +kernel, by decide +kernel⟩, z_in 85 (by decide +kernel) rfl, z_in 819 (by decide +kernel) rfl, z_in 820 (by decide +kernel) rfl⟩
theorem zyh_L_newer : z_YH yL_newer cL_newer 5 (some .int) [(0, 10, 13, 13)] 4 := ⟨⟨by decide +kernel, by decide +kernel, by decide +kernel⟩, z_in 85 (by decide +kernel) rfl, z_in 826 (by decide +kernel) rfl, z_in 827 (by decide +kernel) rfl⟩
theorem zyh_L_birth : z_YH yL_birth cL_birth 4 (some .int) [(0, 9, 12, 13), (0, 9, 15, 15)] 3 := ⟨⟨by decide +kernel, by decide +kernel, by decide +kernel⟩, z_in 85 (by decide +kernel) rfl, z_in 837 (by decide +kernel) rfl, z_in 838 (by decide +kernel) rfl⟩
theorem zyh_L_references : z_YH yL_references cL_references 4 (some .int) [(0, 9, 12, 13)] 3 := ⟨⟨by decide +kernel, by decide +kernel, by decide +kernel⟩, z_in 85 (by decide +kernel) rfl, z_in 850 (by decide +kernel) rfl, z_in 851 (by decide +kernel) rfl⟩
theorem zyh_L_freeIn : z_YH yL_freeIn cL_freeIn 4 (some .int) [(0, 9, 12, 13)] 3 := ⟨⟨by decide +kernel, by decide +kernel, by decide +kernel⟩, z_in 85 (by decide +kernel) rfl, z_in 857 (by decide +kernel) rfl, z_in 858 (by decide +kernel) rfl⟩
theorem zyh_L_logEntries : z_YH yL_logEntries cL_logEntries 4 (some .int) [(0, 9, 12, 13)] 3 := ⟨⟨by decide +kernel, by decide +kernel, by decide +kernel⟩, z_in 85 (by decide +kernel) rfl, z_in 869 (by decide +kernel) rfl, z_in 870 (by decide +kernel) rfl⟩
theorem zyh_L_runAt : z_YH yL_runAt cL_runAt 5 (some .int) [(0, 10, 13, 13)] 4 := ⟨⟨by decide +kernel, by decide +kernel, by decide +kernel⟩, z_in 85 (by decide +kernel) rfl, z_in 880 (by decide +kernel) rfl, z_in 881 (by decide +kernel) rfl⟩
theorem zyh_L_allocates : z_YH yL_allocates cL_allocates 5 (some .int) [(0, 17, 20, 13)] 4 := ⟨⟨by decide +kernel, by decide +kernel, by decide +kernel⟩, z_in 85 (by decide +kernel) rfl, z_in 900 (by decide +kernel) rfl, z_in 901 (by decide +kernel) rfl⟩
theorem zyh_L_replay : z_YH yL_replay cL_replay 4 (some .int) [(0, 9, 12, 13)] 3 := ⟨⟨by decide +kernel, by decide +kernel, by decide +kernel⟩, z_in 85 (by decide +kernel) rfl, z_in 911 (by decide +kernel) rfl, z_in 912 (by decide +kernel) rfl⟩
def fL_write (a0 : Nat) (a1 : Int32) (a2 : Int32) (a3 : Int32) (a4 : Int32) (a5 : Nat) (M : zM) : Option (Int32 × zM) :=
  z_b2 (fX6_write a0 a1 a2 a3 a4 M) fun o1 M3 => z_ox o1 (fun E9 => if E9 = "java/lang/IndexOutOfBoundsException" then (some (1, M3)) else (if E9 = "java/lang/IllegalStateException" then (some (2, M3)) else (none))) (fun x2 => (z_sa M3 a5 1 0 x2).bind fun M4 => some (0, M4))
def fL_read (a0 : Nat) (a1 : Int32) (a2 : Int32) (a3 : Int32) (a4 : Nat) (M : zM) : Option (Int32 × zM) :=
  (fX6_read a0 a1 a2 a3 M).bind fun o1 => z_ox o1 (fun E9 => if E9 = "java/lang/IndexOutOfBoundsException" then (some (1, M)) else (none)) (fun x2 => (z_sa M a4 1 0 x2).bind fun M3 => some (0, M3))
def fL_blockAt (a0 : Nat) (a1 : Int32) (a2 : Int32) (a3 : Int32) (a4 : Nat) (M : zM) : Option (Int32 × zM) :=
  (fX6_blockAt a0 a1 a2 a3 M).bind fun o1 => z_ox o1 (fun E9 => if E9 = "java/lang/IndexOutOfBoundsException" then (some (1, M)) else (none)) (fun x2 => (z_sa M a4 1 0 x2).bind fun M3 => some (0, M3))
def fL_length (a0 : Nat) (a1 : Int32) (a2 : Int32) (a3 : Nat) (M : zM) : Option (Int32 × zM) :=
  (fX6_length a0 a1 a2 M).bind fun o1 => z_ox o1 (fun E9 => if E9 = "java/lang/IndexOutOfBoundsException" then (some (1, M)) else (none)) (fun x2 => (z_sa M a3 1 0 x2).bind fun M3 => some (0, M3))
def fL_punch (a0 : Nat) (a1 : Int32) (a2 : Int32) (a3 : Int32) (a4 : Int32) (a5 : Nat) (M : zM) : Option (Int32 × zM) :=
  z_b2 (fX6_punch a0 a1 a2 a3 a4 M) fun o1 M3 => z_ox o1 (fun E9 => if E9 = "java/lang/IndexOutOfBoundsException" then (some (1, M3)) else (if E9 = "java/lang/IllegalArgumentException" then (some (2, M3)) else (none))) (fun x2 => (z_sa M3 a5 1 0 x2).bind fun M4 => some (0, M4))
def fL_reflink (a0 : Nat) (a1 : Int32) (a2 : Int32) (a3 : Int32) (a4 : Int32) (a5 : Int32) (a6 : Int32) (a7 : Nat) (M : zM) : Option (Int32 × zM) :=
  z_b2 (fX6_reflink a0 a1 a2 a3 a4 a5 a6 M) fun o1 M3 => z_ox o1 (fun E9 => if E9 = "java/lang/IndexOutOfBoundsException" then (some (1, M3)) else (if E9 = "java/lang/IllegalArgumentException" then (some (2, M3)) else (none))) (fun x2 => (z_sa M3 a7 1 0 x2).bind fun M4 => some (0, M4))
def fL_snapshot (a0 : Nat) (a1 : Int32) (a2 : Nat) (M : zM) : Option (Int32 × zM) :=
  z_b2 (fX6_snapshot a0 a1 M) fun o1 M3 => z_ox o1 (fun E9 => if E9 = "java/lang/IndexOutOfBoundsException" then (some (1, M3)) else (if E9 = "java/lang/IllegalStateException" then (some (2, M3)) else (none))) (fun x2 => (z_sa M3 a2 1 0 x2).bind fun M4 => some (0, M4))
def fL_readSnapshot (a0 : Nat) (a1 : Int32) (a2 : Int32) (a3 : Int32) (a4 : Nat) (M : zM) : Option (Int32 × zM) :=
  (fX6_readSnapshot a0 a1 a2 a3 M).bind fun o1 => z_ox o1 (fun E9 => if E9 = "java/lang/IndexOutOfBoundsException" then (some (1, M)) else (none)) (fun x2 => (z_sa M a4 1 0 x2).bind fun M3 => some (0, M3))
def fL_blockInSnapshot (a0 : Nat) (a1 : Int32) (a2 : Int32) (a3 : Int32) (a4 : Nat) (M : zM) : Option (Int32 × zM) :=
  (fX6_blockInSnapshot a0 a1 a2 a3 M).bind fun o1 => z_ox o1 (fun E9 => if E9 = "java/lang/IndexOutOfBoundsException" then (some (1, M)) else (none)) (fun x2 => (z_sa M a4 1 0 x2).bind fun M3 => some (0, M3))
def fL_transactionOf (a0 : Nat) (a1 : Int32) (a2 : Nat) (M : zM) : Option (Int32 × zM) :=
  (fX6_transactionOf a0 a1 M).bind fun o1 => z_ox o1 (fun E9 => if E9 = "java/lang/IndexOutOfBoundsException" then (some (1, M)) else (none)) (fun x2 => (z_sa M a2 1 0 x2).bind fun M3 => some (0, M3))
def fL_datasetOf (a0 : Nat) (a1 : Int32) (a2 : Nat) (M : zM) : Option (Int32 × zM) :=
  (fX6_datasetOf a0 a1 M).bind fun o1 => z_ox o1 (fun E9 => if E9 = "java/lang/IndexOutOfBoundsException" then (some (1, M)) else (none)) (fun x2 => (z_sa M a2 1 0 x2).bind fun M3 => some (0, M3))
def fL_snapshots (a0 : Nat) (a1 : Int32) (a2 : Nat) (M : zM) : Option (Int32 × zM) :=
  (fX6_snapshots a0 a1 M).bind fun o1 => z_ox o1 (fun E9 => if E9 = "java/lang/IndexOutOfBoundsException" then (some (1, M)) else (none)) (fun x2 => (z_sa M a2 1 0 x2).bind fun M3 => some (0, M3))
def fL_snapshotAt (a0 : Nat) (a1 : Int32) (a2 : Int32) (a3 : Nat) (M : zM) : Option (Int32 × zM) :=
  (fX6_snapshotAt a0 a1 a2 M).bind fun o1 => z_ox o1 (fun E9 => if E9 = "java/lang/IndexOutOfBoundsException" then (some (1, M)) else (none)) (fun x2 => (z_sa M a3 1 0 x2).bind fun M3 => some (0, M3))
def fL_destroySnapshot (a0 : Nat) (a1 : Int32) (a2 : Nat) (M : zM) : Option (Int32 × zM) :=
  z_b2 (fX6_destroySnapshot a0 a1 M) fun o1 M3 => z_ox o1 (fun E9 => if E9 = "java/lang/IndexOutOfBoundsException" then (some (1, M3)) else (if E9 = "java/lang/IllegalStateException" then (some (2, M3)) else (none))) (fun x2 => (z_sa M3 a2 1 0 x2).bind fun M4 => some (0, M4))
def fL_rollback (a0 : Nat) (a1 : Int32) (a2 : Int32) (a3 : Nat) (M : zM) : Option (Int32 × zM) :=
  z_b2 (fX6_rollback a0 a1 a2 M) fun o1 M3 => z_ox o1 (fun E9 => if E9 = "java/lang/IndexOutOfBoundsException" then (some (1, M3)) else (if E9 = "java/lang/IllegalArgumentException" then (some (2, M3)) else (if E9 = "java/lang/IllegalStateException" then (some (3, M3)) else (none)))) (fun x2 => (z_sa M3 a3 1 0 x2).bind fun M4 => some (0, M4))
def fL_changed (a0 : Nat) (a1 : Int32) (a2 : Int32) (a3 : Nat) (M : zM) : Option (Int32 × zM) :=
  (fX6_changed a0 a1 a2 M).bind fun o1 => z_ox o1 (fun E9 => if E9 = "java/lang/IndexOutOfBoundsException" then (some (1, M)) else (none)) (fun x2 => (z_sa M a3 1 0 x2).bind fun M3 => some (0, M3))
def fL_makeClone (a0 : Nat) (a1 : Int32) (a2 : Nat) (M : zM) : Option (Int32 × zM) :=
  z_b2 (fX6_makeClone a0 a1 M) fun o1 M3 => z_ox o1 (fun E9 => if E9 = "java/lang/IndexOutOfBoundsException" then (some (1, M3)) else (if E9 = "java/lang/IllegalStateException" then (some (2, M3)) else (none))) (fun x2 => (z_sa M3 a2 1 0 x2).bind fun M4 => some (0, M4))
def fL_origin (a0 : Nat) (a1 : Int32) (a2 : Nat) (M : zM) : Option (Int32 × zM) :=
  (fX6_origin a0 a1 M).bind fun o1 => z_ox o1 (fun E9 => if E9 = "java/lang/IndexOutOfBoundsException" then (some (1, M)) else (none)) (fun x2 => (z_sa M a2 1 0 x2).bind fun M3 => some (0, M3))
def fL_promote (a0 : Nat) (a1 : Int32) (a2 : Nat) (M : zM) : Option (Int32 × zM) :=
  z_b2 (fX6_promote a0 a1 M) fun o1 M3 => z_ox o1 (fun E9 => if E9 = "java/lang/IndexOutOfBoundsException" then (some (1, M3)) else (if E9 = "java/lang/IllegalStateException" then (some (2, M3)) else (none))) (fun x2 => (z_sa M3 a2 1 0 x2).bind fun M4 => some (0, M4))
def fL_destroy (a0 : Nat) (a1 : Int32) (a2 : Nat) (M : zM) : Option (Int32 × zM) :=
  z_b2 (fX6_destroy a0 a1 M) fun o1 M3 => z_ox o1 (fun E9 => if E9 = "java/lang/IndexOutOfBoundsException" then (some (1, M3)) else (if E9 = "java/lang/IllegalStateException" then (some (2, M3)) else (none))) (fun x2 => (z_sa M3 a2 1 0 x2).bind fun M4 => some (0, M4))
def fL_referenced (a0 : Nat) (a1 : Int32) (a2 : Nat) (M : zM) : Option (Int32 × zM) :=
  z_b2 (fX6_referenced a0 a1 M) fun o1 M3 => z_ox o1 (fun E9 => if E9 = "java/lang/IndexOutOfBoundsException" then (some (1, M3)) else (none)) (fun x2 => (z_sa M3 a2 1 0 x2).bind fun M4 => some (0, M4))
def fL_unique (a0 : Nat) (a1 : Int32) (a2 : Nat) (M : zM) : Option (Int32 × zM) :=
  z_b2 (fX6_unique a0 a1 M) fun o1 M3 => z_ox o1 (fun E9 => if E9 = "java/lang/IndexOutOfBoundsException" then (some (1, M3)) else (none)) (fun x2 => (z_sa M3 a2 1 0 x2).bind fun M4 => some (0, M4))
def fL_uniqueOfSnapshot (a0 : Nat) (a1 : Int32) (a2 : Nat) (M : zM) : Option (Int32 × zM) :=
  z_b2 (fX6_uniqueOfSnapshot a0 a1 M) fun o1 M3 => z_ox o1 (fun E9 => if E9 = "java/lang/IndexOutOfBoundsException" then (some (1, M3)) else (none)) (fun x2 => (z_sa M3 a2 1 0 x2).bind fun M4 => some (0, M4))
def fL_newer (a0 : Nat) (a1 : Int32) (a2 : Int32) (a3 : Nat) (M : zM) : Option (Int32 × zM) :=
  (fX6_newer a0 a1 a2 M).bind fun o1 => z_ox o1 (fun E9 => if E9 = "java/lang/IndexOutOfBoundsException" then (some (1, M)) else (none)) (fun x2 => (z_sa M a3 1 0 x2).bind fun M3 => some (0, M3))
def fL_birth (a0 : Nat) (a1 : Int32) (a2 : Nat) (M : zM) : Option (Int32 × zM) :=
  (fX6_birth a0 a1 M).bind fun o1 => z_ox o1 (fun E9 => if E9 = "java/lang/IndexOutOfBoundsException" then (some (1, M)) else (if E9 = "java/lang/IllegalStateException" then (some (2, M)) else (none))) (fun x2 => (z_sa M a2 1 0 x2).bind fun M3 => some (0, M3))
def fL_references (a0 : Nat) (a1 : Int32) (a2 : Nat) (M : zM) : Option (Int32 × zM) :=
  (fX6_references a0 a1 M).bind fun o1 => z_ox o1 (fun E9 => if E9 = "java/lang/IndexOutOfBoundsException" then (some (1, M)) else (none)) (fun x2 => (z_sa M a2 1 0 x2).bind fun M3 => some (0, M3))
def fL_freeIn (a0 : Nat) (a1 : Int32) (a2 : Nat) (M : zM) : Option (Int32 × zM) :=
  (fX6_freeIn a0 a1 M).bind fun o1 => z_ox o1 (fun E9 => if E9 = "java/lang/IndexOutOfBoundsException" then (some (1, M)) else (none)) (fun x2 => (z_sa M a2 1 0 x2).bind fun M3 => some (0, M3))
def fL_logEntries (a0 : Nat) (a1 : Int32) (a2 : Nat) (M : zM) : Option (Int32 × zM) :=
  (fX6_logEntries a0 a1 M).bind fun o1 => z_ox o1 (fun E9 => if E9 = "java/lang/IndexOutOfBoundsException" then (some (1, M)) else (none)) (fun x2 => (z_sa M a2 1 0 x2).bind fun M3 => some (0, M3))
def fL_runAt (a0 : Nat) (a1 : Int32) (a2 : Int32) (a3 : Nat) (M : zM) : Option (Int32 × zM) :=
  (fX6_runAt a0 a1 a2 M).bind fun o1 => z_ox o1 (fun E9 => if E9 = "java/lang/IndexOutOfBoundsException" then (some (1, M)) else (none)) (fun x2 => (z_sa M a3 1 0 x2).bind fun M3 => some (0, M3))
def fL_allocates (a0 : Nat) (a1 : Int32) (a2 : Int32) (a3 : Nat) (M : zM) : Option (Int32 × zM) :=
  (fX6_allocates a0 a1 a2 M).bind fun o1 => z_ox o1 (fun E9 => if E9 = "java/lang/IndexOutOfBoundsException" then (some (1, M)) else (none)) (fun x2 => if x2 = 0 then ((z_sa M a3 1 0 (0 : Int32)).bind fun M4 => some (0, M4)) else ((z_sa M a3 1 0 (1 : Int32)).bind fun M5 => some (0, M5)))
def fL_replay (a0 : Nat) (a1 : Int32) (a2 : Nat) (M : zM) : Option (Int32 × zM) :=
  z_b2 (fX6_replay a0 a1 M) fun o1 M3 => z_ox o1 (fun E9 => if E9 = "java/lang/IndexOutOfBoundsException" then (some (1, M3)) else (none)) (fun x2 => (z_sa M3 a2 1 0 x2).bind fun M4 => some (0, M4))
def fL_c0 (a1 a2 a3 a4 a5 a6 : Int32) (M : zM) : Option (Int32 × zM) :=
  z_b2 (fL_write 0 a1 a2 a3 a4 174 M) fun x1 M2 => z_b2 (fX7_write 169 a1 a2 a3 a4 M2) fun x3 M4 => (fX7_thrown 169 M4).bind fun x5 => if x5 = x1 then (if x1 = 0 then ((z_ld M4 174 1 0).bind fun x8 => if (lg_cmp (x8).toInt64 (x3).toInt64) = 0 then (some (1, M4)) else (some (0, M4))) else (some (1, M4))) else (some (0, M4))
def fL_c1 (a1 a2 a3 a4 a5 a6 : Int32) (M : zM) : Option (Int32 × zM) :=
  z_b2 (fL_read 0 a1 a2 a3 174 M) fun x1 M2 => z_b2 (fX7_read 169 a1 a2 a3 M2) fun x3 M4 => (fX7_thrown 169 M4).bind fun x5 => if x5 = x1 then (if x1 = 0 then ((z_ld M4 174 1 0).bind fun x8 => if (lg_cmp (x8).toInt64 (x3).toInt64) = 0 then (some (1, M4)) else (some (0, M4))) else (some (1, M4))) else (some (0, M4))
def fL_c2 (a1 a2 a3 a4 a5 a6 : Int32) (M : zM) : Option (Int32 × zM) :=
  z_b2 (fL_blockAt 0 a1 a2 a3 174 M) fun x1 M2 => z_b2 (fX7_blockAt 169 a1 a2 a3 M2) fun x3 M4 => (fX7_thrown 169 M4).bind fun x5 => if x5 = x1 then (if x1 = 0 then ((z_ld M4 174 1 0).bind fun x8 => if (lg_cmp (x8).toInt64 (x3).toInt64) = 0 then (some (1, M4)) else (some (0, M4))) else (some (1, M4))) else (some (0, M4))
def fL_c3 (a1 a2 a3 a4 a5 a6 : Int32) (M : zM) : Option (Int32 × zM) :=
  z_b2 (fL_length 0 a1 a2 174 M) fun x1 M2 => z_b2 (fX7_length 169 a1 a2 M2) fun x3 M4 => (fX7_thrown 169 M4).bind fun x5 => if x5 = x1 then (if x1 = 0 then ((z_ld M4 174 1 0).bind fun x8 => if (lg_cmp (x8).toInt64 (x3).toInt64) = 0 then (some (1, M4)) else (some (0, M4))) else (some (1, M4))) else (some (0, M4))
def fL_c4 (a1 a2 a3 a4 a5 a6 : Int32) (M : zM) : Option (Int32 × zM) :=
  z_b2 (fL_punch 0 a1 a2 a3 a4 174 M) fun x1 M2 => z_b2 (fX7_punch 169 a1 a2 a3 a4 M2) fun x3 M4 => (fX7_thrown 169 M4).bind fun x5 => if x5 = x1 then (if x1 = 0 then ((z_ld M4 174 1 0).bind fun x8 => if (lg_cmp (x8).toInt64 (x3).toInt64) = 0 then (some (1, M4)) else (some (0, M4))) else (some (1, M4))) else (some (0, M4))
def fL_c5 (a1 a2 a3 a4 a5 a6 : Int32) (M : zM) : Option (Int32 × zM) :=
  z_b2 (fL_reflink 0 a1 a2 a3 a4 a5 a6 174 M) fun x1 M2 => z_b2 (fX7_reflink 169 a1 a2 a3 a4 a5 a6 M2) fun x3 M4 => (fX7_thrown 169 M4).bind fun x5 => if x5 = x1 then (if x1 = 0 then ((z_ld M4 174 1 0).bind fun x8 => if (lg_cmp (x8).toInt64 (x3).toInt64) = 0 then (some (1, M4)) else (some (0, M4))) else (some (1, M4))) else (some (0, M4))
def fL_c6 (a1 a2 a3 a4 a5 a6 : Int32) (M : zM) : Option (Int32 × zM) :=
  z_b2 (fX6_commit 0 M) fun x1 M2 => z_b2 (fX7_commit 169 M2) fun x3 M4 => if x1 = x3 then (some (1, M4)) else (some (0, M4))
def fL_c7 (a1 a2 a3 a4 a5 a6 : Int32) (M : zM) : Option (Int32 × zM) :=
  z_b2 (fX6_crash 0 M) fun x1 M2 => z_b2 (fX7_crash 169 M2) fun x3 M4 => if x1 = x3 then (some (1, M4)) else (some (0, M4))
def fL_c8 (a1 a2 a3 a4 a5 a6 : Int32) (M : zM) : Option (Int32 × zM) :=
  (fX6_transaction 0 M).bind fun x1 => z_b2 (fX7_transaction 169 M) fun x2 M3 => if x1 = x2 then (some (1, M3)) else (some (0, M3))
def fL_c9 (a1 a2 a3 a4 a5 a6 : Int32) (M : zM) : Option (Int32 × zM) :=
  z_b2 (fL_snapshot 0 a1 174 M) fun x1 M2 => z_b2 (fX7_snapshot 169 a1 M2) fun x3 M4 => (fX7_thrown 169 M4).bind fun x5 => if x5 = x1 then (if x1 = 0 then ((z_ld M4 174 1 0).bind fun x8 => if (lg_cmp (x8).toInt64 (x3).toInt64) = 0 then (some (1, M4)) else (some (0, M4))) else (some (1, M4))) else (some (0, M4))
def fL_c10 (a1 a2 a3 a4 a5 a6 : Int32) (M : zM) : Option (Int32 × zM) :=
  z_b2 (fL_readSnapshot 0 a1 a2 a3 174 M) fun x1 M2 => z_b2 (fX7_readSnapshot 169 a1 a2 a3 M2) fun x3 M4 => (fX7_thrown 169 M4).bind fun x5 => if x5 = x1 then (if x1 = 0 then ((z_ld M4 174 1 0).bind fun x8 => if (lg_cmp (x8).toInt64 (x3).toInt64) = 0 then (some (1, M4)) else (some (0, M4))) else (some (1, M4))) else (some (0, M4))
def fL_c11 (a1 a2 a3 a4 a5 a6 : Int32) (M : zM) : Option (Int32 × zM) :=
  z_b2 (fL_blockInSnapshot 0 a1 a2 a3 174 M) fun x1 M2 => z_b2 (fX7_blockInSnapshot 169 a1 a2 a3 M2) fun x3 M4 => (fX7_thrown 169 M4).bind fun x5 => if x5 = x1 then (if x1 = 0 then ((z_ld M4 174 1 0).bind fun x8 => if (lg_cmp (x8).toInt64 (x3).toInt64) = 0 then (some (1, M4)) else (some (0, M4))) else (some (1, M4))) else (some (0, M4))
def fL_c12 (a1 a2 a3 a4 a5 a6 : Int32) (M : zM) : Option (Int32 × zM) :=
  z_b2 (fL_transactionOf 0 a1 174 M) fun x1 M2 => z_b2 (fX7_transactionOf 169 a1 M2) fun x3 M4 => (fX7_thrown 169 M4).bind fun x5 => if x5 = x1 then (if x1 = 0 then ((z_ld M4 174 1 0).bind fun x8 => if (lg_cmp (x8).toInt64 (x3).toInt64) = 0 then (some (1, M4)) else (some (0, M4))) else (some (1, M4))) else (some (0, M4))
def fL_c13 (a1 a2 a3 a4 a5 a6 : Int32) (M : zM) : Option (Int32 × zM) :=
  z_b2 (fL_datasetOf 0 a1 174 M) fun x1 M2 => z_b2 (fX7_datasetOf 169 a1 M2) fun x3 M4 => (fX7_thrown 169 M4).bind fun x5 => if x5 = x1 then (if x1 = 0 then ((z_ld M4 174 1 0).bind fun x8 => if (lg_cmp (x8).toInt64 (x3).toInt64) = 0 then (some (1, M4)) else (some (0, M4))) else (some (1, M4))) else (some (0, M4))
def fL_c14 (a1 a2 a3 a4 a5 a6 : Int32) (M : zM) : Option (Int32 × zM) :=
  z_b2 (fL_snapshots 0 a1 174 M) fun x1 M2 => z_b2 (fX7_snapshots 169 a1 M2) fun x3 M4 => (fX7_thrown 169 M4).bind fun x5 => if x5 = x1 then (if x1 = 0 then ((z_ld M4 174 1 0).bind fun x8 => if (lg_cmp (x8).toInt64 (x3).toInt64) = 0 then (some (1, M4)) else (some (0, M4))) else (some (1, M4))) else (some (0, M4))
def fL_c15 (a1 a2 a3 a4 a5 a6 : Int32) (M : zM) : Option (Int32 × zM) :=
  z_b2 (fL_snapshotAt 0 a1 a2 174 M) fun x1 M2 => z_b2 (fX7_snapshotAt 169 a1 a2 M2) fun x3 M4 => (fX7_thrown 169 M4).bind fun x5 => if x5 = x1 then (if x1 = 0 then ((z_ld M4 174 1 0).bind fun x8 => if (lg_cmp (x8).toInt64 (x3).toInt64) = 0 then (some (1, M4)) else (some (0, M4))) else (some (1, M4))) else (some (0, M4))
def fL_c16 (a1 a2 a3 a4 a5 a6 : Int32) (M : zM) : Option (Int32 × zM) :=
  z_b2 (fL_destroySnapshot 0 a1 174 M) fun x1 M2 => z_b2 (fX7_destroySnapshot 169 a1 M2) fun x3 M4 => (fX7_thrown 169 M4).bind fun x5 => if x5 = x1 then (if x1 = 0 then ((z_ld M4 174 1 0).bind fun x8 => if (lg_cmp (x8).toInt64 (x3).toInt64) = 0 then (some (1, M4)) else (some (0, M4))) else (some (1, M4))) else (some (0, M4))
def fL_c17 (a1 a2 a3 a4 a5 a6 : Int32) (M : zM) : Option (Int32 × zM) :=
  z_b2 (fL_rollback 0 a1 a2 174 M) fun x1 M2 => z_b2 (fX7_rollback 169 a1 a2 M2) fun x3 M4 => (fX7_thrown 169 M4).bind fun x5 => if x5 = x1 then (if x1 = 0 then ((z_ld M4 174 1 0).bind fun x8 => if (lg_cmp (x8).toInt64 (x3).toInt64) = 0 then (some (1, M4)) else (some (0, M4))) else (some (1, M4))) else (some (0, M4))
def fL_c18 (a1 a2 a3 a4 a5 a6 : Int32) (M : zM) : Option (Int32 × zM) :=
  z_b2 (fL_changed 0 a1 a2 174 M) fun x1 M2 => z_b2 (fX7_changed 169 a1 a2 M2) fun x3 M4 => (fX7_thrown 169 M4).bind fun x5 => if x5 = x1 then (if x1 = 0 then ((z_ld M4 174 1 0).bind fun x8 => if (lg_cmp (x8).toInt64 (x3).toInt64) = 0 then (some (1, M4)) else (some (0, M4))) else (some (1, M4))) else (some (0, M4))
def fL_c19 (a1 a2 a3 a4 a5 a6 : Int32) (M : zM) : Option (Int32 × zM) :=
  (fX6_datasets 0 M).bind fun x1 => z_b2 (fX7_datasets 169 M) fun x2 M3 => if x1 = x2 then (some (1, M3)) else (some (0, M3))
def fL_c20 (a1 a2 a3 a4 a5 a6 : Int32) (M : zM) : Option (Int32 × zM) :=
  z_b2 (fL_makeClone 0 a1 174 M) fun x1 M2 => z_b2 (fX7_makeClone 169 a1 M2) fun x3 M4 => (fX7_thrown 169 M4).bind fun x5 => if x5 = x1 then (if x1 = 0 then ((z_ld M4 174 1 0).bind fun x8 => if (lg_cmp (x8).toInt64 (x3).toInt64) = 0 then (some (1, M4)) else (some (0, M4))) else (some (1, M4))) else (some (0, M4))
def fL_c21 (a1 a2 a3 a4 a5 a6 : Int32) (M : zM) : Option (Int32 × zM) :=
  z_b2 (fL_origin 0 a1 174 M) fun x1 M2 => z_b2 (fX7_origin 169 a1 M2) fun x3 M4 => (fX7_thrown 169 M4).bind fun x5 => if x5 = x1 then (if x1 = 0 then ((z_ld M4 174 1 0).bind fun x8 => if (lg_cmp (x8).toInt64 (x3).toInt64) = 0 then (some (1, M4)) else (some (0, M4))) else (some (1, M4))) else (some (0, M4))
def fL_c22 (a1 a2 a3 a4 a5 a6 : Int32) (M : zM) : Option (Int32 × zM) :=
  z_b2 (fL_promote 0 a1 174 M) fun x1 M2 => z_b2 (fX7_promote 169 a1 M2) fun x3 M4 => (fX7_thrown 169 M4).bind fun x5 => if x5 = x1 then (if x1 = 0 then ((z_ld M4 174 1 0).bind fun x8 => if (lg_cmp (x8).toInt64 (x3).toInt64) = 0 then (some (1, M4)) else (some (0, M4))) else (some (1, M4))) else (some (0, M4))
def fL_c23 (a1 a2 a3 a4 a5 a6 : Int32) (M : zM) : Option (Int32 × zM) :=
  z_b2 (fL_destroy 0 a1 174 M) fun x1 M2 => z_b2 (fX7_destroy 169 a1 M2) fun x3 M4 => (fX7_thrown 169 M4).bind fun x5 => if x5 = x1 then (if x1 = 0 then ((z_ld M4 174 1 0).bind fun x8 => if (lg_cmp (x8).toInt64 (x3).toInt64) = 0 then (some (1, M4)) else (some (0, M4))) else (some (1, M4))) else (some (0, M4))
def fL_c24 (a1 a2 a3 a4 a5 a6 : Int32) (M : zM) : Option (Int32 × zM) :=
  z_b2 (fL_referenced 0 a1 174 M) fun x1 M2 => z_b2 (fX7_referenced 169 a1 M2) fun x3 M4 => (fX7_thrown 169 M4).bind fun x5 => if x5 = x1 then (if x1 = 0 then ((z_ld M4 174 1 0).bind fun x8 => if (lg_cmp (x8).toInt64 (x3).toInt64) = 0 then (some (1, M4)) else (some (0, M4))) else (some (1, M4))) else (some (0, M4))
def fL_c25 (a1 a2 a3 a4 a5 a6 : Int32) (M : zM) : Option (Int32 × zM) :=
  z_b2 (fL_unique 0 a1 174 M) fun x1 M2 => z_b2 (fX7_unique 169 a1 M2) fun x3 M4 => (fX7_thrown 169 M4).bind fun x5 => if x5 = x1 then (if x1 = 0 then ((z_ld M4 174 1 0).bind fun x8 => if (lg_cmp (x8).toInt64 (x3).toInt64) = 0 then (some (1, M4)) else (some (0, M4))) else (some (1, M4))) else (some (0, M4))
def fL_c26 (a1 a2 a3 a4 a5 a6 : Int32) (M : zM) : Option (Int32 × zM) :=
  z_b2 (fL_uniqueOfSnapshot 0 a1 174 M) fun x1 M2 => z_b2 (fX7_uniqueOfSnapshot 169 a1 M2) fun x3 M4 => (fX7_thrown 169 M4).bind fun x5 => if x5 = x1 then (if x1 = 0 then ((z_ld M4 174 1 0).bind fun x8 => if (lg_cmp (x8).toInt64 (x3).toInt64) = 0 then (some (1, M4)) else (some (0, M4))) else (some (1, M4))) else (some (0, M4))
def fL_c27 (a1 a2 a3 a4 a5 a6 : Int32) (M : zM) : Option (Int32 × zM) :=
  z_b2 (fL_newer 0 a1 a2 174 M) fun x1 M2 => z_b2 (fX7_newer 169 a1 a2 M2) fun x3 M4 => (fX7_thrown 169 M4).bind fun x5 => if x5 = x1 then (if x1 = 0 then ((z_ld M4 174 1 0).bind fun x8 => if (lg_cmp (x8).toInt64 (x3).toInt64) = 0 then (some (1, M4)) else (some (0, M4))) else (some (1, M4))) else (some (0, M4))
def fL_c28 (a1 a2 a3 a4 a5 a6 : Int32) (M : zM) : Option (Int32 × zM) :=
  z_b2 (fL_birth 0 a1 174 M) fun x1 M2 => z_b2 (fX7_birth 169 a1 M2) fun x3 M4 => (fX7_thrown 169 M4).bind fun x5 => if x5 = x1 then (if x1 = 0 then ((z_ld M4 174 1 0).bind fun x8 => if (lg_cmp (x8).toInt64 (x3).toInt64) = 0 then (some (1, M4)) else (some (0, M4))) else (some (1, M4))) else (some (0, M4))
def fL_c29 (a1 a2 a3 a4 a5 a6 : Int32) (M : zM) : Option (Int32 × zM) :=
  z_b2 (fL_references 0 a1 174 M) fun x1 M2 => z_b2 (fX7_references 169 a1 M2) fun x3 M4 => (fX7_thrown 169 M4).bind fun x5 => if x5 = x1 then (if x1 = 0 then ((z_ld M4 174 1 0).bind fun x8 => if (lg_cmp (x8).toInt64 (x3).toInt64) = 0 then (some (1, M4)) else (some (0, M4))) else (some (1, M4))) else (some (0, M4))
def fL_c30 (a1 a2 a3 a4 a5 a6 : Int32) (M : zM) : Option (Int32 × zM) :=
  (fX6_free 0 M).bind fun x1 => z_b2 (fX7_free 169 M) fun x2 M3 => if x1 = x2 then (some (1, M3)) else (some (0, M3))
def fL_c31 (a1 a2 a3 a4 a5 a6 : Int32) (M : zM) : Option (Int32 × zM) :=
  (fX6_pending 0 M).bind fun x1 => z_b2 (fX7_pending 169 M) fun x2 M3 => if x1 = x2 then (some (1, M3)) else (some (0, M3))
def fL_c32 (a1 a2 a3 a4 a5 a6 : Int32) (M : zM) : Option (Int32 × zM) :=
  z_b2 (fL_freeIn 0 a1 174 M) fun x1 M2 => z_b2 (fX7_freeIn 169 a1 M2) fun x3 M4 => (fX7_thrown 169 M4).bind fun x5 => if x5 = x1 then (if x1 = 0 then ((z_ld M4 174 1 0).bind fun x8 => if (lg_cmp (x8).toInt64 (x3).toInt64) = 0 then (some (1, M4)) else (some (0, M4))) else (some (1, M4))) else (some (0, M4))
def fL_c33 (a1 a2 a3 a4 a5 a6 : Int32) (M : zM) : Option (Int32 × zM) :=
  z_b2 (fL_logEntries 0 a1 174 M) fun x1 M2 => z_b2 (fX7_logEntries 169 a1 M2) fun x3 M4 => (fX7_thrown 169 M4).bind fun x5 => if x5 = x1 then (if x1 = 0 then ((z_ld M4 174 1 0).bind fun x8 => if (lg_cmp (x8).toInt64 (x3).toInt64) = 0 then (some (1, M4)) else (some (0, M4))) else (some (1, M4))) else (some (0, M4))
def fL_c34 (a1 a2 a3 a4 a5 a6 : Int32) (M : zM) : Option (Int32 × zM) :=
  z_b2 (fL_runAt 0 a1 a2 174 M) fun x1 M2 => z_b2 (fX7_runAt 169 a1 a2 M2) fun x3 M4 => (fX7_thrown 169 M4).bind fun x5 => if x5 = x1 then (if x1 = 0 then ((z_ld M4 174 1 0).bind fun x8 => if (lg_cmp (x8).toInt64 (x3).toInt64) = 0 then (some (1, M4)) else (some (0, M4))) else (some (1, M4))) else (some (0, M4))
def fL_c35 (a1 a2 a3 a4 a5 a6 : Int32) (M : zM) : Option (Int32 × zM) :=
  z_b2 (fL_allocates 0 a1 a2 174 M) fun x1 M2 => z_b2 (fX7_allocates 169 a1 a2 M2) fun x3 M4 => (fX7_thrown 169 M4).bind fun x5 => if x5 = x1 then (if x1 = 0 then ((z_ld M4 174 1 0).bind fun x8 => if x3 = 0 then (if (lg_cmp (x8).toInt64 ((0 : Int32)).toInt64) = 0 then (some (1, M4)) else (some (0, M4))) else (if (lg_cmp (x8).toInt64 ((1 : Int32)).toInt64) = 0 then (some (1, M4)) else (some (0, M4)))) else (some (1, M4))) else (some (0, M4))
def fL_c36 (a1 a2 a3 a4 a5 a6 : Int32) (M : zM) : Option (Int32 × zM) :=
  z_b2 (fL_replay 0 a1 174 M) fun x1 M2 => z_b2 (fX7_replay 169 a1 M2) fun x3 M4 => (fX7_thrown 169 M4).bind fun x5 => if x5 = x1 then (if x1 = 0 then ((z_ld M4 174 1 0).bind fun x8 => if (lg_cmp (x8).toInt64 (x3).toInt64) = 0 then (some (1, M4)) else (some (0, M4))) else (some (1, M4))) else (some (0, M4))
def fL_c37 (a1 a2 a3 a4 a5 a6 : Int32) (M : zM) : Option (Int32 × zM) :=
  (fX6_condensed 0 M).bind fun x1 => z_b2 (fX7_condensed 169 M) fun x2 M3 => if x1 = x2 then (some (1, M3)) else (some (0, M3))
