section
-- ===== PART A: goes FIRST, ahead of the names: the tables' words, and 'selects' of the private methods out of them =====
/-- a private method of a class that the tables say can be made, by its rows of tables_1 -/
def lw_okq (q : MethodName × Nat) : Prop := (q.1.cls ≠ "java/lang/invoke/MethodHandle" ∧ q.1.cls ≠ "java/lang/invoke/VarHandle") ∧ Cond.instantiable q.1.cls q.2 ∈ tables_1 ∧ Cond.privateMethod q.1 ∈ tables_1 ∧ Cond.instanceMethod q.1 ∈ tables_1
theorem lw_p0 : lw_okq (⟨"TrackDisk$Surface", "setSums", "(I)V"⟩, 9) := ⟨⟨by decide +kernel, by decide +kernel⟩, List.mem_of_getElem? (i := 31) (by decide +kernel), List.mem_of_getElem? (i := 37) (by decide +kernel), List.mem_of_getElem? (i := 38) (by decide +kernel)⟩
theorem lw_p1 : lw_okq (⟨"TrackDisk$Surface", "slot", "(II)I"⟩, 9) := ⟨⟨by decide +kernel, by decide +kernel⟩, List.mem_of_getElem? (i := 31) (by decide +kernel), List.mem_of_getElem? (i := 41) (by decide +kernel), List.mem_of_getElem? (i := 42) (by decide +kernel)⟩
theorem lw_p2 : lw_okq (⟨"TrackDisk$Surface", "sumOf", "(II)I"⟩, 9) := ⟨⟨by decide +kernel, by decide +kernel⟩, List.mem_of_getElem? (i := 31) (by decide +kernel), List.mem_of_getElem? (i := 45) (by decide +kernel), List.mem_of_getElem? (i := 46) (by decide +kernel)⟩
theorem lw_p3 : lw_okq (⟨"TrackDisk", "hasSector", "(II)Z"⟩, 8) := ⟨⟨by decide +kernel, by decide +kernel⟩, List.mem_of_getElem? (i := 14) (by decide +kernel), List.mem_of_getElem? (i := 156) (by decide +kernel), List.mem_of_getElem? (i := 157) (by decide +kernel)⟩
theorem lw_p4 : lw_okq (⟨"TrackDisk", "hasTrack", "(I)Z"⟩, 8) := ⟨⟨by decide +kernel, by decide +kernel⟩, List.mem_of_getElem? (i := 14) (by decide +kernel), List.mem_of_getElem? (i := 160) (by decide +kernel), List.mem_of_getElem? (i := 161) (by decide +kernel)⟩
theorem lw_p5 : lw_okq (⟨"TrackDisk", "layFirst", "(I)V"⟩, 8) := ⟨⟨by decide +kernel, by decide +kernel⟩, List.mem_of_getElem? (i := 14) (by decide +kernel), List.mem_of_getElem? (i := 172) (by decide +kernel), List.mem_of_getElem? (i := 173) (by decide +kernel)⟩
theorem lw_p6 : lw_okq (⟨"TrackDisk$Surface", "fill", "(IIBI)V"⟩, 9) := ⟨⟨by decide +kernel, by decide +kernel⟩, List.mem_of_getElem? (i := 31) (by decide +kernel), List.mem_of_getElem? (i := 180) (by decide +kernel), List.mem_of_getElem? (i := 181) (by decide +kernel)⟩
theorem lw_p7 : lw_okq (⟨"TrackDisk$Surface", "isWrong", "(II)Z"⟩, 9) := ⟨⟨by decide +kernel, by decide +kernel⟩, List.mem_of_getElem? (i := 31) (by decide +kernel), List.mem_of_getElem? (i := 208) (by decide +kernel), List.mem_of_getElem? (i := 209) (by decide +kernel)⟩
theorem lw_p8 : lw_okq (⟨"TrackDisk$Surface", "holdsMoreThanZeros", "(I)Z"⟩, 9) := ⟨⟨by decide +kernel, by decide +kernel⟩, List.mem_of_getElem? (i := 31) (by decide +kernel), List.mem_of_getElem? (i := 224) (by decide +kernel), List.mem_of_getElem? (i := 225) (by decide +kernel)⟩
theorem lw_p9 : lw_okq (⟨"TrackDisk", "dumpOf", "(I)LTrackDisk$Surface;"⟩, 8) := ⟨⟨by decide +kernel, by decide +kernel⟩, List.mem_of_getElem? (i := 14) (by decide +kernel), List.mem_of_getElem? (i := 271) (by decide +kernel), List.mem_of_getElem? (i := 272) (by decide +kernel)⟩
theorem lw_p10 : lw_okq (⟨"TrackDisk", "differingFromLatestDump", "()I"⟩, 8) := ⟨⟨by decide +kernel, by decide +kernel⟩, List.mem_of_getElem? (i := 14) (by decide +kernel), List.mem_of_getElem? (i := 295) (by decide +kernel), List.mem_of_getElem? (i := 296) (by decide +kernel)⟩
theorem lw_p11 : lw_okq (⟨"TrackDisk$Surface", "differsAt", "(LTrackDisk$Surface;I)Z"⟩, 9) := ⟨⟨by decide +kernel, by decide +kernel⟩, List.mem_of_getElem? (i := 31) (by decide +kernel), List.mem_of_getElem? (i := 303) (by decide +kernel), List.mem_of_getElem? (i := 304) (by decide +kernel)⟩
theorem lw_p12 : lw_okq (⟨"java/lang/Throwable", "fillInStackTrace", "(I)Ljava/lang/Throwable;"⟩, 6) := ⟨⟨by decide +kernel, by decide +kernel⟩, List.mem_of_getElem? (i := 356) (by decide +kernel), List.mem_of_getElem? (i := 354) (by decide +kernel), List.mem_of_getElem? (i := 355) (by decide +kernel)⟩
theorem lw_p13 : lw_okq (⟨"TrackDiskModel", "sumOf", "(I)I"⟩, 21) := ⟨⟨by decide +kernel, by decide +kernel⟩, List.mem_of_getElem? (i := 388) (by decide +kernel), List.mem_of_getElem? (i := 394) (by decide +kernel), List.mem_of_getElem? (i := 395) (by decide +kernel)⟩
theorem lw_p14 : lw_okq (⟨"TrackDiskModel", "isSector", "(II)Z"⟩, 21) := ⟨⟨by decide +kernel, by decide +kernel⟩, List.mem_of_getElem? (i := 388) (by decide +kernel), List.mem_of_getElem? (i := 471) (by decide +kernel), List.mem_of_getElem? (i := 472) (by decide +kernel)⟩
theorem lw_p15 : lw_okq (⟨"TrackDiskModel", "isTrack", "(I)Z"⟩, 21) := ⟨⟨by decide +kernel, by decide +kernel⟩, List.mem_of_getElem? (i := 388) (by decide +kernel), List.mem_of_getElem? (i := 475) (by decide +kernel), List.mem_of_getElem? (i := 476) (by decide +kernel)⟩
def lw_privs_1 : List (MethodName × Nat) := [(⟨"TrackDisk$Surface", "setSums", "(I)V"⟩, 9), (⟨"TrackDisk$Surface", "slot", "(II)I"⟩, 9), (⟨"TrackDisk$Surface", "sumOf", "(II)I"⟩, 9), (⟨"TrackDisk", "hasSector", "(II)Z"⟩, 8), (⟨"TrackDisk", "hasTrack", "(I)Z"⟩, 8), (⟨"TrackDisk", "layFirst", "(I)V"⟩, 8), (⟨"TrackDisk$Surface", "fill", "(IIBI)V"⟩, 9), (⟨"TrackDisk$Surface", "isWrong", "(II)Z"⟩, 9), (⟨"TrackDisk$Surface", "holdsMoreThanZeros", "(I)Z"⟩, 9), (⟨"TrackDisk", "dumpOf", "(I)LTrackDisk$Surface;"⟩, 8), (⟨"TrackDisk", "differingFromLatestDump", "()I"⟩, 8), (⟨"TrackDisk$Surface", "differsAt", "(LTrackDisk$Surface;I)Z"⟩, 9), (⟨"java/lang/Throwable", "fillInStackTrace", "(I)Ljava/lang/Throwable;"⟩, 6), (⟨"TrackDiskModel", "sumOf", "(I)I"⟩, 21), (⟨"TrackDiskModel", "isSector", "(II)Z"⟩, 21), (⟨"TrackDiskModel", "isTrack", "(I)Z"⟩, 21)]
theorem lw_r1 : ∀ q ∈ lw_privs_1, lw_okq q := List.forall_mem_cons.mpr ⟨lw_p0, List.forall_mem_cons.mpr ⟨lw_p1, List.forall_mem_cons.mpr ⟨lw_p2, List.forall_mem_cons.mpr ⟨lw_p3, List.forall_mem_cons.mpr ⟨lw_p4, List.forall_mem_cons.mpr ⟨lw_p5, List.forall_mem_cons.mpr ⟨lw_p6, List.forall_mem_cons.mpr ⟨lw_p7, List.forall_mem_cons.mpr ⟨lw_p8, List.forall_mem_cons.mpr ⟨lw_p9, List.forall_mem_cons.mpr ⟨lw_p10, List.forall_mem_cons.mpr ⟨lw_p11, List.forall_mem_cons.mpr ⟨lw_p12, List.forall_mem_cons.mpr ⟨lw_p13, List.forall_mem_cons.mpr ⟨lw_p14, List.forall_mem_cons.mpr ⟨lw_p15, fun _ h => absurd h List.not_mem_nil⟩⟩⟩⟩⟩⟩⟩⟩⟩⟩⟩⟩⟩⟩⟩⟩
theorem lw_p16 : lw_okq (⟨"TrackDiskModel", "whole", "(I)V"⟩, 21) := ⟨⟨by decide +kernel, by decide +kernel⟩, List.mem_of_getElem? (i := 388) (by decide +kernel), List.mem_of_getElem? (i := 483) (by decide +kernel), List.mem_of_getElem? (i := 484) (by decide +kernel)⟩
theorem lw_p17 : lw_okq (⟨"TrackDiskModel", "done", "(II)V"⟩, 21) := ⟨⟨by decide +kernel, by decide +kernel⟩, List.mem_of_getElem? (i := 388) (by decide +kernel), List.mem_of_getElem? (i := 487) (by decide +kernel), List.mem_of_getElem? (i := 488) (by decide +kernel)⟩
theorem lw_p18 : lw_okq (⟨"TrackDiskModel", "lies", "(II)I"⟩, 21) := ⟨⟨by decide +kernel, by decide +kernel⟩, List.mem_of_getElem? (i := 388) (by decide +kernel), List.mem_of_getElem? (i := 491) (by decide +kernel), List.mem_of_getElem? (i := 492) (by decide +kernel)⟩
theorem lw_p19 : lw_okq (⟨"TrackDiskModel", "isWrong", "(II)Z"⟩, 21) := ⟨⟨by decide +kernel, by decide +kernel⟩, List.mem_of_getElem? (i := 388) (by decide +kernel), List.mem_of_getElem? (i := 503) (by decide +kernel), List.mem_of_getElem? (i := 504) (by decide +kernel)⟩
theorem lw_p20 : lw_okq (⟨"TrackDiskModel", "isUsed", "(I)I"⟩, 21) := ⟨⟨by decide +kernel, by decide +kernel⟩, List.mem_of_getElem? (i := 388) (by decide +kernel), List.mem_of_getElem? (i := 524) (by decide +kernel), List.mem_of_getElem? (i := 525) (by decide +kernel)⟩
theorem lw_p21 : lw_okq (⟨"TrackDiskModel", "differs", "(I)I"⟩, 21) := ⟨⟨by decide +kernel, by decide +kernel⟩, List.mem_of_getElem? (i := 388) (by decide +kernel), List.mem_of_getElem? (i := 556) (by decide +kernel), List.mem_of_getElem? (i := 557) (by decide +kernel)⟩
def lw_privs_2 : List (MethodName × Nat) := [(⟨"TrackDiskModel", "whole", "(I)V"⟩, 21), (⟨"TrackDiskModel", "done", "(II)V"⟩, 21), (⟨"TrackDiskModel", "lies", "(II)I"⟩, 21), (⟨"TrackDiskModel", "isWrong", "(II)Z"⟩, 21), (⟨"TrackDiskModel", "isUsed", "(I)I"⟩, 21), (⟨"TrackDiskModel", "differs", "(I)I"⟩, 21)]
theorem lw_r2 : ∀ q ∈ lw_privs_2, lw_okq q := List.forall_mem_cons.mpr ⟨lw_p16, List.forall_mem_cons.mpr ⟨lw_p17, List.forall_mem_cons.mpr ⟨lw_p18, List.forall_mem_cons.mpr ⟨lw_p19, List.forall_mem_cons.mpr ⟨lw_p20, List.forall_mem_cons.mpr ⟨lw_p21, fun _ h => absurd h List.not_mem_nil⟩⟩⟩⟩⟩⟩
def lw_privs : List (MethodName × Nat) := lw_privs_1 ++ (lw_privs_2)
def lw_tbl : List Cond := k2_sels lw_privs ++ tables_1
theorem lw_privs_ok : ∀ q ∈ lw_privs, lw_okq q := by
  show ∀ q ∈ lw_privs_1 ++ (lw_privs_2), lw_okq q
  exact List.forall_mem_append.mpr ⟨lw_r1, lw_r2⟩
end
section
/-! ===== BEGIN words of one list among another's, by their places ===== -/
theorem goodIn_r {big : List Cond} (ws : List Cond) (ps : List Nat) (hp : ws = ps.filterMap (fun i => big[i]?)) (h : ws.all goodWord = true) : GoodIn big ws := by
  intro w hw
  have h1 := List.all_eq_true.mp h w hw
  rw [hp] at hw
  obtain ⟨i, -, hi⟩ := List.mem_filterMap.mp hw
  have hm : w ∈ big := by first | exact List.mem_of_getElem? hi | exact List.getElem?_mem hi
  exact ⟨hm, good_of_word h1⟩
theorem goodIn_app {big a b : List Cond} (ha : GoodIn big a) (hb : GoodIn big b) : GoodIn big (a ++ b) := fun w h => (List.mem_append.mp h).elim (ha w) (hb w)
theorem goodIn_ca {big a b : List Cond} {c : Cond} (ha : GoodIn big (c :: a)) (hb : GoodIn big b) : GoodIn big (c :: (a ++ b)) := fun w h => (List.mem_cons.mp h).elim (fun e => ha w (List.mem_cons.mpr (Or.inl e))) (fun h => (List.mem_append.mp h).elim (fun h => ha w (List.mem_cons.mpr (Or.inr h))) (hb w))
theorem goodIn_sub {big ws : List Cond} (hm : ∀ w ∈ ws, w ∈ big) (h : ws.all goodWord = true) : GoodIn big ws := fun w hw => ⟨hm w hw, good_of_word (List.all_eq_true.mp h w hw)⟩
/-! ===== END ===== -/

/-! ===== BEGIN printed: names, fields, word lists, decode rows ===== -/
def RX0 : String := "TrackDisk$Reel"
def TX0 : u_T := fun k => match k with
  | 0 => ("TrackDisk$Reel", "rows", "[I", true)
  | 1 => ("TrackDisk$Reel", "size", "I", false)
  | _ => ("TrackDisk$Reel", "stand", "I", false)
def tyX0 : Nat → FieldType := fun k => match k with
  | 0 => .array .int
  | 1 => .int
  | _ => .int
abbrev wsX00 : List Cond := u_ws RX0 TX0 3
theorem nmX0 : ∀ a, a < 3 → ∀ b, b < 3 → a ≠ b → (TX0 a).2.1 ≠ (TX0 b).2.1 := by decide +kernel
theorem tyX0_ok : ∀ k, k < 3 → parseFieldDescriptor (TX0 k).2.2.1 = some (tyX0 k) := by decide +kernel
abbrev cX0_init : ByteArray := prog_2_method_1_code
def yX0_init : MethodName := ⟨RX0, "<init>", "()V"⟩
abbrev cX0_record : ByteArray := prog_2_method_2_code
def yX0_record : MethodName := ⟨RX0, "record", "(I)V"⟩
abbrev cX0_pass : ByteArray := prog_2_method_3_code
def yX0_pass : MethodName := ⟨RX0, "pass", "()I"⟩
def RX1 : String := "TrackDisk$Surface"
def TX1 : u_T := fun k => match k with
  | 0 => ("TrackDisk$Surface", "tracks", "I", true)
  | 1 => ("TrackDisk$Surface", "sectors", "I", true)
  | 2 => ("TrackDisk$Surface", "bytes", "[B", true)
  | 3 => ("TrackDisk$Surface", "sums", "[I", true)
  | 4 => ("TrackDisk$Surface", "place", "[I", true)
  | 5 => ("TrackDisk$Surface", "usedByRow0", "[I", true)
  | 6 => ("TrackDisk$Surface", "usedByRow1", "[I", true)
  | 7 => ("TrackDisk$Surface", "taken", "I", false)
  | _ => ("TrackDisk$Surface", "volume", "I", false)
def tyX1 : Nat → FieldType := fun k => match k with
  | 0 => .int
  | 1 => .int
  | 2 => .array .byte
  | 3 => .array .int
  | 4 => .array .int
  | 5 => .array .int
  | 6 => .array .int
  | 7 => .int
  | _ => .int
abbrev wsX10 : List Cond := u_ws RX1 TX1 9
theorem nmX1 : ∀ a, a < 9 → ∀ b, b < 9 → a ≠ b → (TX1 a).2.1 ≠ (TX1 b).2.1 := by decide +kernel
theorem tyX1_ok : ∀ k, k < 9 → parseFieldDescriptor (TX1 k).2.2.1 = some (tyX1 k) := by decide +kernel
abbrev cX1_init : ByteArray := prog_3_method_1_code
def yX1_init : MethodName := ⟨RX1, "<init>", "(II)V"⟩
abbrev cX1_firstByte : ByteArray := prog_3_method_2_code
def yX1_firstByte : MethodName := ⟨RX1, "firstByte", "(II)I"⟩
abbrev cX1_lay : ByteArray := prog_3_method_3_code
def yX1_lay : MethodName := ⟨RX1, "lay", "(IIB)V"⟩
abbrev cX1_layTorn : ByteArray := prog_3_method_4_code
def yX1_layTorn : MethodName := ⟨RX1, "layTorn", "(IIBI)V"⟩
abbrev cX1_wrongSectors : ByteArray := prog_3_method_5_code
def yX1_wrongSectors : MethodName := ⟨RX1, "wrongSectors", "()I"⟩
abbrev cX1_firstWrong : ByteArray := prog_3_method_6_code
def yX1_firstWrong : MethodName := ⟨RX1, "firstWrong", "()I"⟩
abbrev cX1_mendRows : ByteArray := prog_3_method_7_code
def yX1_mendRows : MethodName := ⟨RX1, "mendRows", "()I"⟩
abbrev cX1_isSent : ByteArray := prog_3_method_8_code
def yX1_isSent : MethodName := ⟨RX1, "isSent", "(I)Z"⟩
abbrev cX1_send : ByteArray := prog_3_method_9_code
def yX1_send : MethodName := ⟨RX1, "send", "(I)I"⟩
abbrev cX1_takeOver : ByteArray := prog_3_method_10_code
def yX1_takeOver : MethodName := ⟨RX1, "takeOver", "(LTrackDisk$Surface;)V"⟩
abbrev cX1_differingSectors : ByteArray := prog_3_method_11_code
def yX1_differingSectors : MethodName := ⟨RX1, "differingSectors", "(LTrackDisk$Surface;)I"⟩
abbrev cX1_slot : ByteArray := prog_3_method_12_code
def yX1_slot : MethodName := ⟨RX1, "slot", "(II)I"⟩
abbrev cX1_fill : ByteArray := prog_3_method_13_code
def yX1_fill : MethodName := ⟨RX1, "fill", "(IIBI)V"⟩
abbrev cX1_setSums : ByteArray := prog_3_method_14_code
def yX1_setSums : MethodName := ⟨RX1, "setSums", "(I)V"⟩
abbrev cX1_sumOf : ByteArray := prog_3_method_15_code
def yX1_sumOf : MethodName := ⟨RX1, "sumOf", "(II)I"⟩
abbrev cX1_isWrong : ByteArray := prog_3_method_16_code
def yX1_isWrong : MethodName := ⟨RX1, "isWrong", "(II)Z"⟩
abbrev cX1_holdsMoreThanZeros : ByteArray := prog_3_method_17_code
def yX1_holdsMoreThanZeros : MethodName := ⟨RX1, "holdsMoreThanZeros", "(I)Z"⟩
abbrev cX1_differsAt : ByteArray := prog_3_method_18_code
def yX1_differsAt : MethodName := ⟨RX1, "differsAt", "(LTrackDisk$Surface;I)Z"⟩
def RX2 : String := "TrackDisk$Waiting"
def TX2 : u_T := fun k => match k with
  | 0 => ("TrackDisk$Waiting", "track", "[I", true)
  | 1 => ("TrackDisk$Waiting", "sector", "[I", true)
  | 2 => ("TrackDisk$Waiting", "first", "[B", true)
  | _ => ("TrackDisk$Waiting", "size", "I", false)
def tyX2 : Nat → FieldType := fun k => match k with
  | 0 => .array .int
  | 1 => .array .int
  | 2 => .array .byte
  | _ => .int
abbrev wsX20 : List Cond := u_ws RX2 TX2 4
theorem nmX2 : ∀ a, a < 4 → ∀ b, b < 4 → a ≠ b → (TX2 a).2.1 ≠ (TX2 b).2.1 := by decide +kernel
theorem tyX2_ok : ∀ k, k < 4 → parseFieldDescriptor (TX2 k).2.2.1 = some (tyX2 k) := by decide +kernel
abbrev cX2_init : ByteArray := prog_4_method_1_code
def yX2_init : MethodName := ⟨RX2, "<init>", "()V"⟩
abbrev cX2_append : ByteArray := prog_4_method_2_code
def yX2_append : MethodName := ⟨RX2, "append", "(IIB)V"⟩
abbrev cX2_drop : ByteArray := prog_4_method_3_code
def yX2_drop : MethodName := ⟨RX2, "drop", "()V"⟩
def RX3 : String := "TrackDisk"
def TX3 : u_T := fun k => match k with
  | 0 => ("TrackDisk", "tracks", "I", true)
  | 1 => ("TrackDisk", "sectors", "I", true)
  | 2 => ("TrackDisk", "disk", "LTrackDisk$Surface;", true)
  | 3 => ("TrackDisk", "dumps", "[LTrackDisk$Surface;", true)
  | 4 => ("TrackDisk", "dumpsMade", "I", false)
  | 5 => ("TrackDisk", "waiting", "LTrackDisk$Waiting;", true)
  | 6 => ("TrackDisk", "reel", "LTrackDisk$Reel;", true)
  | _ => ("TrackDisk", "down", "Z", false)
def tyX3 : Nat → FieldType := fun k => match k with
  | 0 => .int
  | 1 => .int
  | 2 => .object "TrackDisk$Surface"
  | 3 => .array (.object "TrackDisk$Surface")
  | 4 => .int
  | 5 => .object "TrackDisk$Waiting"
  | 6 => .object "TrackDisk$Reel"
  | _ => .boolean
abbrev wsX30 : List Cond := u_ws RX3 TX3 8
theorem nmX3 : ∀ a, a < 8 → ∀ b, b < 8 → a ≠ b → (TX3 a).2.1 ≠ (TX3 b).2.1 := by decide +kernel
theorem tyX3_ok : ∀ k, k < 8 → parseFieldDescriptor (TX3 k).2.2.1 = some (tyX3 k) := by decide +kernel
abbrev cX3_init : ByteArray := prog_1_method_1_code
def yX3_init : MethodName := ⟨RX3, "<init>", "(II)V"⟩
abbrev cX3_write : ByteArray := prog_1_method_2_code
def yX3_write : MethodName := ⟨RX3, "write", "(IIB)I"⟩
abbrev cX3_read : ByteArray := prog_1_method_3_code
def yX3_read : MethodName := ⟨RX3, "read", "(III)B"⟩
abbrev cX3_sync : ByteArray := prog_1_method_4_code
def yX3_sync : MethodName := ⟨RX3, "sync", "()I"⟩
abbrev cX3_cut : ByteArray := prog_1_method_5_code
def yX3_cut : MethodName := ⟨RX3, "cut", "(II)V"⟩
abbrev cX3_start : ByteArray := prog_1_method_6_code
def yX3_start : MethodName := ⟨RX3, "start", "()I"⟩
abbrev cX3_space : ByteArray := prog_1_method_7_code
def yX3_space : MethodName := ⟨RX3, "space", "(II)I"⟩
abbrev cX3_mend : ByteArray := prog_1_method_8_code
def yX3_mend : MethodName := ⟨RX3, "mend", "()I"⟩
abbrev cX3_poke : ByteArray := prog_1_method_9_code
def yX3_poke : MethodName := ⟨RX3, "poke", "(IIII)I"⟩
abbrev cX3_wrong : ByteArray := prog_1_method_10_code
def yX3_wrong : MethodName := ⟨RX3, "wrong", "(I)I"⟩
abbrev cX3_alternate : ByteArray := prog_1_method_11_code
def yX3_alternate : MethodName := ⟨RX3, "alternate", "(I)I"⟩
abbrev cX3_dump : ByteArray := prog_1_method_12_code
def yX3_dump : MethodName := ⟨RX3, "dump", "(I)I"⟩
abbrev cX3_restore : ByteArray := prog_1_method_13_code
def yX3_restore : MethodName := ⟨RX3, "restore", "(II)I"⟩
abbrev cX3_tape : ByteArray := prog_1_method_14_code
def yX3_tape : MethodName := ⟨RX3, "tape", "(I)I"⟩
abbrev cX3_next : ByteArray := prog_1_method_15_code
def yX3_next : MethodName := ⟨RX3, "next", "()I"⟩
abbrev cX3_count : ByteArray := prog_1_method_16_code
def yX3_count : MethodName := ⟨RX3, "count", "(I)I"⟩
abbrev cX3_held : ByteArray := prog_1_method_17_code
def yX3_held : MethodName := ⟨RX3, "held", "(III)I"⟩
abbrev cX3_isByteNumber : ByteArray := prog_1_method_18_code
def yX3_isByteNumber : MethodName := ⟨RX3, "isByteNumber", "(I)Z"⟩
abbrev cX3_hasTrack : ByteArray := prog_1_method_19_code
def yX3_hasTrack : MethodName := ⟨RX3, "hasTrack", "(I)Z"⟩
abbrev cX3_hasSector : ByteArray := prog_1_method_20_code
def yX3_hasSector : MethodName := ⟨RX3, "hasSector", "(II)Z"⟩
abbrev cX3_layFirst : ByteArray := prog_1_method_21_code
def yX3_layFirst : MethodName := ⟨RX3, "layFirst", "(I)V"⟩
abbrev cX3_dumpOf : ByteArray := prog_1_method_22_code
def yX3_dumpOf : MethodName := ⟨RX3, "dumpOf", "(I)LTrackDisk$Surface;"⟩
abbrev cX3_differingFromLatestDump : ByteArray := prog_1_method_23_code
def yX3_differingFromLatestDump : MethodName := ⟨RX3, "differingFromLatestDump", "()I"⟩
def RX4 : String := "TrackDiskModel"
def TX4 : u_T := fun k => match k with
  | 0 => ("TrackDiskModel", "code", "I", false)
  | 1 => ("TrackDiskModel", "tracks", "I", true)
  | 2 => ("TrackDiskModel", "sectors", "I", true)
  | 3 => ("TrackDiskModel", "bytes", "[B", true)
  | 4 => ("TrackDiskModel", "kept", "[B", true)
  | 5 => ("TrackDiskModel", "sums", "[I", true)
  | 6 => ("TrackDiskModel", "keptSums", "[I", true)
  | 7 => ("TrackDiskModel", "sent", "[I", true)
  | 8 => ("TrackDiskModel", "space", "[I", true)
  | 9 => ("TrackDiskModel", "keptSent", "[I", true)
  | 10 => ("TrackDiskModel", "keptSpace", "[I", true)
  | 11 => ("TrackDiskModel", "volumes", "[I", true)
  | 12 => ("TrackDiskModel", "dumps", "I", false)
  | 13 => ("TrackDiskModel", "waiting", "I", false)
  | 14 => ("TrackDiskModel", "waitTracks", "[I", true)
  | 15 => ("TrackDiskModel", "waitSectors", "[I", true)
  | 16 => ("TrackDiskModel", "waitBytes", "[I", true)
  | 17 => ("TrackDiskModel", "down", "Z", false)
  | 18 => ("TrackDiskModel", "tape", "[I", true)
  | 19 => ("TrackDiskModel", "rows", "I", false)
  | _ => ("TrackDiskModel", "stands", "I", false)
def tyX4 : Nat → FieldType := fun k => match k with
  | 0 => .int
  | 1 => .int
  | 2 => .int
  | 3 => .array .byte
  | 4 => .array .byte
  | 5 => .array .int
  | 6 => .array .int
  | 7 => .array .int
  | 8 => .array .int
  | 9 => .array .int
  | 10 => .array .int
  | 11 => .array .int
  | 12 => .int
  | 13 => .int
  | 14 => .array .int
  | 15 => .array .int
  | 16 => .array .int
  | 17 => .boolean
  | 18 => .array .int
  | 19 => .int
  | _ => .int
abbrev wsX40 : List Cond := u_ws RX4 TX4 21
theorem nmX4 : ∀ a, a < 21 → ∀ b, b < 21 → a ≠ b → (TX4 a).2.1 ≠ (TX4 b).2.1 := by decide +kernel
theorem tyX4_ok : ∀ k, k < 21 → parseFieldDescriptor (TX4 k).2.2.1 = some (tyX4 k) := by decide +kernel
abbrev cX4_init : ByteArray := prog_6_method_1_code
def yX4_init : MethodName := ⟨RX4, "<init>", "(II)V"⟩
abbrev cX4_thrown : ByteArray := prog_6_method_2_code
def yX4_thrown : MethodName := ⟨RX4, "thrown", "()I"⟩
abbrev cX4_isTrack : ByteArray := prog_6_method_3_code
def yX4_isTrack : MethodName := ⟨RX4, "isTrack", "(I)Z"⟩
abbrev cX4_isSector : ByteArray := prog_6_method_4_code
def yX4_isSector : MethodName := ⟨RX4, "isSector", "(II)Z"⟩
abbrev cX4_lies : ByteArray := prog_6_method_5_code
def yX4_lies : MethodName := ⟨RX4, "lies", "(II)I"⟩
abbrev cX4_sumOf : ByteArray := prog_6_method_6_code
def yX4_sumOf : MethodName := ⟨RX4, "sumOf", "(I)I"⟩
abbrev cX4_write : ByteArray := prog_6_method_7_code
def yX4_write : MethodName := ⟨RX4, "write", "(IIB)I"⟩
abbrev cX4_done : ByteArray := prog_6_method_8_code
def yX4_done : MethodName := ⟨RX4, "done", "(II)V"⟩
abbrev cX4_whole : ByteArray := prog_6_method_9_code
def yX4_whole : MethodName := ⟨RX4, "whole", "(I)V"⟩
abbrev cX4_sync : ByteArray := prog_6_method_10_code
def yX4_sync : MethodName := ⟨RX4, "sync", "()I"⟩
abbrev cX4_cut : ByteArray := prog_6_method_11_code
def yX4_cut : MethodName := ⟨RX4, "cut", "(II)V"⟩
abbrev cX4_isWrong : ByteArray := prog_6_method_12_code
def yX4_isWrong : MethodName := ⟨RX4, "isWrong", "(II)Z"⟩
abbrev cX4_wrong : ByteArray := prog_6_method_13_code
def yX4_wrong : MethodName := ⟨RX4, "wrong", "(I)I"⟩
abbrev cX4_start : ByteArray := prog_6_method_14_code
def yX4_start : MethodName := ⟨RX4, "start", "()I"⟩
abbrev cX4_poke : ByteArray := prog_6_method_15_code
def yX4_poke : MethodName := ⟨RX4, "poke", "(IIII)I"⟩
abbrev cX4_space : ByteArray := prog_6_method_16_code
def yX4_space : MethodName := ⟨RX4, "space", "(II)I"⟩
abbrev cX4_isUsed : ByteArray := prog_6_method_17_code
def yX4_isUsed : MethodName := ⟨RX4, "isUsed", "(I)I"⟩
abbrev cX4_mend : ByteArray := prog_6_method_18_code
def yX4_mend : MethodName := ⟨RX4, "mend", "()I"⟩
abbrev cX4_alternate : ByteArray := prog_6_method_19_code
def yX4_alternate : MethodName := ⟨RX4, "alternate", "(I)I"⟩
abbrev cX4_dump : ByteArray := prog_6_method_20_code
def yX4_dump : MethodName := ⟨RX4, "dump", "(I)I"⟩
abbrev cX4_restore : ByteArray := prog_6_method_21_code
def yX4_restore : MethodName := ⟨RX4, "restore", "(II)I"⟩
abbrev cX4_tape : ByteArray := prog_6_method_22_code
def yX4_tape : MethodName := ⟨RX4, "tape", "(I)I"⟩
abbrev cX4_next : ByteArray := prog_6_method_23_code
def yX4_next : MethodName := ⟨RX4, "next", "()I"⟩
abbrev cX4_read : ByteArray := prog_6_method_24_code
def yX4_read : MethodName := ⟨RX4, "read", "(III)B"⟩
abbrev cX4_differs : ByteArray := prog_6_method_25_code
def yX4_differs : MethodName := ⟨RX4, "differs", "(I)I"⟩
abbrev cX4_count : ByteArray := prog_6_method_26_code
def yX4_count : MethodName := ⟨RX4, "count", "(I)I"⟩
def RJx00060 : String := "java/lang/ArrayIndexOutOfBoundsException"
def TJx00060 : u_T := fun k => match k with
  | 0 => ("java/lang/Throwable", "cause", "Ljava/lang/Throwable;", false)
  | 1 => ("java/lang/Throwable", "stackTrace", "[Ljava/lang/StackTraceElement;", false)
  | 2 => ("java/lang/Throwable", "suppressedExceptions", "Ljava/util/List;", false)
  | 3 => ("java/lang/Throwable", "detailMessage", "Ljava/lang/String;", false)
  | 4 => ("java/lang/Throwable", "backtrace", "Ljava/lang/Object;", false)
  | _ => ("java/lang/Throwable", "depth", "I", false)
def tyJx00060 : Nat → FieldType := fun k => match k with
  | 0 => .object "java/lang/Throwable"
  | 1 => .array (.object "java/lang/StackTraceElement")
  | 2 => .object "java/util/List"
  | 3 => .object "java/lang/String"
  | 4 => .object "java/lang/Object"
  | _ => .int
abbrev wsJx000600 : List Cond := u_ws RJx00060 TJx00060 6
theorem nmJx00060 : ∀ a, a < 6 → ∀ b, b < 6 → a ≠ b → (TJx00060 a).2.1 ≠ (TJx00060 b).2.1 := by decide +kernel
theorem tyJx00060_ok : ∀ k, k < 6 → parseFieldDescriptor (TJx00060 k).2.2.1 = some (tyJx00060 k) := by decide +kernel
abbrev cJx00060_init_a7421 : ByteArray := prog_7_method_2_code
def yJx00060_init_a7421 : MethodName := ⟨RJx00060, "<init>", "(Ljava/lang/String;)V"⟩
def RJ9 : String := "java/lang/Math"
def TJ9 : u_T := fun k => match k with
  | _ => ("", "", "", false)
def tyJ9 : Nat → FieldType := fun k => match k with
  | _ => .int
abbrev wsJ90 : List Cond := u_ws RJ9 TJ9 0
theorem nmJ9 : ∀ a, a < 0 → ∀ b, b < 0 → a ≠ b → (TJ9 a).2.1 ≠ (TJ9 b).2.1 := by decide +kernel
theorem tyJ9_ok : ∀ k, k < 0 → parseFieldDescriptor (TJ9 k).2.2.1 = some (tyJ9 k) := by decide +kernel
abbrev cJ9_max_7cf53 : ByteArray := prog_10_method_65_code
def yJ9_max_7cf53 : MethodName := ⟨RJ9, "max", "(II)I"⟩
abbrev cJ9_min_7cf53 : ByteArray := prog_10_method_69_code
def yJ9_min_7cf53 : MethodName := ⟨RJ9, "min", "(II)I"⟩
def RJ0 : String := "java/lang/String"
def TJ0 : u_T := fun k => match k with
  | _ => ("", "", "", false)
def tyJ0 : Nat → FieldType := fun k => match k with
  | _ => .int
abbrev wsJ00 : List Cond := u_ws RJ0 TJ0 0
theorem nmJ0 : ∀ a, a < 0 → ∀ b, b < 0 → a ≠ b → (TJ0 a).2.1 ≠ (TJ0 b).2.1 := by decide +kernel
theorem tyJ0_ok : ∀ k, k < 0 → parseFieldDescriptor (TJ0 k).2.2.1 = some (tyJ0 k) := by decide +kernel
def RJ10 : String := "java/lang/System"
def TJ10 : u_T := fun k => match k with
  | _ => ("", "", "", false)
def tyJ10 : Nat → FieldType := fun k => match k with
  | _ => .int
abbrev wsJ100 : List Cond := u_ws RJ10 TJ10 0
theorem nmJ10 : ∀ a, a < 0 → ∀ b, b < 0 → a ≠ b → (TJ10 a).2.1 ≠ (TJ10 b).2.1 := by decide +kernel
theorem tyJ10_ok : ∀ k, k < 0 → parseFieldDescriptor (TJ10 k).2.2.1 = some (tyJ10 k) := by decide +kernel
def RL : String := "TrackDiskLaw"
abbrev cL_cell : ByteArray := method_2_code
def yL_cell : MethodName := ⟨RL, "cell", "([II)I"⟩
abbrev cL_read : ByteArray := method_3_code
def yL_read : MethodName := ⟨RL, "read", "(LTrackDisk;III[J)I"⟩
abbrev cL_law : ByteArray := code
def yL_law : MethodName := ⟨RL, "law", "([I)Z"⟩
def wsX0_init : List Cond := .code yX0_init cX0_init 1 none :: ([.methodLink RX0 3 objectInit, .instanceMethod objectInit, .code objectInit ⟨#[0xb1]⟩ 1 none, .arrayClass .int, .fieldLink RX0 9 "TrackDisk$Reel" "rows" "[I", .fieldLink RX0 15 "TrackDisk$Reel" "size" "I", .fieldLink RX0 19 "TrackDisk$Reel" "stand" "I"] ++ wsX00)
def wsX0_record : List Cond := .code yX0_record cX0_record 2 none :: ([.fieldLink RX0 19 "TrackDisk$Reel" "stand" "I", .fieldLink RX0 9 "TrackDisk$Reel" "rows" "[I", .fieldLink RX0 15 "TrackDisk$Reel" "size" "I"] ++ wsX00)
def wsX0_pass : List Cond := .code yX0_pass cX0_pass 2 (some .int) :: ([.fieldLink RX0 19 "TrackDisk$Reel" "stand" "I", .fieldLink RX0 15 "TrackDisk$Reel" "size" "I", .fieldLink RX0 9 "TrackDisk$Reel" "rows" "[I"] ++ wsX00)
def wsX1_slot : List Cond := .code yX1_slot cX1_slot 3 (some .int) :: ([.fieldLink RX1 15 "TrackDisk$Surface" "sectors" "I"] ++ wsX10)
def wsX1_sumOf : List Cond := .code yX1_sumOf cX1_sumOf 7 (some .int) :: ([.fieldLink RX1 18 "TrackDisk$Surface" "bytes" "[B", .constant RX1 77 (-1640531535), .methodLink RX1 45 yX1_slot, .instanceMethod yX1_slot, .selects RX1 yX1_slot yX1_slot, .initialized RX1, .code yX1_slot cX1_slot 3 (some .int), .fieldLink RX1 15 "TrackDisk$Surface" "sectors" "I"] ++ wsX10)
def wsX1_setSums : List Cond := .code yX1_setSums cX1_setSums 3 none :: ([.fieldLink RX1 15 "TrackDisk$Surface" "sectors" "I", .fieldLink RX1 22 "TrackDisk$Surface" "sums" "[I", .methodLink RX1 45 yX1_slot, .instanceMethod yX1_slot, .selects RX1 yX1_slot yX1_slot, .initialized RX1, .code yX1_slot cX1_slot 3 (some .int), .methodLink RX1 53 yX1_sumOf, .instanceMethod yX1_sumOf, .selects RX1 yX1_sumOf yX1_sumOf, .code yX1_sumOf cX1_sumOf 7 (some .int), .fieldLink RX1 18 "TrackDisk$Surface" "bytes" "[B", .constant RX1 77 (-1640531535)] ++ wsX10)
def wsX1_init_r1 : List Cond := [Cond.methodLink RX1 3 objectInit, Cond.instanceMethod objectInit, Cond.code objectInit ⟨#[0xb1]⟩ 1 none, Cond.fieldLink RX1 9 "TrackDisk$Surface" "tracks" "I", Cond.fieldLink RX1 15 "TrackDisk$Surface" "sectors" "I", Cond.arrayClass .byte, Cond.fieldLink RX1 18 "TrackDisk$Surface" "bytes" "[B", Cond.arrayClass .int, Cond.fieldLink RX1 22 "TrackDisk$Surface" "sums" "[I", Cond.fieldLink RX1 26 "TrackDisk$Surface" "place" "[I", Cond.fieldLink RX1 29 "TrackDisk$Surface" "usedByRow0" "[I", Cond.fieldLink RX1 32 "TrackDisk$Surface" "usedByRow1" "[I", Cond.fieldLink RX1 35 "TrackDisk$Surface" "taken" "I", Cond.fieldLink RX1 38 "TrackDisk$Surface" "volume" "I", Cond.methodLink RX1 41 yX1_setSums, Cond.instanceMethod yX1_setSums, Cond.selects RX1 yX1_setSums yX1_setSums, Cond.initialized RX1, Cond.code yX1_setSums cX1_setSums 3 none, Cond.methodLink RX1 45 yX1_slot, Cond.instanceMethod yX1_slot, Cond.selects RX1 yX1_slot yX1_slot, Cond.code yX1_slot cX1_slot 3 (some .int), Cond.methodLink RX1 53 yX1_sumOf]
def wsX1_init_r2 : List Cond := [Cond.instanceMethod yX1_sumOf, Cond.selects RX1 yX1_sumOf yX1_sumOf, Cond.code yX1_sumOf cX1_sumOf 7 (some .int), Cond.constant RX1 77 (-1640531535)]
def wsX1_init : List Cond := .code yX1_init cX1_init 5 none :: ((wsX1_init_r1 ++ wsX1_init_r2) ++ wsX10)
def wsX1_firstByte : List Cond := .code yX1_firstByte cX1_firstByte 3 (some .int) :: ([.fieldLink RX1 26 "TrackDisk$Surface" "place" "[I", .methodLink RX1 45 yX1_slot, .instanceMethod yX1_slot, .selects RX1 yX1_slot yX1_slot, .initialized RX1, .code yX1_slot cX1_slot 3 (some .int), .fieldLink RX1 15 "TrackDisk$Surface" "sectors" "I"] ++ wsX10)
def wsX1_fill : List Cond := .code yX1_fill cX1_fill 7 none :: ([.fieldLink RX1 18 "TrackDisk$Surface" "bytes" "[B", .methodLink RX1 64 yX1_firstByte, .instanceMethod yX1_firstByte, .selects RX1 yX1_firstByte yX1_firstByte, .initialized RX1, .code yX1_firstByte cX1_firstByte 3 (some .int), .fieldLink RX1 26 "TrackDisk$Surface" "place" "[I", .methodLink RX1 45 yX1_slot, .instanceMethod yX1_slot, .selects RX1 yX1_slot yX1_slot, .code yX1_slot cX1_slot 3 (some .int), .fieldLink RX1 15 "TrackDisk$Surface" "sectors" "I"] ++ wsX10)
def wsX1_lay : List Cond := .code yX1_lay cX1_lay 5 none :: ([.fieldLink RX1 26 "TrackDisk$Surface" "place" "[I", .fieldLink RX1 22 "TrackDisk$Surface" "sums" "[I", .fieldLink RX1 29 "TrackDisk$Surface" "usedByRow0" "[I", .fieldLink RX1 32 "TrackDisk$Surface" "usedByRow1" "[I", .methodLink RX1 49 yX1_fill, .instanceMethod yX1_fill, .selects RX1 yX1_fill yX1_fill, .initialized RX1, .code yX1_fill cX1_fill 7 none, .fieldLink RX1 18 "TrackDisk$Surface" "bytes" "[B", .methodLink RX1 64 yX1_firstByte, .instanceMethod yX1_firstByte, .selects RX1 yX1_firstByte yX1_firstByte, .code yX1_firstByte cX1_firstByte 3 (some .int), .methodLink RX1 45 yX1_slot, .instanceMethod yX1_slot, .selects RX1 yX1_slot yX1_slot, .code yX1_slot cX1_slot 3 (some .int), .fieldLink RX1 15 "TrackDisk$Surface" "sectors" "I", .methodLink RX1 53 yX1_sumOf, .instanceMethod yX1_sumOf, .selects RX1 yX1_sumOf yX1_sumOf, .code yX1_sumOf cX1_sumOf 7 (some .int), .constant RX1 77 (-1640531535)] ++ wsX10)
def wsX1_layTorn : List Cond := .code yX1_layTorn cX1_layTorn 5 none :: ([.fieldLink RX1 29 "TrackDisk$Surface" "usedByRow0" "[I", .methodLink RX1 49 yX1_fill, .instanceMethod yX1_fill, .selects RX1 yX1_fill yX1_fill, .initialized RX1, .code yX1_fill cX1_fill 7 none, .fieldLink RX1 18 "TrackDisk$Surface" "bytes" "[B", .methodLink RX1 64 yX1_firstByte, .instanceMethod yX1_firstByte, .selects RX1 yX1_firstByte yX1_firstByte, .code yX1_firstByte cX1_firstByte 3 (some .int), .fieldLink RX1 26 "TrackDisk$Surface" "place" "[I", .methodLink RX1 45 yX1_slot, .instanceMethod yX1_slot, .selects RX1 yX1_slot yX1_slot, .code yX1_slot cX1_slot 3 (some .int), .fieldLink RX1 15 "TrackDisk$Surface" "sectors" "I"] ++ wsX10)
def wsX1_isWrong : List Cond := .code yX1_isWrong cX1_isWrong 4 (some .boolean) :: ([.fieldLink RX1 26 "TrackDisk$Surface" "place" "[I", .fieldLink RX1 22 "TrackDisk$Surface" "sums" "[I", .methodLink RX1 45 yX1_slot, .instanceMethod yX1_slot, .selects RX1 yX1_slot yX1_slot, .initialized RX1, .code yX1_slot cX1_slot 3 (some .int), .fieldLink RX1 15 "TrackDisk$Surface" "sectors" "I", .methodLink RX1 53 yX1_sumOf, .instanceMethod yX1_sumOf, .selects RX1 yX1_sumOf yX1_sumOf, .code yX1_sumOf cX1_sumOf 7 (some .int), .fieldLink RX1 18 "TrackDisk$Surface" "bytes" "[B", .constant RX1 77 (-1640531535)] ++ wsX10)
def wsX1_wrongSectors : List Cond := .code yX1_wrongSectors cX1_wrongSectors 4 (some .int) :: ([.fieldLink RX1 9 "TrackDisk$Surface" "tracks" "I", .fieldLink RX1 15 "TrackDisk$Surface" "sectors" "I", .methodLink RX1 56 yX1_isWrong, .instanceMethod yX1_isWrong, .selects RX1 yX1_isWrong yX1_isWrong, .initialized RX1, .code yX1_isWrong cX1_isWrong 4 (some .boolean), .fieldLink RX1 26 "TrackDisk$Surface" "place" "[I", .fieldLink RX1 22 "TrackDisk$Surface" "sums" "[I", .methodLink RX1 45 yX1_slot, .instanceMethod yX1_slot, .selects RX1 yX1_slot yX1_slot, .code yX1_slot cX1_slot 3 (some .int), .methodLink RX1 53 yX1_sumOf, .instanceMethod yX1_sumOf, .selects RX1 yX1_sumOf yX1_sumOf, .code yX1_sumOf cX1_sumOf 7 (some .int), .fieldLink RX1 18 "TrackDisk$Surface" "bytes" "[B", .constant RX1 77 (-1640531535)] ++ wsX10)
def wsX1_firstWrong : List Cond := .code yX1_firstWrong cX1_firstWrong 3 (some .int) :: ([.fieldLink RX1 9 "TrackDisk$Surface" "tracks" "I", .fieldLink RX1 15 "TrackDisk$Surface" "sectors" "I", .methodLink RX1 56 yX1_isWrong, .instanceMethod yX1_isWrong, .selects RX1 yX1_isWrong yX1_isWrong, .initialized RX1, .code yX1_isWrong cX1_isWrong 4 (some .boolean), .fieldLink RX1 26 "TrackDisk$Surface" "place" "[I", .fieldLink RX1 22 "TrackDisk$Surface" "sums" "[I", .methodLink RX1 45 yX1_slot, .instanceMethod yX1_slot, .selects RX1 yX1_slot yX1_slot, .code yX1_slot cX1_slot 3 (some .int), .methodLink RX1 53 yX1_sumOf, .instanceMethod yX1_sumOf, .selects RX1 yX1_sumOf yX1_sumOf, .code yX1_sumOf cX1_sumOf 7 (some .int), .fieldLink RX1 18 "TrackDisk$Surface" "bytes" "[B", .constant RX1 77 (-1640531535)] ++ wsX10)
def wsX1_holdsMoreThanZeros : List Cond := .code yX1_holdsMoreThanZeros cX1_holdsMoreThanZeros 4 (some .boolean) :: ([.fieldLink RX1 15 "TrackDisk$Surface" "sectors" "I", .fieldLink RX1 18 "TrackDisk$Surface" "bytes" "[B", .methodLink RX1 64 yX1_firstByte, .instanceMethod yX1_firstByte, .selects RX1 yX1_firstByte yX1_firstByte, .initialized RX1, .code yX1_firstByte cX1_firstByte 3 (some .int), .fieldLink RX1 26 "TrackDisk$Surface" "place" "[I", .methodLink RX1 45 yX1_slot, .instanceMethod yX1_slot, .selects RX1 yX1_slot yX1_slot, .code yX1_slot cX1_slot 3 (some .int)] ++ wsX10)
def wsX1_mendRows : List Cond := .code yX1_mendRows cX1_mendRows 4 (some .int) :: ([.fieldLink RX1 9 "TrackDisk$Surface" "tracks" "I", .fieldLink RX1 29 "TrackDisk$Surface" "usedByRow0" "[I", .fieldLink RX1 32 "TrackDisk$Surface" "usedByRow1" "[I", .methodLink RX1 60 yX1_holdsMoreThanZeros, .instanceMethod yX1_holdsMoreThanZeros, .selects RX1 yX1_holdsMoreThanZeros yX1_holdsMoreThanZeros, .initialized RX1, .code yX1_holdsMoreThanZeros cX1_holdsMoreThanZeros 4 (some .boolean), .fieldLink RX1 15 "TrackDisk$Surface" "sectors" "I", .fieldLink RX1 18 "TrackDisk$Surface" "bytes" "[B", .methodLink RX1 64 yX1_firstByte, .instanceMethod yX1_firstByte, .selects RX1 yX1_firstByte yX1_firstByte, .code yX1_firstByte cX1_firstByte 3 (some .int), .fieldLink RX1 26 "TrackDisk$Surface" "place" "[I", .methodLink RX1 45 yX1_slot, .instanceMethod yX1_slot, .selects RX1 yX1_slot yX1_slot, .code yX1_slot cX1_slot 3 (some .int)] ++ wsX10)
def wsX1_isSent : List Cond := .code yX1_isSent cX1_isSent 2 (some .boolean) :: ([.fieldLink RX1 26 "TrackDisk$Surface" "place" "[I", .fieldLink RX1 9 "TrackDisk$Surface" "tracks" "I"] ++ wsX10)
def wsX1_send_r1 : List Cond := [Cond.fieldLink RX1 9 "TrackDisk$Surface" "tracks" "I", Cond.fieldLink RX1 35 "TrackDisk$Surface" "taken" "I", Cond.fieldLink RX1 18 "TrackDisk$Surface" "bytes" "[B", Cond.fieldLink RX1 15 "TrackDisk$Surface" "sectors" "I", Cond.methodLink RX1 67 arraycopyName, Cond.native arraycopyName, Cond.static arraycopyName, Cond.initialized "java/lang/System", Cond.fieldLink RX1 26 "TrackDisk$Surface" "place" "[I", Cond.methodLink RX1 64 yX1_firstByte, Cond.instanceMethod yX1_firstByte, Cond.selects RX1 yX1_firstByte yX1_firstByte, Cond.initialized RX1, Cond.code yX1_firstByte cX1_firstByte 3 (some .int), Cond.methodLink RX1 45 yX1_slot, Cond.instanceMethod yX1_slot, Cond.selects RX1 yX1_slot yX1_slot, Cond.code yX1_slot cX1_slot 3 (some .int), Cond.methodLink RX1 41 yX1_setSums, Cond.instanceMethod yX1_setSums, Cond.selects RX1 yX1_setSums yX1_setSums, Cond.code yX1_setSums cX1_setSums 3 none, Cond.fieldLink RX1 22 "TrackDisk$Surface" "sums" "[I", Cond.methodLink RX1 53 yX1_sumOf]
def wsX1_send_r2 : List Cond := [Cond.instanceMethod yX1_sumOf, Cond.selects RX1 yX1_sumOf yX1_sumOf, Cond.code yX1_sumOf cX1_sumOf 7 (some .int), Cond.constant RX1 77 (-1640531535)]
def wsX1_send : List Cond := .code yX1_send cX1_send 3 (some .int) :: ((wsX1_send_r1 ++ wsX1_send_r2) ++ wsX10)
def wsX1_takeOver : List Cond := .code yX1_takeOver cX1_takeOver 2 none :: ([.fieldLink RX1 18 "TrackDisk$Surface" "bytes" "[B", .methodLink RX1 67 arraycopyName, .native arraycopyName, .static arraycopyName, .initialized "java/lang/System", .fieldLink RX1 22 "TrackDisk$Surface" "sums" "[I", .fieldLink RX1 26 "TrackDisk$Surface" "place" "[I", .fieldLink RX1 29 "TrackDisk$Surface" "usedByRow0" "[I", .fieldLink RX1 32 "TrackDisk$Surface" "usedByRow1" "[I", .fieldLink RX1 35 "TrackDisk$Surface" "taken" "I", .fieldLink RX1 38 "TrackDisk$Surface" "volume" "I"] ++ wsX10)
def wsX1_differsAt : List Cond := .code yX1_differsAt cX1_differsAt 5 (some .boolean) :: ([.fieldLink RX1 18 "TrackDisk$Surface" "bytes" "[B"] ++ wsX10)
def wsX1_differingSectors : List Cond := .code yX1_differingSectors cX1_differingSectors 4 (some .int) :: ([.fieldLink RX1 22 "TrackDisk$Surface" "sums" "[I", .methodLink RX1 73 yX1_differsAt, .instanceMethod yX1_differsAt, .selects RX1 yX1_differsAt yX1_differsAt, .initialized RX1, .code yX1_differsAt cX1_differsAt 5 (some .boolean), .fieldLink RX1 18 "TrackDisk$Surface" "bytes" "[B"] ++ wsX10)
def wsX2_init : List Cond := .code yX2_init cX2_init 1 none :: ([.methodLink RX2 3 objectInit, .instanceMethod objectInit, .code objectInit ⟨#[0xb1]⟩ 1 none, .arrayClass .int, .fieldLink RX2 9 "TrackDisk$Waiting" "track" "[I", .fieldLink RX2 15 "TrackDisk$Waiting" "sector" "[I", .arrayClass .byte, .fieldLink RX2 18 "TrackDisk$Waiting" "first" "[B", .fieldLink RX2 22 "TrackDisk$Waiting" "size" "I"] ++ wsX20)
def wsX2_append : List Cond := .code yX2_append cX2_append 4 none :: ([.fieldLink RX2 22 "TrackDisk$Waiting" "size" "I", .fieldLink RX2 9 "TrackDisk$Waiting" "track" "[I", .fieldLink RX2 15 "TrackDisk$Waiting" "sector" "[I", .fieldLink RX2 18 "TrackDisk$Waiting" "first" "[B"] ++ wsX20)
def wsX2_drop : List Cond := .code yX2_drop cX2_drop 1 none :: ([.fieldLink RX2 22 "TrackDisk$Waiting" "size" "I"] ++ wsX20)
def wsX3_held : List Cond := .code yX3_held cX3_held 3 (some .int) :: ([.methodLink RX3 158 Lib.Math.min.name, .static Lib.Math.min.name, .initialized "java/lang/Math", .code Lib.Math.min.name Lib.Math.min.code 2 (some .int), .methodLink RX3 163 Lib.Math.max.name, .static Lib.Math.max.name, .code Lib.Math.max.name Lib.Math.max.code 2 (some .int)])
def wsX3_init_r1 : List Cond := [Cond.methodLink RX3 1 objectInit, Cond.instanceMethod objectInit, Cond.code objectInit ⟨#[0xb1]⟩ 1 none, Cond.fieldLink RX3 13 "TrackDisk" "tracks" "I", Cond.fieldLink RX3 17 "TrackDisk" "sectors" "I", Cond.classLink RX3 20 RX1, Cond.instantiable RX1 9, Cond.initialized RX1, Cond.fieldLink RX3 25 "TrackDisk" "disk" "LTrackDisk$Surface;", Cond.fieldLink RX3 29 "TrackDisk" "dumps" "[LTrackDisk$Surface;", Cond.fieldLink RX3 33 "TrackDisk" "dumpsMade" "I", Cond.classLink RX3 36 RX2, Cond.instantiable RX2 4, Cond.initialized RX2, Cond.fieldLink RX3 39 "TrackDisk" "waiting" "LTrackDisk$Waiting;", Cond.classLink RX3 43 RX0, Cond.instantiable RX0 3, Cond.initialized RX0, Cond.fieldLink RX3 46 "TrackDisk" "reel" "LTrackDisk$Reel;", Cond.fieldLink RX3 50 "TrackDisk" "down" "Z", Cond.methodLink RX3 9 yX3_held, Cond.static yX3_held, Cond.initialized RX3, Cond.code yX3_held cX3_held 3 (some .int)]
def wsX3_init_r2 : List Cond := [Cond.methodLink RX3 158 Lib.Math.min.name, Cond.static Lib.Math.min.name, Cond.initialized "java/lang/Math", Cond.code Lib.Math.min.name Lib.Math.min.code 2 (some .int), Cond.methodLink RX3 163 Lib.Math.max.name, Cond.static Lib.Math.max.name, Cond.code Lib.Math.max.name Lib.Math.max.code 2 (some .int), Cond.methodLink RX3 22 yX1_init, Cond.instanceMethod yX1_init, Cond.code yX1_init cX1_init 5 none, Cond.methodLink RX1 3 objectInit, Cond.fieldLink RX1 9 "TrackDisk$Surface" "tracks" "I", Cond.fieldLink RX1 15 "TrackDisk$Surface" "sectors" "I", Cond.arrayClass .byte, Cond.fieldLink RX1 18 "TrackDisk$Surface" "bytes" "[B", Cond.arrayClass .int, Cond.fieldLink RX1 22 "TrackDisk$Surface" "sums" "[I", Cond.fieldLink RX1 26 "TrackDisk$Surface" "place" "[I", Cond.fieldLink RX1 29 "TrackDisk$Surface" "usedByRow0" "[I", Cond.fieldLink RX1 32 "TrackDisk$Surface" "usedByRow1" "[I", Cond.fieldLink RX1 35 "TrackDisk$Surface" "taken" "I", Cond.fieldLink RX1 38 "TrackDisk$Surface" "volume" "I", Cond.methodLink RX1 41 yX1_setSums, Cond.instanceMethod yX1_setSums]
def wsX3_init_r3 : List Cond := [Cond.selects RX1 yX1_setSums yX1_setSums, Cond.code yX1_setSums cX1_setSums 3 none, Cond.methodLink RX1 45 yX1_slot, Cond.instanceMethod yX1_slot, Cond.selects RX1 yX1_slot yX1_slot, Cond.code yX1_slot cX1_slot 3 (some .int), Cond.methodLink RX1 53 yX1_sumOf, Cond.instanceMethod yX1_sumOf, Cond.selects RX1 yX1_sumOf yX1_sumOf, Cond.code yX1_sumOf cX1_sumOf 7 (some .int), Cond.constant RX1 77 (-1640531535), Cond.instanceMethod yX2_init, Cond.code yX2_init cX2_init 1 none, Cond.methodLink RX2 3 objectInit, Cond.fieldLink RX2 9 "TrackDisk$Waiting" "track" "[I", Cond.fieldLink RX2 15 "TrackDisk$Waiting" "sector" "[I", Cond.fieldLink RX2 18 "TrackDisk$Waiting" "first" "[B", Cond.fieldLink RX2 22 "TrackDisk$Waiting" "size" "I", Cond.instanceMethod yX0_init, Cond.code yX0_init cX0_init 1 none, Cond.methodLink RX0 3 objectInit, Cond.fieldLink RX0 9 "TrackDisk$Reel" "rows" "[I", Cond.fieldLink RX0 15 "TrackDisk$Reel" "size" "I", Cond.fieldLink RX0 19 "TrackDisk$Reel" "stand" "I"]
def wsX3_init : List Cond := .code yX3_init cX3_init 3 none :: ((wsX3_init_r1 ++ (wsX3_init_r2 ++ wsX3_init_r3)) ++ wsX30 ++ wsX10 ++ wsX20 ++ wsX00)
def wsX3_hasTrack : List Cond := .code yX3_hasTrack cX3_hasTrack 2 (some .boolean) :: ([.fieldLink RX3 13 "TrackDisk" "tracks" "I"] ++ wsX30)
def wsX3_hasSector : List Cond := .code yX3_hasSector cX3_hasSector 3 (some .boolean) :: ([.fieldLink RX3 17 "TrackDisk" "sectors" "I", .methodLink RX3 109 yX3_hasTrack, .instanceMethod yX3_hasTrack, .selects RX3 yX3_hasTrack yX3_hasTrack, .initialized RX3, .code yX3_hasTrack cX3_hasTrack 2 (some .boolean), .fieldLink RX3 13 "TrackDisk" "tracks" "I"] ++ wsX30)
def wsX3_write : List Cond := .code yX3_write cX3_write 4 (some .int) :: ([.fieldLink RX3 50 "TrackDisk" "down" "Z", .fieldLink RX3 39 "TrackDisk" "waiting" "LTrackDisk$Waiting;", .fieldLink RX3 58 "TrackDisk$Waiting" "size" "I", .methodLink RX3 54 yX3_hasSector, .instanceMethod yX3_hasSector, .selects RX3 yX3_hasSector yX3_hasSector, .initialized RX3, .code yX3_hasSector cX3_hasSector 3 (some .boolean), .fieldLink RX3 17 "TrackDisk" "sectors" "I", .methodLink RX3 109 yX3_hasTrack, .instanceMethod yX3_hasTrack, .selects RX3 yX3_hasTrack yX3_hasTrack, .code yX3_hasTrack cX3_hasTrack 2 (some .boolean), .fieldLink RX3 13 "TrackDisk" "tracks" "I", .methodLink RX3 61 yX2_append, .instanceMethod yX2_append, .selects RX2 yX2_append yX2_append, .initialized RX2, .code yX2_append cX2_append 4 none, .fieldLink RX2 22 "TrackDisk$Waiting" "size" "I", .fieldLink RX2 9 "TrackDisk$Waiting" "track" "[I", .fieldLink RX2 15 "TrackDisk$Waiting" "sector" "[I", .fieldLink RX2 18 "TrackDisk$Waiting" "first" "[B"] ++ wsX30 ++ wsX20)
def wsX3_isByteNumber : List Cond := .code yX3_isByteNumber cX3_isByteNumber 1 (some .boolean) :: ([])
def wsX3_read_r1 : List Cond := [Cond.classLink RX3 69 RJx00060, Cond.instantiable RJx00060 6, Cond.initialized RJx00060, Cond.fieldLink RX3 25 "TrackDisk" "disk" "LTrackDisk$Surface;", Cond.fieldLink RX3 76 "TrackDisk$Surface" "bytes" "[B", Cond.methodLink RX3 54 yX3_hasSector, Cond.instanceMethod yX3_hasSector, Cond.selects RX3 yX3_hasSector yX3_hasSector, Cond.initialized RX3, Cond.code yX3_hasSector cX3_hasSector 3 (some .boolean), Cond.fieldLink RX3 17 "TrackDisk" "sectors" "I", Cond.methodLink RX3 109 yX3_hasTrack, Cond.instanceMethod yX3_hasTrack, Cond.selects RX3 yX3_hasTrack yX3_hasTrack, Cond.code yX3_hasTrack cX3_hasTrack 2 (some .boolean), Cond.fieldLink RX3 13 "TrackDisk" "tracks" "I", Cond.methodLink RX3 65 yX3_isByteNumber, Cond.static yX3_isByteNumber, Cond.code yX3_isByteNumber cX3_isByteNumber 1 (some .boolean), Cond.methodLink RX3 80 yX1_firstByte, Cond.instanceMethod yX1_firstByte, Cond.selects RX1 yX1_firstByte yX1_firstByte, Cond.initialized RX1, Cond.code yX1_firstByte cX1_firstByte 3 (some .int)]
def wsX3_read_r2 : List Cond := [Cond.fieldLink RX1 26 "TrackDisk$Surface" "place" "[I", Cond.methodLink RX1 45 yX1_slot, Cond.instanceMethod yX1_slot, Cond.selects RX1 yX1_slot yX1_slot, Cond.code yX1_slot cX1_slot 3 (some .int), Cond.fieldLink RX1 15 "TrackDisk$Surface" "sectors" "I"]
def wsX3_read : List Cond := .code yX3_read cX3_read 4 (some .byte) :: ((wsX3_read_r1 ++ wsX3_read_r2) ++ wsJx000600 ++ wsX30 ++ wsX10)
def wsX3_layFirst_r1 : List Cond := [Cond.fieldLink RX3 25 "TrackDisk" "disk" "LTrackDisk$Surface;", Cond.fieldLink RX3 39 "TrackDisk" "waiting" "LTrackDisk$Waiting;", Cond.fieldLink RX3 91 "TrackDisk$Waiting" "track" "[I", Cond.fieldLink RX3 95 "TrackDisk$Waiting" "sector" "[I", Cond.fieldLink RX3 98 "TrackDisk$Waiting" "first" "[B", Cond.methodLink RX3 166 yX1_lay, Cond.instanceMethod yX1_lay, Cond.selects RX1 yX1_lay yX1_lay, Cond.initialized RX1, Cond.code yX1_lay cX1_lay 5 none, Cond.fieldLink RX1 26 "TrackDisk$Surface" "place" "[I", Cond.fieldLink RX1 22 "TrackDisk$Surface" "sums" "[I", Cond.fieldLink RX1 29 "TrackDisk$Surface" "usedByRow0" "[I", Cond.fieldLink RX1 32 "TrackDisk$Surface" "usedByRow1" "[I", Cond.methodLink RX1 49 yX1_fill, Cond.instanceMethod yX1_fill, Cond.selects RX1 yX1_fill yX1_fill, Cond.code yX1_fill cX1_fill 7 none, Cond.fieldLink RX1 18 "TrackDisk$Surface" "bytes" "[B", Cond.methodLink RX1 64 yX1_firstByte, Cond.instanceMethod yX1_firstByte, Cond.selects RX1 yX1_firstByte yX1_firstByte, Cond.code yX1_firstByte cX1_firstByte 3 (some .int), Cond.methodLink RX1 45 yX1_slot]
def wsX3_layFirst_r2 : List Cond := [Cond.instanceMethod yX1_slot, Cond.selects RX1 yX1_slot yX1_slot, Cond.code yX1_slot cX1_slot 3 (some .int), Cond.fieldLink RX1 15 "TrackDisk$Surface" "sectors" "I", Cond.methodLink RX1 53 yX1_sumOf, Cond.instanceMethod yX1_sumOf, Cond.selects RX1 yX1_sumOf yX1_sumOf, Cond.code yX1_sumOf cX1_sumOf 7 (some .int), Cond.constant RX1 77 (-1640531535)]
def wsX3_layFirst : List Cond := .code yX3_layFirst cX3_layFirst 3 none :: ((wsX3_layFirst_r1 ++ wsX3_layFirst_r2) ++ wsX30 ++ wsX20 ++ wsX10)
def wsX3_sync_r1 : List Cond := [Cond.fieldLink RX3 50 "TrackDisk" "down" "Z", Cond.fieldLink RX3 39 "TrackDisk" "waiting" "LTrackDisk$Waiting;", Cond.fieldLink RX3 58 "TrackDisk$Waiting" "size" "I", Cond.methodLink RX3 84 yX3_layFirst, Cond.instanceMethod yX3_layFirst, Cond.selects RX3 yX3_layFirst yX3_layFirst, Cond.initialized RX3, Cond.code yX3_layFirst cX3_layFirst 3 none, Cond.fieldLink RX3 25 "TrackDisk" "disk" "LTrackDisk$Surface;", Cond.fieldLink RX3 91 "TrackDisk$Waiting" "track" "[I", Cond.fieldLink RX3 95 "TrackDisk$Waiting" "sector" "[I", Cond.fieldLink RX3 98 "TrackDisk$Waiting" "first" "[B", Cond.methodLink RX3 166 yX1_lay, Cond.instanceMethod yX1_lay, Cond.selects RX1 yX1_lay yX1_lay, Cond.initialized RX1, Cond.code yX1_lay cX1_lay 5 none, Cond.fieldLink RX1 26 "TrackDisk$Surface" "place" "[I", Cond.fieldLink RX1 22 "TrackDisk$Surface" "sums" "[I", Cond.fieldLink RX1 29 "TrackDisk$Surface" "usedByRow0" "[I", Cond.fieldLink RX1 32 "TrackDisk$Surface" "usedByRow1" "[I", Cond.methodLink RX1 49 yX1_fill, Cond.instanceMethod yX1_fill, Cond.selects RX1 yX1_fill yX1_fill]
def wsX3_sync_r2 : List Cond := [Cond.code yX1_fill cX1_fill 7 none, Cond.fieldLink RX1 18 "TrackDisk$Surface" "bytes" "[B", Cond.methodLink RX1 64 yX1_firstByte, Cond.instanceMethod yX1_firstByte, Cond.selects RX1 yX1_firstByte yX1_firstByte, Cond.code yX1_firstByte cX1_firstByte 3 (some .int), Cond.methodLink RX1 45 yX1_slot, Cond.instanceMethod yX1_slot, Cond.selects RX1 yX1_slot yX1_slot, Cond.code yX1_slot cX1_slot 3 (some .int), Cond.fieldLink RX1 15 "TrackDisk$Surface" "sectors" "I", Cond.methodLink RX1 53 yX1_sumOf, Cond.instanceMethod yX1_sumOf, Cond.selects RX1 yX1_sumOf yX1_sumOf, Cond.code yX1_sumOf cX1_sumOf 7 (some .int), Cond.constant RX1 77 (-1640531535), Cond.methodLink RX3 88 yX2_drop, Cond.instanceMethod yX2_drop, Cond.selects RX2 yX2_drop yX2_drop, Cond.initialized RX2, Cond.code yX2_drop cX2_drop 1 none, Cond.fieldLink RX2 22 "TrackDisk$Waiting" "size" "I"]
def wsX3_sync : List Cond := .code yX3_sync cX3_sync 2 (some .int) :: ((wsX3_sync_r1 ++ wsX3_sync_r2) ++ wsX30 ++ wsX20 ++ wsX10)
def wsX3_cut_r1 : List Cond := [Cond.fieldLink RX3 50 "TrackDisk" "down" "Z", Cond.fieldLink RX3 39 "TrackDisk" "waiting" "LTrackDisk$Waiting;", Cond.fieldLink RX3 58 "TrackDisk$Waiting" "size" "I", Cond.fieldLink RX3 25 "TrackDisk" "disk" "LTrackDisk$Surface;", Cond.fieldLink RX3 91 "TrackDisk$Waiting" "track" "[I", Cond.fieldLink RX3 95 "TrackDisk$Waiting" "sector" "[I", Cond.fieldLink RX3 98 "TrackDisk$Waiting" "first" "[B", Cond.methodLink RX3 9 yX3_held, Cond.static yX3_held, Cond.initialized RX3, Cond.code yX3_held cX3_held 3 (some .int), Cond.methodLink RX3 158 Lib.Math.min.name, Cond.static Lib.Math.min.name, Cond.initialized "java/lang/Math", Cond.code Lib.Math.min.name Lib.Math.min.code 2 (some .int), Cond.methodLink RX3 163 Lib.Math.max.name, Cond.static Lib.Math.max.name, Cond.code Lib.Math.max.name Lib.Math.max.code 2 (some .int), Cond.methodLink RX3 84 yX3_layFirst, Cond.instanceMethod yX3_layFirst, Cond.selects RX3 yX3_layFirst yX3_layFirst, Cond.code yX3_layFirst cX3_layFirst 3 none, Cond.methodLink RX3 166 yX1_lay, Cond.instanceMethod yX1_lay]
def wsX3_cut_r2 : List Cond := [Cond.selects RX1 yX1_lay yX1_lay, Cond.initialized RX1, Cond.code yX1_lay cX1_lay 5 none, Cond.fieldLink RX1 26 "TrackDisk$Surface" "place" "[I", Cond.fieldLink RX1 22 "TrackDisk$Surface" "sums" "[I", Cond.fieldLink RX1 29 "TrackDisk$Surface" "usedByRow0" "[I", Cond.fieldLink RX1 32 "TrackDisk$Surface" "usedByRow1" "[I", Cond.methodLink RX1 49 yX1_fill, Cond.instanceMethod yX1_fill, Cond.selects RX1 yX1_fill yX1_fill, Cond.code yX1_fill cX1_fill 7 none, Cond.fieldLink RX1 18 "TrackDisk$Surface" "bytes" "[B", Cond.methodLink RX1 64 yX1_firstByte, Cond.instanceMethod yX1_firstByte, Cond.selects RX1 yX1_firstByte yX1_firstByte, Cond.code yX1_firstByte cX1_firstByte 3 (some .int), Cond.methodLink RX1 45 yX1_slot, Cond.instanceMethod yX1_slot, Cond.selects RX1 yX1_slot yX1_slot, Cond.code yX1_slot cX1_slot 3 (some .int), Cond.fieldLink RX1 15 "TrackDisk$Surface" "sectors" "I", Cond.methodLink RX1 53 yX1_sumOf, Cond.instanceMethod yX1_sumOf, Cond.selects RX1 yX1_sumOf yX1_sumOf]
def wsX3_cut_r3 : List Cond := [Cond.code yX1_sumOf cX1_sumOf 7 (some .int), Cond.constant RX1 77 (-1640531535), Cond.methodLink RX3 101 yX1_layTorn, Cond.instanceMethod yX1_layTorn, Cond.selects RX1 yX1_layTorn yX1_layTorn, Cond.code yX1_layTorn cX1_layTorn 5 none, Cond.methodLink RX3 88 yX2_drop, Cond.instanceMethod yX2_drop, Cond.selects RX2 yX2_drop yX2_drop, Cond.initialized RX2, Cond.code yX2_drop cX2_drop 1 none, Cond.fieldLink RX2 22 "TrackDisk$Waiting" "size" "I"]
def wsX3_cut : List Cond := .code yX3_cut cX3_cut 4 none :: ((wsX3_cut_r1 ++ (wsX3_cut_r2 ++ wsX3_cut_r3)) ++ wsX30 ++ wsX20 ++ wsX10)
def wsX3_start_r1 : List Cond := [Cond.fieldLink RX3 50 "TrackDisk" "down" "Z", Cond.fieldLink RX3 25 "TrackDisk" "disk" "LTrackDisk$Surface;", Cond.methodLink RX3 105 yX1_wrongSectors, Cond.instanceMethod yX1_wrongSectors, Cond.selects RX1 yX1_wrongSectors yX1_wrongSectors, Cond.initialized RX1, Cond.code yX1_wrongSectors cX1_wrongSectors 4 (some .int), Cond.fieldLink RX1 9 "TrackDisk$Surface" "tracks" "I", Cond.fieldLink RX1 15 "TrackDisk$Surface" "sectors" "I", Cond.methodLink RX1 56 yX1_isWrong, Cond.instanceMethod yX1_isWrong, Cond.selects RX1 yX1_isWrong yX1_isWrong, Cond.code yX1_isWrong cX1_isWrong 4 (some .boolean), Cond.fieldLink RX1 26 "TrackDisk$Surface" "place" "[I", Cond.fieldLink RX1 22 "TrackDisk$Surface" "sums" "[I", Cond.methodLink RX1 45 yX1_slot, Cond.instanceMethod yX1_slot, Cond.selects RX1 yX1_slot yX1_slot, Cond.code yX1_slot cX1_slot 3 (some .int), Cond.methodLink RX1 53 yX1_sumOf, Cond.instanceMethod yX1_sumOf, Cond.selects RX1 yX1_sumOf yX1_sumOf, Cond.code yX1_sumOf cX1_sumOf 7 (some .int), Cond.fieldLink RX1 18 "TrackDisk$Surface" "bytes" "[B"]
def wsX3_start_r2 : List Cond := [Cond.constant RX1 77 (-1640531535)]
def wsX3_start : List Cond := .code yX3_start cX3_start 1 (some .int) :: ((wsX3_start_r1 ++ wsX3_start_r2) ++ wsX30 ++ wsX10)
def wsX3_space : List Cond := .code yX3_space cX3_space 3 (some .int) :: ([.fieldLink RX3 25 "TrackDisk" "disk" "LTrackDisk$Surface;", .fieldLink RX3 112 "TrackDisk$Surface" "usedByRow0" "[I", .fieldLink RX3 115 "TrackDisk$Surface" "usedByRow1" "[I", .methodLink RX3 109 yX3_hasTrack, .instanceMethod yX3_hasTrack, .selects RX3 yX3_hasTrack yX3_hasTrack, .initialized RX3, .code yX3_hasTrack cX3_hasTrack 2 (some .boolean), .fieldLink RX3 13 "TrackDisk" "tracks" "I"] ++ wsX30 ++ wsX10)
def wsX3_mend_r1 : List Cond := [Cond.fieldLink RX3 50 "TrackDisk" "down" "Z", Cond.fieldLink RX3 25 "TrackDisk" "disk" "LTrackDisk$Surface;", Cond.methodLink RX3 118 yX1_mendRows, Cond.instanceMethod yX1_mendRows, Cond.selects RX1 yX1_mendRows yX1_mendRows, Cond.initialized RX1, Cond.code yX1_mendRows cX1_mendRows 4 (some .int), Cond.fieldLink RX1 9 "TrackDisk$Surface" "tracks" "I", Cond.fieldLink RX1 29 "TrackDisk$Surface" "usedByRow0" "[I", Cond.fieldLink RX1 32 "TrackDisk$Surface" "usedByRow1" "[I", Cond.methodLink RX1 60 yX1_holdsMoreThanZeros, Cond.instanceMethod yX1_holdsMoreThanZeros, Cond.selects RX1 yX1_holdsMoreThanZeros yX1_holdsMoreThanZeros, Cond.code yX1_holdsMoreThanZeros cX1_holdsMoreThanZeros 4 (some .boolean), Cond.fieldLink RX1 15 "TrackDisk$Surface" "sectors" "I", Cond.fieldLink RX1 18 "TrackDisk$Surface" "bytes" "[B", Cond.methodLink RX1 64 yX1_firstByte, Cond.instanceMethod yX1_firstByte, Cond.selects RX1 yX1_firstByte yX1_firstByte, Cond.code yX1_firstByte cX1_firstByte 3 (some .int), Cond.fieldLink RX1 26 "TrackDisk$Surface" "place" "[I", Cond.methodLink RX1 45 yX1_slot, Cond.instanceMethod yX1_slot, Cond.selects RX1 yX1_slot yX1_slot]
def wsX3_mend_r2 : List Cond := [Cond.code yX1_slot cX1_slot 3 (some .int)]
def wsX3_mend : List Cond := .code yX3_mend cX3_mend 1 (some .int) :: ((wsX3_mend_r1 ++ wsX3_mend_r2) ++ wsX30 ++ wsX10)
def wsX3_poke_r1 : List Cond := [Cond.fieldLink RX3 25 "TrackDisk" "disk" "LTrackDisk$Surface;", Cond.fieldLink RX3 76 "TrackDisk$Surface" "bytes" "[B", Cond.methodLink RX3 54 yX3_hasSector, Cond.instanceMethod yX3_hasSector, Cond.selects RX3 yX3_hasSector yX3_hasSector, Cond.initialized RX3, Cond.code yX3_hasSector cX3_hasSector 3 (some .boolean), Cond.fieldLink RX3 17 "TrackDisk" "sectors" "I", Cond.methodLink RX3 109 yX3_hasTrack, Cond.instanceMethod yX3_hasTrack, Cond.selects RX3 yX3_hasTrack yX3_hasTrack, Cond.code yX3_hasTrack cX3_hasTrack 2 (some .boolean), Cond.fieldLink RX3 13 "TrackDisk" "tracks" "I", Cond.methodLink RX3 65 yX3_isByteNumber, Cond.static yX3_isByteNumber, Cond.code yX3_isByteNumber cX3_isByteNumber 1 (some .boolean), Cond.methodLink RX3 80 yX1_firstByte, Cond.instanceMethod yX1_firstByte, Cond.selects RX1 yX1_firstByte yX1_firstByte, Cond.initialized RX1, Cond.code yX1_firstByte cX1_firstByte 3 (some .int), Cond.fieldLink RX1 26 "TrackDisk$Surface" "place" "[I", Cond.methodLink RX1 45 yX1_slot, Cond.instanceMethod yX1_slot]
def wsX3_poke_r2 : List Cond := [Cond.selects RX1 yX1_slot yX1_slot, Cond.code yX1_slot cX1_slot 3 (some .int), Cond.fieldLink RX1 15 "TrackDisk$Surface" "sectors" "I"]
def wsX3_poke : List Cond := .code yX3_poke cX3_poke 8 (some .int) :: ((wsX3_poke_r1 ++ wsX3_poke_r2) ++ wsX30 ++ wsX10)
def wsX3_wrong_r1 : List Cond := [Cond.fieldLink RX3 25 "TrackDisk" "disk" "LTrackDisk$Surface;", Cond.methodLink RX3 105 yX1_wrongSectors, Cond.instanceMethod yX1_wrongSectors, Cond.selects RX1 yX1_wrongSectors yX1_wrongSectors, Cond.initialized RX1, Cond.code yX1_wrongSectors cX1_wrongSectors 4 (some .int), Cond.fieldLink RX1 9 "TrackDisk$Surface" "tracks" "I", Cond.fieldLink RX1 15 "TrackDisk$Surface" "sectors" "I", Cond.methodLink RX1 56 yX1_isWrong, Cond.instanceMethod yX1_isWrong, Cond.selects RX1 yX1_isWrong yX1_isWrong, Cond.code yX1_isWrong cX1_isWrong 4 (some .boolean), Cond.fieldLink RX1 26 "TrackDisk$Surface" "place" "[I", Cond.fieldLink RX1 22 "TrackDisk$Surface" "sums" "[I", Cond.methodLink RX1 45 yX1_slot, Cond.instanceMethod yX1_slot, Cond.selects RX1 yX1_slot yX1_slot, Cond.code yX1_slot cX1_slot 3 (some .int), Cond.methodLink RX1 53 yX1_sumOf, Cond.instanceMethod yX1_sumOf, Cond.selects RX1 yX1_sumOf yX1_sumOf, Cond.code yX1_sumOf cX1_sumOf 7 (some .int), Cond.fieldLink RX1 18 "TrackDisk$Surface" "bytes" "[B", Cond.constant RX1 77 (-1640531535)]
def wsX3_wrong_r2 : List Cond := [Cond.methodLink RX3 121 yX1_firstWrong, Cond.instanceMethod yX1_firstWrong, Cond.selects RX1 yX1_firstWrong yX1_firstWrong, Cond.code yX1_firstWrong cX1_firstWrong 3 (some .int)]
def wsX3_wrong : List Cond := .code yX3_wrong cX3_wrong 3 (some .int) :: ((wsX3_wrong_r1 ++ wsX3_wrong_r2) ++ wsX30 ++ wsX10)
def wsX3_alternate_r1 : List Cond := [Cond.fieldLink RX3 50 "TrackDisk" "down" "Z", Cond.fieldLink RX3 25 "TrackDisk" "disk" "LTrackDisk$Surface;", Cond.fieldLink RX3 127 "TrackDisk$Surface" "taken" "I", Cond.methodLink RX3 109 yX3_hasTrack, Cond.instanceMethod yX3_hasTrack, Cond.selects RX3 yX3_hasTrack yX3_hasTrack, Cond.initialized RX3, Cond.code yX3_hasTrack cX3_hasTrack 2 (some .boolean), Cond.fieldLink RX3 13 "TrackDisk" "tracks" "I", Cond.methodLink RX3 124 yX1_isSent, Cond.instanceMethod yX1_isSent, Cond.selects RX1 yX1_isSent yX1_isSent, Cond.initialized RX1, Cond.code yX1_isSent cX1_isSent 2 (some .boolean), Cond.fieldLink RX1 26 "TrackDisk$Surface" "place" "[I", Cond.fieldLink RX1 9 "TrackDisk$Surface" "tracks" "I", Cond.methodLink RX3 130 yX1_send, Cond.instanceMethod yX1_send, Cond.selects RX1 yX1_send yX1_send, Cond.code yX1_send cX1_send 3 (some .int), Cond.fieldLink RX1 35 "TrackDisk$Surface" "taken" "I", Cond.fieldLink RX1 18 "TrackDisk$Surface" "bytes" "[B", Cond.fieldLink RX1 15 "TrackDisk$Surface" "sectors" "I", Cond.methodLink RX1 67 arraycopyName]
def wsX3_alternate_r2 : List Cond := [Cond.native arraycopyName, Cond.static arraycopyName, Cond.initialized "java/lang/System", Cond.methodLink RX1 64 yX1_firstByte, Cond.instanceMethod yX1_firstByte, Cond.selects RX1 yX1_firstByte yX1_firstByte, Cond.code yX1_firstByte cX1_firstByte 3 (some .int), Cond.methodLink RX1 45 yX1_slot, Cond.instanceMethod yX1_slot, Cond.selects RX1 yX1_slot yX1_slot, Cond.code yX1_slot cX1_slot 3 (some .int), Cond.methodLink RX1 41 yX1_setSums, Cond.instanceMethod yX1_setSums, Cond.selects RX1 yX1_setSums yX1_setSums, Cond.code yX1_setSums cX1_setSums 3 none, Cond.fieldLink RX1 22 "TrackDisk$Surface" "sums" "[I", Cond.methodLink RX1 53 yX1_sumOf, Cond.instanceMethod yX1_sumOf, Cond.selects RX1 yX1_sumOf yX1_sumOf, Cond.code yX1_sumOf cX1_sumOf 7 (some .int), Cond.constant RX1 77 (-1640531535)]
def wsX3_alternate : List Cond := .code yX3_alternate cX3_alternate 2 (some .int) :: ((wsX3_alternate_r1 ++ wsX3_alternate_r2) ++ wsX30 ++ wsX10)
def wsX3_dump_r1 : List Cond := [Cond.fieldLink RX3 50 "TrackDisk" "down" "Z", Cond.fieldLink RX3 33 "TrackDisk" "dumpsMade" "I", Cond.classLink RX3 20 RX1, Cond.instantiable RX1 9, Cond.initialized RX1, Cond.fieldLink RX3 13 "TrackDisk" "tracks" "I", Cond.fieldLink RX3 17 "TrackDisk" "sectors" "I", Cond.fieldLink RX3 25 "TrackDisk" "disk" "LTrackDisk$Surface;", Cond.fieldLink RX3 138 "TrackDisk$Surface" "volume" "I", Cond.fieldLink RX3 29 "TrackDisk" "dumps" "[LTrackDisk$Surface;", Cond.methodLink RX3 22 yX1_init, Cond.instanceMethod yX1_init, Cond.code yX1_init cX1_init 5 none, Cond.methodLink RX1 3 objectInit, Cond.instanceMethod objectInit, Cond.code objectInit ⟨#[0xb1]⟩ 1 none, Cond.fieldLink RX1 9 "TrackDisk$Surface" "tracks" "I", Cond.fieldLink RX1 15 "TrackDisk$Surface" "sectors" "I", Cond.arrayClass .byte, Cond.fieldLink RX1 18 "TrackDisk$Surface" "bytes" "[B", Cond.arrayClass .int, Cond.fieldLink RX1 22 "TrackDisk$Surface" "sums" "[I", Cond.fieldLink RX1 26 "TrackDisk$Surface" "place" "[I", Cond.fieldLink RX1 29 "TrackDisk$Surface" "usedByRow0" "[I"]
def wsX3_dump_r2 : List Cond := [Cond.fieldLink RX1 32 "TrackDisk$Surface" "usedByRow1" "[I", Cond.fieldLink RX1 35 "TrackDisk$Surface" "taken" "I", Cond.fieldLink RX1 38 "TrackDisk$Surface" "volume" "I", Cond.methodLink RX1 41 yX1_setSums, Cond.instanceMethod yX1_setSums, Cond.selects RX1 yX1_setSums yX1_setSums, Cond.code yX1_setSums cX1_setSums 3 none, Cond.methodLink RX1 45 yX1_slot, Cond.instanceMethod yX1_slot, Cond.selects RX1 yX1_slot yX1_slot, Cond.code yX1_slot cX1_slot 3 (some .int), Cond.methodLink RX1 53 yX1_sumOf, Cond.instanceMethod yX1_sumOf, Cond.selects RX1 yX1_sumOf yX1_sumOf, Cond.code yX1_sumOf cX1_sumOf 7 (some .int), Cond.constant RX1 77 (-1640531535), Cond.methodLink RX3 134 yX1_takeOver, Cond.instanceMethod yX1_takeOver, Cond.selects RX1 yX1_takeOver yX1_takeOver, Cond.code yX1_takeOver cX1_takeOver 2 none, Cond.methodLink RX1 67 arraycopyName, Cond.native arraycopyName, Cond.static arraycopyName, Cond.initialized "java/lang/System"]
def wsX3_dump : List Cond := .code yX3_dump cX3_dump 3 (some .int) :: ((wsX3_dump_r1 ++ wsX3_dump_r2) ++ wsX30 ++ wsX10)
def wsX3_dumpOf : List Cond := .code yX3_dumpOf cX3_dumpOf 2 (some (.object "TrackDisk$Surface")) :: ([.fieldLink RX3 33 "TrackDisk" "dumpsMade" "I", .fieldLink RX3 29 "TrackDisk" "dumps" "[LTrackDisk$Surface;"] ++ wsX30)
def wsX3_restore_r1 : List Cond := [Cond.fieldLink RX3 50 "TrackDisk" "down" "Z", Cond.fieldLink RX3 138 "TrackDisk$Surface" "volume" "I", Cond.fieldLink RX3 25 "TrackDisk" "disk" "LTrackDisk$Surface;", Cond.fieldLink RX3 39 "TrackDisk" "waiting" "LTrackDisk$Waiting;", Cond.methodLink RX3 141 yX3_dumpOf, Cond.instanceMethod yX3_dumpOf, Cond.selects RX3 yX3_dumpOf yX3_dumpOf, Cond.initialized RX3, Cond.code yX3_dumpOf cX3_dumpOf 2 (some (.object "TrackDisk$Surface")), Cond.fieldLink RX3 33 "TrackDisk" "dumpsMade" "I", Cond.fieldLink RX3 29 "TrackDisk" "dumps" "[LTrackDisk$Surface;", Cond.methodLink RX3 134 yX1_takeOver, Cond.instanceMethod yX1_takeOver, Cond.selects RX1 yX1_takeOver yX1_takeOver, Cond.initialized RX1, Cond.code yX1_takeOver cX1_takeOver 2 none, Cond.fieldLink RX1 18 "TrackDisk$Surface" "bytes" "[B", Cond.methodLink RX1 67 arraycopyName, Cond.native arraycopyName, Cond.static arraycopyName, Cond.initialized "java/lang/System", Cond.fieldLink RX1 22 "TrackDisk$Surface" "sums" "[I", Cond.fieldLink RX1 26 "TrackDisk$Surface" "place" "[I", Cond.fieldLink RX1 29 "TrackDisk$Surface" "usedByRow0" "[I"]
def wsX3_restore_r2 : List Cond := [Cond.fieldLink RX1 32 "TrackDisk$Surface" "usedByRow1" "[I", Cond.fieldLink RX1 35 "TrackDisk$Surface" "taken" "I", Cond.fieldLink RX1 38 "TrackDisk$Surface" "volume" "I", Cond.methodLink RX3 88 yX2_drop, Cond.instanceMethod yX2_drop, Cond.selects RX2 yX2_drop yX2_drop, Cond.initialized RX2, Cond.code yX2_drop cX2_drop 1 none, Cond.fieldLink RX2 22 "TrackDisk$Waiting" "size" "I"]
def wsX3_restore : List Cond := .code yX3_restore cX3_restore 4 (some .int) :: ((wsX3_restore_r1 ++ wsX3_restore_r2) ++ wsX30 ++ wsX10 ++ wsX20)
def wsX3_tape : List Cond := .code yX3_tape cX3_tape 2 (some .int) :: ([.fieldLink RX3 46 "TrackDisk" "reel" "LTrackDisk$Reel;", .fieldLink RX3 145 "TrackDisk$Reel" "stand" "I", .fieldLink RX3 151 "TrackDisk$Reel" "size" "I", .methodLink RX3 148 yX0_record, .instanceMethod yX0_record, .selects RX0 yX0_record yX0_record, .initialized RX0, .code yX0_record cX0_record 2 none, .fieldLink RX0 19 "TrackDisk$Reel" "stand" "I", .fieldLink RX0 9 "TrackDisk$Reel" "rows" "[I", .fieldLink RX0 15 "TrackDisk$Reel" "size" "I"] ++ wsX30 ++ wsX00)
def wsX3_next : List Cond := .code yX3_next cX3_next 1 (some .int) :: ([.fieldLink RX3 46 "TrackDisk" "reel" "LTrackDisk$Reel;", .methodLink RX3 152 yX0_pass, .instanceMethod yX0_pass, .selects RX0 yX0_pass yX0_pass, .initialized RX0, .code yX0_pass cX0_pass 2 (some .int), .fieldLink RX0 19 "TrackDisk$Reel" "stand" "I", .fieldLink RX0 15 "TrackDisk$Reel" "size" "I", .fieldLink RX0 9 "TrackDisk$Reel" "rows" "[I"] ++ wsX30 ++ wsX00)
def wsX3_differingFromLatestDump : List Cond := .code yX3_differingFromLatestDump cX3_differingFromLatestDump 2 (some .int) :: ([.fieldLink RX3 33 "TrackDisk" "dumpsMade" "I", .fieldLink RX3 25 "TrackDisk" "disk" "LTrackDisk$Surface;", .methodLink RX3 141 yX3_dumpOf, .instanceMethod yX3_dumpOf, .selects RX3 yX3_dumpOf yX3_dumpOf, .initialized RX3, .code yX3_dumpOf cX3_dumpOf 2 (some (.object "TrackDisk$Surface")), .fieldLink RX3 29 "TrackDisk" "dumps" "[LTrackDisk$Surface;", .methodLink RX3 169 yX1_differingSectors, .instanceMethod yX1_differingSectors, .selects RX1 yX1_differingSectors yX1_differingSectors, .initialized RX1, .code yX1_differingSectors cX1_differingSectors 4 (some .int), .fieldLink RX1 22 "TrackDisk$Surface" "sums" "[I", .methodLink RX1 73 yX1_differsAt, .instanceMethod yX1_differsAt, .selects RX1 yX1_differsAt yX1_differsAt, .code yX1_differsAt cX1_differsAt 5 (some .boolean), .fieldLink RX1 18 "TrackDisk$Surface" "bytes" "[B"] ++ wsX30 ++ wsX10)
def wsX3_count_r1 : List Cond := [Cond.fieldLink RX3 13 "TrackDisk" "tracks" "I", Cond.fieldLink RX3 17 "TrackDisk" "sectors" "I", Cond.fieldLink RX3 39 "TrackDisk" "waiting" "LTrackDisk$Waiting;", Cond.fieldLink RX3 58 "TrackDisk$Waiting" "size" "I", Cond.fieldLink RX3 50 "TrackDisk" "down" "Z", Cond.fieldLink RX3 33 "TrackDisk" "dumpsMade" "I", Cond.fieldLink RX3 25 "TrackDisk" "disk" "LTrackDisk$Surface;", Cond.fieldLink RX3 127 "TrackDisk$Surface" "taken" "I", Cond.methodLink RX3 155 yX3_differingFromLatestDump, Cond.instanceMethod yX3_differingFromLatestDump, Cond.selects RX3 yX3_differingFromLatestDump yX3_differingFromLatestDump, Cond.initialized RX3, Cond.code yX3_differingFromLatestDump cX3_differingFromLatestDump 2 (some .int), Cond.methodLink RX3 141 yX3_dumpOf, Cond.instanceMethod yX3_dumpOf, Cond.selects RX3 yX3_dumpOf yX3_dumpOf, Cond.code yX3_dumpOf cX3_dumpOf 2 (some (.object "TrackDisk$Surface")), Cond.fieldLink RX3 29 "TrackDisk" "dumps" "[LTrackDisk$Surface;", Cond.methodLink RX3 169 yX1_differingSectors, Cond.instanceMethod yX1_differingSectors, Cond.selects RX1 yX1_differingSectors yX1_differingSectors, Cond.initialized RX1, Cond.code yX1_differingSectors cX1_differingSectors 4 (some .int), Cond.fieldLink RX1 22 "TrackDisk$Surface" "sums" "[I"]
def wsX3_count_r2 : List Cond := [Cond.methodLink RX1 73 yX1_differsAt, Cond.instanceMethod yX1_differsAt, Cond.selects RX1 yX1_differsAt yX1_differsAt, Cond.code yX1_differsAt cX1_differsAt 5 (some .boolean), Cond.fieldLink RX1 18 "TrackDisk$Surface" "bytes" "[B"]
def wsX3_count : List Cond := .code yX3_count cX3_count 2 (some .int) :: ((wsX3_count_r1 ++ wsX3_count_r2) ++ wsX30 ++ wsX20 ++ wsX10)
def wsX4_sumOf : List Cond := .code yX4_sumOf cX4_sumOf 5 (some .int) :: ([.fieldLink RX4 7 "TrackDiskModel" "bytes" "[B", .constant RX4 68 (-1640531535)] ++ wsX40)
def wsX4_init_r1 : List Cond := [Cond.methodLink RX4 1 objectInit, Cond.instanceMethod objectInit, Cond.code objectInit ⟨#[0xb1]⟩ 1 none, Cond.arrayClass .byte, Cond.fieldLink RX4 7 "TrackDiskModel" "bytes" "[B", Cond.fieldLink RX4 13 "TrackDiskModel" "kept" "[B", Cond.arrayClass .int, Cond.fieldLink RX4 16 "TrackDiskModel" "sums" "[I", Cond.fieldLink RX4 20 "TrackDiskModel" "keptSums" "[I", Cond.fieldLink RX4 23 "TrackDiskModel" "sent" "[I", Cond.fieldLink RX4 26 "TrackDiskModel" "space" "[I", Cond.fieldLink RX4 29 "TrackDiskModel" "keptSent" "[I", Cond.fieldLink RX4 32 "TrackDiskModel" "keptSpace" "[I", Cond.fieldLink RX4 35 "TrackDiskModel" "volumes" "[I", Cond.fieldLink RX4 38 "TrackDiskModel" "waitTracks" "[I", Cond.fieldLink RX4 41 "TrackDiskModel" "waitSectors" "[I", Cond.fieldLink RX4 44 "TrackDiskModel" "waitBytes" "[I", Cond.fieldLink RX4 47 "TrackDiskModel" "tape" "[I", Cond.fieldLink RX4 50 "TrackDiskModel" "tracks" "I", Cond.fieldLink RX4 54 "TrackDiskModel" "sectors" "I", Cond.methodLink RX4 57 yX4_sumOf, Cond.instanceMethod yX4_sumOf, Cond.selects RX4 yX4_sumOf yX4_sumOf, Cond.initialized RX4]
def wsX4_init_r2 : List Cond := [Cond.code yX4_sumOf cX4_sumOf 5 (some .int), Cond.constant RX4 68 (-1640531535)]
def wsX4_init : List Cond := .code yX4_init cX4_init 5 none :: ((wsX4_init_r1 ++ wsX4_init_r2) ++ wsX40)
def wsX4_thrown : List Cond := .code yX4_thrown cX4_thrown 1 (some .int) :: ([.fieldLink RX4 61 "TrackDiskModel" "code" "I"] ++ wsX40)
def wsX4_isTrack : List Cond := .code yX4_isTrack cX4_isTrack 2 (some .boolean) :: ([.fieldLink RX4 50 "TrackDiskModel" "tracks" "I"] ++ wsX40)
def wsX4_isSector : List Cond := .code yX4_isSector cX4_isSector 3 (some .boolean) :: ([.fieldLink RX4 54 "TrackDiskModel" "sectors" "I", .methodLink RX4 64 yX4_isTrack, .instanceMethod yX4_isTrack, .selects RX4 yX4_isTrack yX4_isTrack, .initialized RX4, .code yX4_isTrack cX4_isTrack 2 (some .boolean), .fieldLink RX4 50 "TrackDiskModel" "tracks" "I"] ++ wsX40)
def wsX4_lies : List Cond := .code yX4_lies cX4_lies 3 (some .int) :: ([.fieldLink RX4 23 "TrackDiskModel" "sent" "[I"] ++ wsX40)
def wsX4_write : List Cond := .code yX4_write cX4_write 4 (some .int) :: ([.fieldLink RX4 61 "TrackDiskModel" "code" "I", .fieldLink RX4 73 "TrackDiskModel" "down" "Z", .fieldLink RX4 77 "TrackDiskModel" "waiting" "I", .fieldLink RX4 38 "TrackDiskModel" "waitTracks" "[I", .fieldLink RX4 41 "TrackDiskModel" "waitSectors" "[I", .fieldLink RX4 44 "TrackDiskModel" "waitBytes" "[I", .methodLink RX4 69 yX4_isSector, .instanceMethod yX4_isSector, .selects RX4 yX4_isSector yX4_isSector, .initialized RX4, .code yX4_isSector cX4_isSector 3 (some .boolean), .fieldLink RX4 54 "TrackDiskModel" "sectors" "I", .methodLink RX4 64 yX4_isTrack, .instanceMethod yX4_isTrack, .selects RX4 yX4_isTrack yX4_isTrack, .code yX4_isTrack cX4_isTrack 2 (some .boolean), .fieldLink RX4 50 "TrackDiskModel" "tracks" "I"] ++ wsX40)
def wsX4_done : List Cond := .code yX4_done cX4_done 5 none :: ([.fieldLink RX4 38 "TrackDiskModel" "waitTracks" "[I", .fieldLink RX4 41 "TrackDiskModel" "waitSectors" "[I", .fieldLink RX4 7 "TrackDiskModel" "bytes" "[B", .fieldLink RX4 44 "TrackDiskModel" "waitBytes" "[I", .fieldLink RX4 26 "TrackDiskModel" "space" "[I", .methodLink RX4 80 yX4_lies, .instanceMethod yX4_lies, .selects RX4 yX4_lies yX4_lies, .initialized RX4, .code yX4_lies cX4_lies 3 (some .int), .fieldLink RX4 23 "TrackDiskModel" "sent" "[I"] ++ wsX40)
def wsX4_whole : List Cond := .code yX4_whole cX4_whole 3 none :: ([.fieldLink RX4 38 "TrackDiskModel" "waitTracks" "[I", .fieldLink RX4 41 "TrackDiskModel" "waitSectors" "[I", .fieldLink RX4 16 "TrackDiskModel" "sums" "[I", .fieldLink RX4 26 "TrackDiskModel" "space" "[I", .methodLink RX4 84 yX4_done, .instanceMethod yX4_done, .selects RX4 yX4_done yX4_done, .initialized RX4, .code yX4_done cX4_done 5 none, .fieldLink RX4 7 "TrackDiskModel" "bytes" "[B", .fieldLink RX4 44 "TrackDiskModel" "waitBytes" "[I", .methodLink RX4 80 yX4_lies, .instanceMethod yX4_lies, .selects RX4 yX4_lies yX4_lies, .code yX4_lies cX4_lies 3 (some .int), .fieldLink RX4 23 "TrackDiskModel" "sent" "[I", .methodLink RX4 57 yX4_sumOf, .instanceMethod yX4_sumOf, .selects RX4 yX4_sumOf yX4_sumOf, .code yX4_sumOf cX4_sumOf 5 (some .int), .constant RX4 68 (-1640531535)] ++ wsX40)
def wsX4_sync_r1 : List Cond := [Cond.fieldLink RX4 61 "TrackDiskModel" "code" "I", Cond.fieldLink RX4 73 "TrackDiskModel" "down" "Z", Cond.fieldLink RX4 77 "TrackDiskModel" "waiting" "I", Cond.methodLink RX4 88 yX4_whole, Cond.instanceMethod yX4_whole, Cond.selects RX4 yX4_whole yX4_whole, Cond.initialized RX4, Cond.code yX4_whole cX4_whole 3 none, Cond.fieldLink RX4 38 "TrackDiskModel" "waitTracks" "[I", Cond.fieldLink RX4 41 "TrackDiskModel" "waitSectors" "[I", Cond.fieldLink RX4 16 "TrackDiskModel" "sums" "[I", Cond.fieldLink RX4 26 "TrackDiskModel" "space" "[I", Cond.methodLink RX4 84 yX4_done, Cond.instanceMethod yX4_done, Cond.selects RX4 yX4_done yX4_done, Cond.code yX4_done cX4_done 5 none, Cond.fieldLink RX4 7 "TrackDiskModel" "bytes" "[B", Cond.fieldLink RX4 44 "TrackDiskModel" "waitBytes" "[I", Cond.methodLink RX4 80 yX4_lies, Cond.instanceMethod yX4_lies, Cond.selects RX4 yX4_lies yX4_lies, Cond.code yX4_lies cX4_lies 3 (some .int), Cond.fieldLink RX4 23 "TrackDiskModel" "sent" "[I", Cond.methodLink RX4 57 yX4_sumOf]
def wsX4_sync_r2 : List Cond := [Cond.instanceMethod yX4_sumOf, Cond.selects RX4 yX4_sumOf yX4_sumOf, Cond.code yX4_sumOf cX4_sumOf 5 (some .int), Cond.constant RX4 68 (-1640531535)]
def wsX4_sync : List Cond := .code yX4_sync cX4_sync 2 (some .int) :: ((wsX4_sync_r1 ++ wsX4_sync_r2) ++ wsX40)
def wsX4_cut_r1 : List Cond := [Cond.fieldLink RX4 61 "TrackDiskModel" "code" "I", Cond.fieldLink RX4 73 "TrackDiskModel" "down" "Z", Cond.fieldLink RX4 77 "TrackDiskModel" "waiting" "I", Cond.methodLink RX4 88 yX4_whole, Cond.instanceMethod yX4_whole, Cond.selects RX4 yX4_whole yX4_whole, Cond.initialized RX4, Cond.code yX4_whole cX4_whole 3 none, Cond.fieldLink RX4 38 "TrackDiskModel" "waitTracks" "[I", Cond.fieldLink RX4 41 "TrackDiskModel" "waitSectors" "[I", Cond.fieldLink RX4 16 "TrackDiskModel" "sums" "[I", Cond.fieldLink RX4 26 "TrackDiskModel" "space" "[I", Cond.methodLink RX4 84 yX4_done, Cond.instanceMethod yX4_done, Cond.selects RX4 yX4_done yX4_done, Cond.code yX4_done cX4_done 5 none, Cond.fieldLink RX4 7 "TrackDiskModel" "bytes" "[B", Cond.fieldLink RX4 44 "TrackDiskModel" "waitBytes" "[I", Cond.methodLink RX4 80 yX4_lies, Cond.instanceMethod yX4_lies, Cond.selects RX4 yX4_lies yX4_lies, Cond.code yX4_lies cX4_lies 3 (some .int), Cond.fieldLink RX4 23 "TrackDiskModel" "sent" "[I", Cond.methodLink RX4 57 yX4_sumOf]
def wsX4_cut_r2 : List Cond := [Cond.instanceMethod yX4_sumOf, Cond.selects RX4 yX4_sumOf yX4_sumOf, Cond.code yX4_sumOf cX4_sumOf 5 (some .int), Cond.constant RX4 68 (-1640531535)]
def wsX4_cut : List Cond := .code yX4_cut cX4_cut 5 none :: ((wsX4_cut_r1 ++ wsX4_cut_r2) ++ wsX40)
def wsX4_isWrong : List Cond := .code yX4_isWrong cX4_isWrong 4 (some .boolean) :: ([.fieldLink RX4 16 "TrackDiskModel" "sums" "[I", .methodLink RX4 80 yX4_lies, .instanceMethod yX4_lies, .selects RX4 yX4_lies yX4_lies, .initialized RX4, .code yX4_lies cX4_lies 3 (some .int), .fieldLink RX4 23 "TrackDiskModel" "sent" "[I", .methodLink RX4 57 yX4_sumOf, .instanceMethod yX4_sumOf, .selects RX4 yX4_sumOf yX4_sumOf, .code yX4_sumOf cX4_sumOf 5 (some .int), .fieldLink RX4 7 "TrackDiskModel" "bytes" "[B", .constant RX4 68 (-1640531535)] ++ wsX40)
def wsX4_wrong : List Cond := .code yX4_wrong cX4_wrong 5 (some .int) :: ([.fieldLink RX4 61 "TrackDiskModel" "code" "I", .fieldLink RX4 50 "TrackDiskModel" "tracks" "I", .fieldLink RX4 54 "TrackDiskModel" "sectors" "I", .methodLink RX4 92 yX4_isWrong, .instanceMethod yX4_isWrong, .selects RX4 yX4_isWrong yX4_isWrong, .initialized RX4, .code yX4_isWrong cX4_isWrong 4 (some .boolean), .fieldLink RX4 16 "TrackDiskModel" "sums" "[I", .methodLink RX4 80 yX4_lies, .instanceMethod yX4_lies, .selects RX4 yX4_lies yX4_lies, .code yX4_lies cX4_lies 3 (some .int), .fieldLink RX4 23 "TrackDiskModel" "sent" "[I", .methodLink RX4 57 yX4_sumOf, .instanceMethod yX4_sumOf, .selects RX4 yX4_sumOf yX4_sumOf, .code yX4_sumOf cX4_sumOf 5 (some .int), .fieldLink RX4 7 "TrackDiskModel" "bytes" "[B", .constant RX4 68 (-1640531535)] ++ wsX40)
def wsX4_start_r1 : List Cond := [Cond.fieldLink RX4 61 "TrackDiskModel" "code" "I", Cond.fieldLink RX4 73 "TrackDiskModel" "down" "Z", Cond.methodLink RX4 95 yX4_wrong, Cond.instanceMethod yX4_wrong, Cond.selects RX4 yX4_wrong yX4_wrong, Cond.initialized RX4, Cond.code yX4_wrong cX4_wrong 5 (some .int), Cond.fieldLink RX4 50 "TrackDiskModel" "tracks" "I", Cond.fieldLink RX4 54 "TrackDiskModel" "sectors" "I", Cond.methodLink RX4 92 yX4_isWrong, Cond.instanceMethod yX4_isWrong, Cond.selects RX4 yX4_isWrong yX4_isWrong, Cond.code yX4_isWrong cX4_isWrong 4 (some .boolean), Cond.fieldLink RX4 16 "TrackDiskModel" "sums" "[I", Cond.methodLink RX4 80 yX4_lies, Cond.instanceMethod yX4_lies, Cond.selects RX4 yX4_lies yX4_lies, Cond.code yX4_lies cX4_lies 3 (some .int), Cond.fieldLink RX4 23 "TrackDiskModel" "sent" "[I", Cond.methodLink RX4 57 yX4_sumOf, Cond.instanceMethod yX4_sumOf, Cond.selects RX4 yX4_sumOf yX4_sumOf, Cond.code yX4_sumOf cX4_sumOf 5 (some .int), Cond.fieldLink RX4 7 "TrackDiskModel" "bytes" "[B"]
def wsX4_start_r2 : List Cond := [Cond.constant RX4 68 (-1640531535)]
def wsX4_start : List Cond := .code yX4_start cX4_start 1 (some .int) :: ((wsX4_start_r1 ++ wsX4_start_r2) ++ wsX40)
def wsX4_poke : List Cond := .code yX4_poke cX4_poke 7 (some .int) :: ([.fieldLink RX4 61 "TrackDiskModel" "code" "I", .fieldLink RX4 7 "TrackDiskModel" "bytes" "[B", .methodLink RX4 69 yX4_isSector, .instanceMethod yX4_isSector, .selects RX4 yX4_isSector yX4_isSector, .initialized RX4, .code yX4_isSector cX4_isSector 3 (some .boolean), .fieldLink RX4 54 "TrackDiskModel" "sectors" "I", .methodLink RX4 64 yX4_isTrack, .instanceMethod yX4_isTrack, .selects RX4 yX4_isTrack yX4_isTrack, .code yX4_isTrack cX4_isTrack 2 (some .boolean), .fieldLink RX4 50 "TrackDiskModel" "tracks" "I", .methodLink RX4 80 yX4_lies, .instanceMethod yX4_lies, .selects RX4 yX4_lies yX4_lies, .code yX4_lies cX4_lies 3 (some .int), .fieldLink RX4 23 "TrackDiskModel" "sent" "[I"] ++ wsX40)
def wsX4_space : List Cond := .code yX4_space cX4_space 3 (some .int) :: ([.fieldLink RX4 61 "TrackDiskModel" "code" "I", .fieldLink RX4 26 "TrackDiskModel" "space" "[I", .methodLink RX4 64 yX4_isTrack, .instanceMethod yX4_isTrack, .selects RX4 yX4_isTrack yX4_isTrack, .initialized RX4, .code yX4_isTrack cX4_isTrack 2 (some .boolean), .fieldLink RX4 50 "TrackDiskModel" "tracks" "I"] ++ wsX40)
def wsX4_isUsed : List Cond := .code yX4_isUsed cX4_isUsed 4 (some .int) :: ([.fieldLink RX4 54 "TrackDiskModel" "sectors" "I", .fieldLink RX4 7 "TrackDiskModel" "bytes" "[B", .methodLink RX4 80 yX4_lies, .instanceMethod yX4_lies, .selects RX4 yX4_lies yX4_lies, .initialized RX4, .code yX4_lies cX4_lies 3 (some .int), .fieldLink RX4 23 "TrackDiskModel" "sent" "[I"] ++ wsX40)
def wsX4_mend : List Cond := .code yX4_mend cX4_mend 3 (some .int) :: ([.fieldLink RX4 61 "TrackDiskModel" "code" "I", .fieldLink RX4 73 "TrackDiskModel" "down" "Z", .fieldLink RX4 50 "TrackDiskModel" "tracks" "I", .fieldLink RX4 26 "TrackDiskModel" "space" "[I", .methodLink RX4 98 yX4_isUsed, .instanceMethod yX4_isUsed, .selects RX4 yX4_isUsed yX4_isUsed, .initialized RX4, .code yX4_isUsed cX4_isUsed 4 (some .int), .fieldLink RX4 54 "TrackDiskModel" "sectors" "I", .fieldLink RX4 7 "TrackDiskModel" "bytes" "[B", .methodLink RX4 80 yX4_lies, .instanceMethod yX4_lies, .selects RX4 yX4_lies yX4_lies, .code yX4_lies cX4_lies 3 (some .int), .fieldLink RX4 23 "TrackDiskModel" "sent" "[I"] ++ wsX40)
def wsX4_alternate : List Cond := .code yX4_alternate cX4_alternate 5 (some .int) :: ([.fieldLink RX4 61 "TrackDiskModel" "code" "I", .fieldLink RX4 73 "TrackDiskModel" "down" "Z", .fieldLink RX4 23 "TrackDiskModel" "sent" "[I", .fieldLink RX4 50 "TrackDiskModel" "tracks" "I", .fieldLink RX4 54 "TrackDiskModel" "sectors" "I", .fieldLink RX4 7 "TrackDiskModel" "bytes" "[B", .fieldLink RX4 16 "TrackDiskModel" "sums" "[I", .methodLink RX4 64 yX4_isTrack, .instanceMethod yX4_isTrack, .selects RX4 yX4_isTrack yX4_isTrack, .initialized RX4, .code yX4_isTrack cX4_isTrack 2 (some .boolean), .methodLink RX4 57 yX4_sumOf, .instanceMethod yX4_sumOf, .selects RX4 yX4_sumOf yX4_sumOf, .code yX4_sumOf cX4_sumOf 5 (some .int), .constant RX4 68 (-1640531535)] ++ wsX40)
def wsX4_dump : List Cond := .code yX4_dump cX4_dump 3 (some .int) :: ([.fieldLink RX4 61 "TrackDiskModel" "code" "I", .fieldLink RX4 73 "TrackDiskModel" "down" "Z", .fieldLink RX4 101 "TrackDiskModel" "dumps" "I", .fieldLink RX4 13 "TrackDiskModel" "kept" "[B", .fieldLink RX4 7 "TrackDiskModel" "bytes" "[B", .fieldLink RX4 20 "TrackDiskModel" "keptSums" "[I", .fieldLink RX4 16 "TrackDiskModel" "sums" "[I", .fieldLink RX4 29 "TrackDiskModel" "keptSent" "[I", .fieldLink RX4 23 "TrackDiskModel" "sent" "[I", .fieldLink RX4 32 "TrackDiskModel" "keptSpace" "[I", .fieldLink RX4 26 "TrackDiskModel" "space" "[I", .fieldLink RX4 35 "TrackDiskModel" "volumes" "[I"] ++ wsX40)
def wsX4_restore : List Cond := .code yX4_restore cX4_restore 5 (some .int) :: ([.fieldLink RX4 61 "TrackDiskModel" "code" "I", .fieldLink RX4 101 "TrackDiskModel" "dumps" "I", .fieldLink RX4 73 "TrackDiskModel" "down" "Z", .fieldLink RX4 35 "TrackDiskModel" "volumes" "[I", .fieldLink RX4 7 "TrackDiskModel" "bytes" "[B", .fieldLink RX4 13 "TrackDiskModel" "kept" "[B", .fieldLink RX4 16 "TrackDiskModel" "sums" "[I", .fieldLink RX4 20 "TrackDiskModel" "keptSums" "[I", .fieldLink RX4 23 "TrackDiskModel" "sent" "[I", .fieldLink RX4 29 "TrackDiskModel" "keptSent" "[I", .fieldLink RX4 26 "TrackDiskModel" "space" "[I", .fieldLink RX4 32 "TrackDiskModel" "keptSpace" "[I", .fieldLink RX4 77 "TrackDiskModel" "waiting" "I"] ++ wsX40)
def wsX4_tape : List Cond := .code yX4_tape cX4_tape 2 (some .int) :: ([.fieldLink RX4 61 "TrackDiskModel" "code" "I", .fieldLink RX4 104 "TrackDiskModel" "stands" "I", .fieldLink RX4 47 "TrackDiskModel" "tape" "[I", .fieldLink RX4 107 "TrackDiskModel" "rows" "I"] ++ wsX40)
def wsX4_next : List Cond := .code yX4_next cX4_next 1 (some .int) :: ([.fieldLink RX4 61 "TrackDiskModel" "code" "I", .fieldLink RX4 104 "TrackDiskModel" "stands" "I", .fieldLink RX4 107 "TrackDiskModel" "rows" "I", .fieldLink RX4 47 "TrackDiskModel" "tape" "[I"] ++ wsX40)
def wsX4_read : List Cond := .code yX4_read cX4_read 5 (some .byte) :: ([.fieldLink RX4 61 "TrackDiskModel" "code" "I", .fieldLink RX4 7 "TrackDiskModel" "bytes" "[B", .methodLink RX4 69 yX4_isSector, .instanceMethod yX4_isSector, .selects RX4 yX4_isSector yX4_isSector, .initialized RX4, .code yX4_isSector cX4_isSector 3 (some .boolean), .fieldLink RX4 54 "TrackDiskModel" "sectors" "I", .methodLink RX4 64 yX4_isTrack, .instanceMethod yX4_isTrack, .selects RX4 yX4_isTrack yX4_isTrack, .code yX4_isTrack cX4_isTrack 2 (some .boolean), .fieldLink RX4 50 "TrackDiskModel" "tracks" "I", .methodLink RX4 80 yX4_lies, .instanceMethod yX4_lies, .selects RX4 yX4_lies yX4_lies, .code yX4_lies cX4_lies 3 (some .int), .fieldLink RX4 23 "TrackDiskModel" "sent" "[I"] ++ wsX40)
def wsX4_differs : List Cond := .code yX4_differs cX4_differs 6 (some .int) :: ([.fieldLink RX4 13 "TrackDiskModel" "kept" "[B", .fieldLink RX4 7 "TrackDiskModel" "bytes" "[B"] ++ wsX40)
def wsX4_count : List Cond := .code yX4_count cX4_count 4 (some .int) :: ([.fieldLink RX4 61 "TrackDiskModel" "code" "I", .fieldLink RX4 50 "TrackDiskModel" "tracks" "I", .fieldLink RX4 23 "TrackDiskModel" "sent" "[I", .fieldLink RX4 54 "TrackDiskModel" "sectors" "I", .fieldLink RX4 77 "TrackDiskModel" "waiting" "I", .fieldLink RX4 73 "TrackDiskModel" "down" "Z", .fieldLink RX4 101 "TrackDiskModel" "dumps" "I", .methodLink RX4 110 yX4_differs, .instanceMethod yX4_differs, .selects RX4 yX4_differs yX4_differs, .initialized RX4, .code yX4_differs cX4_differs 6 (some .int), .fieldLink RX4 13 "TrackDiskModel" "kept" "[B", .fieldLink RX4 7 "TrackDiskModel" "bytes" "[B"] ++ wsX40)
def wsJx00060_init_a7421 : List Cond := .code yJx00060_init_a7421 cJx00060_init_a7421 2 none :: ([])
def wsJ9_max_7cf53 : List Cond := .code yJ9_max_7cf53 cJ9_max_7cf53 2 (some .int) :: ([])
def wsJ9_min_7cf53 : List Cond := .code yJ9_min_7cf53 cJ9_min_7cf53 2 (some .int) :: ([])
def wsL_cell : List Cond := .code yL_cell cL_cell 2 (some .int) :: ([])
def wsL_read_r1 : List Cond := [Cond.methodLink RL 7 yX3_read, Cond.instanceMethod yX3_read, Cond.selects RX3 yX3_read yX3_read, Cond.initialized RX3, Cond.code yX3_read cX3_read 4 (some .byte), Cond.classLink RX3 69 RJx00060, Cond.instantiable RJx00060 6, Cond.initialized RJx00060, Cond.fieldLink RX3 25 "TrackDisk" "disk" "LTrackDisk$Surface;", Cond.fieldLink RX3 76 "TrackDisk$Surface" "bytes" "[B", Cond.methodLink RX3 54 yX3_hasSector, Cond.instanceMethod yX3_hasSector, Cond.selects RX3 yX3_hasSector yX3_hasSector, Cond.code yX3_hasSector cX3_hasSector 3 (some .boolean), Cond.fieldLink RX3 17 "TrackDisk" "sectors" "I", Cond.methodLink RX3 109 yX3_hasTrack, Cond.instanceMethod yX3_hasTrack, Cond.selects RX3 yX3_hasTrack yX3_hasTrack, Cond.code yX3_hasTrack cX3_hasTrack 2 (some .boolean), Cond.fieldLink RX3 13 "TrackDisk" "tracks" "I", Cond.methodLink RX3 65 yX3_isByteNumber, Cond.static yX3_isByteNumber, Cond.code yX3_isByteNumber cX3_isByteNumber 1 (some .boolean), Cond.methodLink RX3 80 yX1_firstByte]
def wsL_read_r2 : List Cond := [Cond.instanceMethod yX1_firstByte, Cond.selects RX1 yX1_firstByte yX1_firstByte, Cond.initialized RX1, Cond.code yX1_firstByte cX1_firstByte 3 (some .int), Cond.fieldLink RX1 26 "TrackDisk$Surface" "place" "[I", Cond.methodLink RX1 45 yX1_slot, Cond.instanceMethod yX1_slot, Cond.selects RX1 yX1_slot yX1_slot, Cond.code yX1_slot cX1_slot 3 (some .int), Cond.fieldLink RX1 15 "TrackDisk$Surface" "sectors" "I"]
def wsL_read : List Cond := .codeWith yL_read cL_read 6 (some .int) [(0, 12, 15, 13)] :: ((wsL_read_r1 ++ wsL_read_r2) ++ wsJx000600 ++ wsX30 ++ wsX10)
def wsL_law_r1 : List Cond := [Cond.classLink RL 8 RX3, Cond.instantiable RX3 8, Cond.initialized RX3, Cond.classLink RL 24 RX4, Cond.instantiable RX4 21, Cond.initialized RX4, Cond.arrayClass .long, Cond.methodLink RL 15 yL_cell, Cond.static yL_cell, Cond.initialized RL, Cond.code yL_cell cL_cell 2 (some .int), Cond.methodLink RL 21 yX3_init, Cond.instanceMethod yX3_init, Cond.code yX3_init cX3_init 3 none, Cond.methodLink RX3 1 objectInit, Cond.instanceMethod objectInit, Cond.code objectInit ⟨#[0xb1]⟩ 1 none, Cond.fieldLink RX3 13 "TrackDisk" "tracks" "I", Cond.fieldLink RX3 17 "TrackDisk" "sectors" "I", Cond.classLink RX3 20 RX1, Cond.instantiable RX1 9, Cond.initialized RX1, Cond.fieldLink RX3 25 "TrackDisk" "disk" "LTrackDisk$Surface;", Cond.fieldLink RX3 29 "TrackDisk" "dumps" "[LTrackDisk$Surface;"]
def wsL_law_r2 : List Cond := [Cond.fieldLink RX3 33 "TrackDisk" "dumpsMade" "I", Cond.classLink RX3 36 RX2, Cond.instantiable RX2 4, Cond.initialized RX2, Cond.fieldLink RX3 39 "TrackDisk" "waiting" "LTrackDisk$Waiting;", Cond.classLink RX3 43 RX0, Cond.instantiable RX0 3, Cond.initialized RX0, Cond.fieldLink RX3 46 "TrackDisk" "reel" "LTrackDisk$Reel;", Cond.fieldLink RX3 50 "TrackDisk" "down" "Z", Cond.methodLink RX3 9 yX3_held, Cond.static yX3_held, Cond.code yX3_held cX3_held 3 (some .int), Cond.methodLink RX3 158 Lib.Math.min.name, Cond.static Lib.Math.min.name, Cond.initialized "java/lang/Math", Cond.code Lib.Math.min.name Lib.Math.min.code 2 (some .int), Cond.methodLink RX3 163 Lib.Math.max.name, Cond.static Lib.Math.max.name, Cond.code Lib.Math.max.name Lib.Math.max.code 2 (some .int), Cond.methodLink RX3 22 yX1_init, Cond.instanceMethod yX1_init, Cond.code yX1_init cX1_init 5 none, Cond.methodLink RX1 3 objectInit]
def wsL_law_r3 : List Cond := [Cond.fieldLink RX1 9 "TrackDisk$Surface" "tracks" "I", Cond.fieldLink RX1 15 "TrackDisk$Surface" "sectors" "I", Cond.arrayClass .byte, Cond.fieldLink RX1 18 "TrackDisk$Surface" "bytes" "[B", Cond.arrayClass .int, Cond.fieldLink RX1 22 "TrackDisk$Surface" "sums" "[I", Cond.fieldLink RX1 26 "TrackDisk$Surface" "place" "[I", Cond.fieldLink RX1 29 "TrackDisk$Surface" "usedByRow0" "[I", Cond.fieldLink RX1 32 "TrackDisk$Surface" "usedByRow1" "[I", Cond.fieldLink RX1 35 "TrackDisk$Surface" "taken" "I", Cond.fieldLink RX1 38 "TrackDisk$Surface" "volume" "I", Cond.methodLink RX1 41 yX1_setSums, Cond.instanceMethod yX1_setSums, Cond.selects RX1 yX1_setSums yX1_setSums, Cond.code yX1_setSums cX1_setSums 3 none, Cond.methodLink RX1 45 yX1_slot, Cond.instanceMethod yX1_slot, Cond.selects RX1 yX1_slot yX1_slot, Cond.code yX1_slot cX1_slot 3 (some .int), Cond.methodLink RX1 53 yX1_sumOf, Cond.instanceMethod yX1_sumOf, Cond.selects RX1 yX1_sumOf yX1_sumOf, Cond.code yX1_sumOf cX1_sumOf 7 (some .int), Cond.constant RX1 77 (-1640531535)]
def wsL_law_r4 : List Cond := [Cond.instanceMethod yX2_init, Cond.code yX2_init cX2_init 1 none, Cond.methodLink RX2 3 objectInit, Cond.fieldLink RX2 9 "TrackDisk$Waiting" "track" "[I", Cond.fieldLink RX2 15 "TrackDisk$Waiting" "sector" "[I", Cond.fieldLink RX2 18 "TrackDisk$Waiting" "first" "[B", Cond.fieldLink RX2 22 "TrackDisk$Waiting" "size" "I", Cond.instanceMethod yX0_init, Cond.code yX0_init cX0_init 1 none, Cond.methodLink RX0 3 objectInit, Cond.fieldLink RX0 9 "TrackDisk$Reel" "rows" "[I", Cond.fieldLink RX0 15 "TrackDisk$Reel" "size" "I", Cond.fieldLink RX0 19 "TrackDisk$Reel" "stand" "I", Cond.methodLink RL 26 yX4_init, Cond.instanceMethod yX4_init, Cond.code yX4_init cX4_init 5 none, Cond.methodLink RX4 1 objectInit, Cond.fieldLink RX4 7 "TrackDiskModel" "bytes" "[B", Cond.fieldLink RX4 13 "TrackDiskModel" "kept" "[B", Cond.fieldLink RX4 16 "TrackDiskModel" "sums" "[I", Cond.fieldLink RX4 20 "TrackDiskModel" "keptSums" "[I", Cond.fieldLink RX4 23 "TrackDiskModel" "sent" "[I", Cond.fieldLink RX4 26 "TrackDiskModel" "space" "[I", Cond.fieldLink RX4 29 "TrackDiskModel" "keptSent" "[I"]
def wsL_law_r5 : List Cond := [Cond.fieldLink RX4 32 "TrackDiskModel" "keptSpace" "[I", Cond.fieldLink RX4 35 "TrackDiskModel" "volumes" "[I", Cond.fieldLink RX4 38 "TrackDiskModel" "waitTracks" "[I", Cond.fieldLink RX4 41 "TrackDiskModel" "waitSectors" "[I", Cond.fieldLink RX4 44 "TrackDiskModel" "waitBytes" "[I", Cond.fieldLink RX4 47 "TrackDiskModel" "tape" "[I", Cond.fieldLink RX4 50 "TrackDiskModel" "tracks" "I", Cond.fieldLink RX4 54 "TrackDiskModel" "sectors" "I", Cond.methodLink RX4 57 yX4_sumOf, Cond.instanceMethod yX4_sumOf, Cond.selects RX4 yX4_sumOf yX4_sumOf, Cond.code yX4_sumOf cX4_sumOf 5 (some .int), Cond.constant RX4 68 (-1640531535), Cond.methodLink RL 27 yX3_write, Cond.instanceMethod yX3_write, Cond.selects RX3 yX3_write yX3_write, Cond.code yX3_write cX3_write 4 (some .int), Cond.fieldLink RX3 58 "TrackDisk$Waiting" "size" "I", Cond.methodLink RX3 54 yX3_hasSector, Cond.instanceMethod yX3_hasSector, Cond.selects RX3 yX3_hasSector yX3_hasSector, Cond.code yX3_hasSector cX3_hasSector 3 (some .boolean), Cond.methodLink RX3 109 yX3_hasTrack, Cond.instanceMethod yX3_hasTrack]
def wsL_law_r6 : List Cond := [Cond.selects RX3 yX3_hasTrack yX3_hasTrack, Cond.code yX3_hasTrack cX3_hasTrack 2 (some .boolean), Cond.methodLink RX3 61 yX2_append, Cond.instanceMethod yX2_append, Cond.selects RX2 yX2_append yX2_append, Cond.code yX2_append cX2_append 4 none, Cond.methodLink RL 31 yX4_write, Cond.instanceMethod yX4_write, Cond.selects RX4 yX4_write yX4_write, Cond.code yX4_write cX4_write 4 (some .int), Cond.fieldLink RX4 61 "TrackDiskModel" "code" "I", Cond.fieldLink RX4 73 "TrackDiskModel" "down" "Z", Cond.fieldLink RX4 77 "TrackDiskModel" "waiting" "I", Cond.methodLink RX4 69 yX4_isSector, Cond.instanceMethod yX4_isSector, Cond.selects RX4 yX4_isSector yX4_isSector, Cond.code yX4_isSector cX4_isSector 3 (some .boolean), Cond.methodLink RX4 64 yX4_isTrack, Cond.instanceMethod yX4_isTrack, Cond.selects RX4 yX4_isTrack yX4_isTrack, Cond.code yX4_isTrack cX4_isTrack 2 (some .boolean), Cond.methodLink RL 32 yL_read, Cond.static yL_read, Cond.codeWith yL_read cL_read 6 (some .int) [(0, 12, 15, 13)]]
def wsL_law_r7 : List Cond := [Cond.methodLink RL 7 yX3_read, Cond.instanceMethod yX3_read, Cond.selects RX3 yX3_read yX3_read, Cond.code yX3_read cX3_read 4 (some .byte), Cond.classLink RX3 69 RJx00060, Cond.instantiable RJx00060 6, Cond.initialized RJx00060, Cond.fieldLink RX3 76 "TrackDisk$Surface" "bytes" "[B", Cond.methodLink RX3 65 yX3_isByteNumber, Cond.static yX3_isByteNumber, Cond.code yX3_isByteNumber cX3_isByteNumber 1 (some .boolean), Cond.methodLink RX3 80 yX1_firstByte, Cond.instanceMethod yX1_firstByte, Cond.selects RX1 yX1_firstByte yX1_firstByte, Cond.code yX1_firstByte cX1_firstByte 3 (some .int), Cond.methodLink RL 35 yX4_read, Cond.instanceMethod yX4_read, Cond.selects RX4 yX4_read yX4_read, Cond.code yX4_read cX4_read 5 (some .byte), Cond.methodLink RX4 80 yX4_lies, Cond.instanceMethod yX4_lies, Cond.selects RX4 yX4_lies yX4_lies, Cond.code yX4_lies cX4_lies 3 (some .int), Cond.methodLink RL 36 yX4_thrown]
def wsL_law_r8 : List Cond := [Cond.instanceMethod yX4_thrown, Cond.selects RX4 yX4_thrown yX4_thrown, Cond.code yX4_thrown cX4_thrown 1 (some .int), Cond.methodLink RL 40 yX3_sync, Cond.instanceMethod yX3_sync, Cond.selects RX3 yX3_sync yX3_sync, Cond.code yX3_sync cX3_sync 2 (some .int), Cond.methodLink RX3 84 yX3_layFirst, Cond.instanceMethod yX3_layFirst, Cond.selects RX3 yX3_layFirst yX3_layFirst, Cond.code yX3_layFirst cX3_layFirst 3 none, Cond.fieldLink RX3 91 "TrackDisk$Waiting" "track" "[I", Cond.fieldLink RX3 95 "TrackDisk$Waiting" "sector" "[I", Cond.fieldLink RX3 98 "TrackDisk$Waiting" "first" "[B", Cond.methodLink RX3 166 yX1_lay, Cond.instanceMethod yX1_lay, Cond.selects RX1 yX1_lay yX1_lay, Cond.code yX1_lay cX1_lay 5 none, Cond.methodLink RX1 49 yX1_fill, Cond.instanceMethod yX1_fill, Cond.selects RX1 yX1_fill yX1_fill, Cond.code yX1_fill cX1_fill 7 none, Cond.methodLink RX1 64 yX1_firstByte, Cond.methodLink RX3 88 yX2_drop]
def wsL_law_r9 : List Cond := [Cond.instanceMethod yX2_drop, Cond.selects RX2 yX2_drop yX2_drop, Cond.code yX2_drop cX2_drop 1 none, Cond.methodLink RL 43 yX4_sync, Cond.instanceMethod yX4_sync, Cond.selects RX4 yX4_sync yX4_sync, Cond.code yX4_sync cX4_sync 2 (some .int), Cond.methodLink RX4 88 yX4_whole, Cond.instanceMethod yX4_whole, Cond.selects RX4 yX4_whole yX4_whole, Cond.code yX4_whole cX4_whole 3 none, Cond.methodLink RX4 84 yX4_done, Cond.instanceMethod yX4_done, Cond.selects RX4 yX4_done yX4_done, Cond.code yX4_done cX4_done 5 none, Cond.methodLink RL 44 yX3_cut, Cond.instanceMethod yX3_cut, Cond.selects RX3 yX3_cut yX3_cut, Cond.code yX3_cut cX3_cut 4 none, Cond.methodLink RX3 101 yX1_layTorn, Cond.instanceMethod yX1_layTorn, Cond.selects RX1 yX1_layTorn yX1_layTorn, Cond.code yX1_layTorn cX1_layTorn 5 none, Cond.methodLink RL 47 yX4_cut]
def wsL_law_r10 : List Cond := [Cond.instanceMethod yX4_cut, Cond.selects RX4 yX4_cut yX4_cut, Cond.code yX4_cut cX4_cut 5 none, Cond.methodLink RL 48 yX3_start, Cond.instanceMethod yX3_start, Cond.selects RX3 yX3_start yX3_start, Cond.code yX3_start cX3_start 1 (some .int), Cond.methodLink RX3 105 yX1_wrongSectors, Cond.instanceMethod yX1_wrongSectors, Cond.selects RX1 yX1_wrongSectors yX1_wrongSectors, Cond.code yX1_wrongSectors cX1_wrongSectors 4 (some .int), Cond.methodLink RX1 56 yX1_isWrong, Cond.instanceMethod yX1_isWrong, Cond.selects RX1 yX1_isWrong yX1_isWrong, Cond.code yX1_isWrong cX1_isWrong 4 (some .boolean), Cond.methodLink RL 51 yX4_start, Cond.instanceMethod yX4_start, Cond.selects RX4 yX4_start yX4_start, Cond.code yX4_start cX4_start 1 (some .int), Cond.methodLink RX4 95 yX4_wrong, Cond.instanceMethod yX4_wrong, Cond.selects RX4 yX4_wrong yX4_wrong, Cond.code yX4_wrong cX4_wrong 5 (some .int), Cond.methodLink RX4 92 yX4_isWrong]
def wsL_law_r11 : List Cond := [Cond.instanceMethod yX4_isWrong, Cond.selects RX4 yX4_isWrong yX4_isWrong, Cond.code yX4_isWrong cX4_isWrong 4 (some .boolean), Cond.methodLink RL 52 yX3_space, Cond.instanceMethod yX3_space, Cond.selects RX3 yX3_space yX3_space, Cond.code yX3_space cX3_space 3 (some .int), Cond.fieldLink RX3 112 "TrackDisk$Surface" "usedByRow0" "[I", Cond.fieldLink RX3 115 "TrackDisk$Surface" "usedByRow1" "[I", Cond.methodLink RL 56 yX4_space, Cond.instanceMethod yX4_space, Cond.selects RX4 yX4_space yX4_space, Cond.code yX4_space cX4_space 3 (some .int), Cond.methodLink RL 57 yX3_mend, Cond.instanceMethod yX3_mend, Cond.selects RX3 yX3_mend yX3_mend, Cond.code yX3_mend cX3_mend 1 (some .int), Cond.methodLink RX3 118 yX1_mendRows, Cond.instanceMethod yX1_mendRows, Cond.selects RX1 yX1_mendRows yX1_mendRows, Cond.code yX1_mendRows cX1_mendRows 4 (some .int), Cond.methodLink RX1 60 yX1_holdsMoreThanZeros, Cond.instanceMethod yX1_holdsMoreThanZeros, Cond.selects RX1 yX1_holdsMoreThanZeros yX1_holdsMoreThanZeros]
def wsL_law_r12 : List Cond := [Cond.code yX1_holdsMoreThanZeros cX1_holdsMoreThanZeros 4 (some .boolean), Cond.methodLink RL 60 yX4_mend, Cond.instanceMethod yX4_mend, Cond.selects RX4 yX4_mend yX4_mend, Cond.code yX4_mend cX4_mend 3 (some .int), Cond.methodLink RX4 98 yX4_isUsed, Cond.instanceMethod yX4_isUsed, Cond.selects RX4 yX4_isUsed yX4_isUsed, Cond.code yX4_isUsed cX4_isUsed 4 (some .int), Cond.methodLink RL 61 yX3_poke, Cond.instanceMethod yX3_poke, Cond.selects RX3 yX3_poke yX3_poke, Cond.code yX3_poke cX3_poke 8 (some .int), Cond.methodLink RL 65 yX4_poke, Cond.instanceMethod yX4_poke, Cond.selects RX4 yX4_poke yX4_poke, Cond.code yX4_poke cX4_poke 7 (some .int), Cond.methodLink RL 66 yX3_wrong, Cond.instanceMethod yX3_wrong, Cond.selects RX3 yX3_wrong yX3_wrong, Cond.code yX3_wrong cX3_wrong 3 (some .int), Cond.methodLink RX3 121 yX1_firstWrong, Cond.instanceMethod yX1_firstWrong, Cond.selects RX1 yX1_firstWrong yX1_firstWrong]
def wsL_law_r13 : List Cond := [Cond.code yX1_firstWrong cX1_firstWrong 3 (some .int), Cond.methodLink RL 70 yX4_wrong, Cond.methodLink RL 71 yX3_alternate, Cond.instanceMethod yX3_alternate, Cond.selects RX3 yX3_alternate yX3_alternate, Cond.code yX3_alternate cX3_alternate 2 (some .int), Cond.fieldLink RX3 127 "TrackDisk$Surface" "taken" "I", Cond.methodLink RX3 124 yX1_isSent, Cond.instanceMethod yX1_isSent, Cond.selects RX1 yX1_isSent yX1_isSent, Cond.code yX1_isSent cX1_isSent 2 (some .boolean), Cond.methodLink RX3 130 yX1_send, Cond.instanceMethod yX1_send, Cond.selects RX1 yX1_send yX1_send, Cond.code yX1_send cX1_send 3 (some .int), Cond.methodLink RX1 67 arraycopyName, Cond.native arraycopyName, Cond.static arraycopyName, Cond.initialized "java/lang/System", Cond.methodLink RL 74 yX4_alternate, Cond.instanceMethod yX4_alternate, Cond.selects RX4 yX4_alternate yX4_alternate, Cond.code yX4_alternate cX4_alternate 5 (some .int), Cond.methodLink RL 75 yX3_dump]
def wsL_law_r14 : List Cond := [Cond.instanceMethod yX3_dump, Cond.selects RX3 yX3_dump yX3_dump, Cond.code yX3_dump cX3_dump 3 (some .int), Cond.fieldLink RX3 138 "TrackDisk$Surface" "volume" "I", Cond.methodLink RX3 134 yX1_takeOver, Cond.instanceMethod yX1_takeOver, Cond.selects RX1 yX1_takeOver yX1_takeOver, Cond.code yX1_takeOver cX1_takeOver 2 none, Cond.methodLink RL 78 yX4_dump, Cond.instanceMethod yX4_dump, Cond.selects RX4 yX4_dump yX4_dump, Cond.code yX4_dump cX4_dump 3 (some .int), Cond.fieldLink RX4 101 "TrackDiskModel" "dumps" "I", Cond.methodLink RL 79 yX3_restore, Cond.instanceMethod yX3_restore, Cond.selects RX3 yX3_restore yX3_restore, Cond.code yX3_restore cX3_restore 4 (some .int), Cond.methodLink RX3 141 yX3_dumpOf, Cond.instanceMethod yX3_dumpOf, Cond.selects RX3 yX3_dumpOf yX3_dumpOf, Cond.code yX3_dumpOf cX3_dumpOf 2 (some (.object "TrackDisk$Surface")), Cond.methodLink RL 82 yX4_restore, Cond.instanceMethod yX4_restore, Cond.selects RX4 yX4_restore yX4_restore]
def wsL_law_r15 : List Cond := [Cond.code yX4_restore cX4_restore 5 (some .int), Cond.methodLink RL 83 yX3_tape, Cond.instanceMethod yX3_tape, Cond.selects RX3 yX3_tape yX3_tape, Cond.code yX3_tape cX3_tape 2 (some .int), Cond.fieldLink RX3 145 "TrackDisk$Reel" "stand" "I", Cond.fieldLink RX3 151 "TrackDisk$Reel" "size" "I", Cond.methodLink RX3 148 yX0_record, Cond.instanceMethod yX0_record, Cond.selects RX0 yX0_record yX0_record, Cond.code yX0_record cX0_record 2 none, Cond.methodLink RL 86 yX4_tape, Cond.instanceMethod yX4_tape, Cond.selects RX4 yX4_tape yX4_tape, Cond.code yX4_tape cX4_tape 2 (some .int), Cond.fieldLink RX4 104 "TrackDiskModel" "stands" "I", Cond.fieldLink RX4 107 "TrackDiskModel" "rows" "I", Cond.methodLink RL 87 yX3_next, Cond.instanceMethod yX3_next, Cond.selects RX3 yX3_next yX3_next, Cond.code yX3_next cX3_next 1 (some .int), Cond.methodLink RX3 152 yX0_pass, Cond.instanceMethod yX0_pass, Cond.selects RX0 yX0_pass yX0_pass]
def wsL_law_r16 : List Cond := [Cond.code yX0_pass cX0_pass 2 (some .int), Cond.methodLink RL 90 yX4_next, Cond.instanceMethod yX4_next, Cond.selects RX4 yX4_next yX4_next, Cond.code yX4_next cX4_next 1 (some .int), Cond.methodLink RL 91 yX3_count, Cond.instanceMethod yX3_count, Cond.selects RX3 yX3_count yX3_count, Cond.code yX3_count cX3_count 2 (some .int), Cond.methodLink RX3 155 yX3_differingFromLatestDump, Cond.instanceMethod yX3_differingFromLatestDump, Cond.selects RX3 yX3_differingFromLatestDump yX3_differingFromLatestDump, Cond.code yX3_differingFromLatestDump cX3_differingFromLatestDump 2 (some .int), Cond.methodLink RX3 169 yX1_differingSectors, Cond.instanceMethod yX1_differingSectors, Cond.selects RX1 yX1_differingSectors yX1_differingSectors, Cond.code yX1_differingSectors cX1_differingSectors 4 (some .int), Cond.methodLink RX1 73 yX1_differsAt, Cond.instanceMethod yX1_differsAt, Cond.selects RX1 yX1_differsAt yX1_differsAt, Cond.code yX1_differsAt cX1_differsAt 5 (some .boolean), Cond.methodLink RL 94 yX4_count, Cond.instanceMethod yX4_count, Cond.selects RX4 yX4_count yX4_count]
def wsL_law_r17 : List Cond := [Cond.code yX4_count cX4_count 4 (some .int), Cond.methodLink RX4 110 yX4_differs, Cond.instanceMethod yX4_differs, Cond.selects RX4 yX4_differs yX4_differs, Cond.code yX4_differs cX4_differs 6 (some .int)]
def wsL_law : List Cond := (wsL_law_r1 ++ (wsL_law_r2 ++ (wsL_law_r3 ++ (wsL_law_r4 ++ (wsL_law_r5 ++ (wsL_law_r6 ++ (wsL_law_r7 ++ (wsL_law_r8 ++ (wsL_law_r9 ++ (wsL_law_r10 ++ (wsL_law_r11 ++ (wsL_law_r12 ++ (wsL_law_r13 ++ (wsL_law_r14 ++ (wsL_law_r15 ++ (wsL_law_r16 ++ wsL_law_r17)))))))))))))))) ++ wsX30 ++ wsX40 ++ wsX10 ++ wsX20 ++ wsX00 ++ wsJx000600 ++ ([] : List Cond)
abbrev vwCl : List vw_C := [(RJx00060, TJx00060, 6), (RX0, TX0, 3), (RX1, TX1, 9), (RX2, TX2, 4), (RX3, TX3, 8), (RX4, TX4, 21)]
end
section
theorem dX0_init_0 : decode cX0_init 0 = .ok (.aload_n 0, 1) := by decide +kernel
theorem dX0_init_1 : decode cX0_init 1 = .ok (.invokespecial 3, 3) := by decide +kernel
theorem dX0_init_4 : decode cX0_init 4 = .ok (.aload_n 0, 1) := by decide +kernel
theorem dX0_init_5 : decode cX0_init 5 = .ok (.bipush 100, 2) := by decide +kernel
theorem dX0_init_7 : decode cX0_init 7 = .ok (.newarray .int, 2) := by decide +kernel
theorem dX0_init_9 : decode cX0_init 9 = .ok (.putfield 9, 3) := by decide +kernel
theorem dX0_init_12 : decode cX0_init 12 = .ok (.aload_n 0, 1) := by decide +kernel
theorem dX0_init_13 : decode cX0_init 13 = .ok (.iconst 0, 1) := by decide +kernel
theorem dX0_init_14 : decode cX0_init 14 = .ok (.putfield 15, 3) := by decide +kernel
theorem dX0_init_17 : decode cX0_init 17 = .ok (.aload_n 0, 1) := by decide +kernel
theorem dX0_init_18 : decode cX0_init 18 = .ok (.iconst 0, 1) := by decide +kernel
theorem dX0_init_19 : decode cX0_init 19 = .ok (.putfield 19, 3) := by decide +kernel
theorem dX0_init_22 : decode cX0_init 22 = .ok (.return_, 1) := by decide +kernel
theorem dX0_record_0 : decode cX0_record 0 = .ok (.aload_n 0, 1) := by decide +kernel
theorem dX0_record_1 : decode cX0_record 1 = .ok (.getfield 19, 3) := by decide +kernel
theorem dX0_record_4 : decode cX0_record 4 = .ok (.bipush 100, 2) := by decide +kernel
theorem dX0_record_6 : decode cX0_record 6 = .ok (.if_icmp .ge 31, 3) := by decide +kernel
theorem dX0_record_9 : decode cX0_record 9 = .ok (.aload_n 0, 1) := by decide +kernel
theorem dX0_record_10 : decode cX0_record 10 = .ok (.getfield 9, 3) := by decide +kernel
theorem dX0_record_13 : decode cX0_record 13 = .ok (.aload_n 0, 1) := by decide +kernel
theorem dX0_record_14 : decode cX0_record 14 = .ok (.getfield 19, 3) := by decide +kernel
theorem dX0_record_17 : decode cX0_record 17 = .ok (.iload_n 1, 1) := by decide +kernel
theorem dX0_record_18 : decode cX0_record 18 = .ok (.iastore, 1) := by decide +kernel
theorem dX0_record_19 : decode cX0_record 19 = .ok (.aload_n 0, 1) := by decide +kernel
theorem dX0_record_20 : decode cX0_record 20 = .ok (.dup, 1) := by decide +kernel
theorem dX0_record_21 : decode cX0_record 21 = .ok (.getfield 19, 3) := by decide +kernel
theorem dX0_record_24 : decode cX0_record 24 = .ok (.iconst 1, 1) := by decide +kernel
theorem dX0_record_25 : decode cX0_record 25 = .ok (.iadd, 1) := by decide +kernel
theorem dX0_record_26 : decode cX0_record 26 = .ok (.putfield 19, 3) := by decide +kernel
theorem dX0_record_29 : decode cX0_record 29 = .ok (.aload_n 0, 1) := by decide +kernel
theorem dX0_record_30 : decode cX0_record 30 = .ok (.aload_n 0, 1) := by decide +kernel
theorem dX0_record_31 : decode cX0_record 31 = .ok (.getfield 19, 3) := by decide +kernel
theorem dX0_record_34 : decode cX0_record 34 = .ok (.putfield 15, 3) := by decide +kernel
theorem dX0_record_37 : decode cX0_record 37 = .ok (.return_, 1) := by decide +kernel
theorem dX0_pass_0 : decode cX0_pass 0 = .ok (.aload_n 0, 1) := by decide +kernel
theorem dX0_pass_1 : decode cX0_pass 1 = .ok (.getfield 19, 3) := by decide +kernel
theorem dX0_pass_4 : decode cX0_pass 4 = .ok (.aload_n 0, 1) := by decide +kernel
theorem dX0_pass_5 : decode cX0_pass 5 = .ok (.getfield 15, 3) := by decide +kernel
theorem dX0_pass_8 : decode cX0_pass 8 = .ok (.if_icmp .lt 5, 3) := by decide +kernel
theorem dX0_pass_11 : decode cX0_pass 11 = .ok (.iconst (-1), 1) := by decide +kernel
theorem dX0_pass_12 : decode cX0_pass 12 = .ok (.ireturn, 1) := by decide +kernel
theorem dX0_pass_13 : decode cX0_pass 13 = .ok (.aload_n 0, 1) := by decide +kernel
theorem dX0_pass_14 : decode cX0_pass 14 = .ok (.getfield 9, 3) := by decide +kernel
theorem dX0_pass_17 : decode cX0_pass 17 = .ok (.aload_n 0, 1) := by decide +kernel
theorem dX0_pass_18 : decode cX0_pass 18 = .ok (.getfield 19, 3) := by decide +kernel
theorem dX0_pass_21 : decode cX0_pass 21 = .ok (.iaload, 1) := by decide +kernel
theorem dX0_pass_22 : decode cX0_pass 22 = .ok (.istore_n 1, 1) := by decide +kernel
theorem dX0_pass_23 : decode cX0_pass 23 = .ok (.aload_n 0, 1) := by decide +kernel
theorem dX0_pass_24 : decode cX0_pass 24 = .ok (.dup, 1) := by decide +kernel
theorem dX0_pass_25 : decode cX0_pass 25 = .ok (.getfield 19, 3) := by decide +kernel
theorem dX0_pass_28 : decode cX0_pass 28 = .ok (.iconst 1, 1) := by decide +kernel
theorem dX0_pass_29 : decode cX0_pass 29 = .ok (.iadd, 1) := by decide +kernel
theorem dX0_pass_30 : decode cX0_pass 30 = .ok (.putfield 19, 3) := by decide +kernel
theorem dX0_pass_33 : decode cX0_pass 33 = .ok (.iload_n 1, 1) := by decide +kernel
theorem dX0_pass_34 : decode cX0_pass 34 = .ok (.ireturn, 1) := by decide +kernel
set_option maxRecDepth 20000 in
theorem ggX1_init_X1_setSums : GoodIn wsX1_init wsX1_setSums := goodIn_r _ [19, 5, 9, 20, 21, 22, 18, 23, 24, 25, 26, 27, 7, 28, 29, 30, 31, 32, 33, 34, 35, 36, 37] (by decide +kernel) (by decide +kernel)
set_option maxRecDepth 20000 in
theorem gX1_init_X1_setSums : GoodIn wsX1_init (wsV RX1 41 RX1 yX1_setSums wsX1_setSums) := goodIn_app (goodIn_of _ (by decide +kernel)) ggX1_init_X1_setSums
theorem dX1_init_0 : decode cX1_init 0 = .ok (.aload_n 0, 1) := by decide +kernel
theorem dX1_init_1 : decode cX1_init 1 = .ok (.invokespecial 3, 3) := by decide +kernel
theorem dX1_init_4 : decode cX1_init 4 = .ok (.iload_n 1, 1) := by decide +kernel
theorem dX1_init_5 : decode cX1_init 5 = .ok (.iconst 2, 1) := by decide +kernel
theorem dX1_init_6 : decode cX1_init 6 = .ok (.iadd, 1) := by decide +kernel
theorem dX1_init_7 : decode cX1_init 7 = .ok (.istore_n 3, 1) := by decide +kernel
theorem dX1_init_8 : decode cX1_init 8 = .ok (.aload_n 0, 1) := by decide +kernel
theorem dX1_init_9 : decode cX1_init 9 = .ok (.iload_n 1, 1) := by decide +kernel
theorem dX1_init_10 : decode cX1_init 10 = .ok (.putfield 9, 3) := by decide +kernel
theorem dX1_init_13 : decode cX1_init 13 = .ok (.aload_n 0, 1) := by decide +kernel
theorem dX1_init_14 : decode cX1_init 14 = .ok (.iload_n 2, 1) := by decide +kernel
theorem dX1_init_15 : decode cX1_init 15 = .ok (.putfield 15, 3) := by decide +kernel
theorem dX1_init_18 : decode cX1_init 18 = .ok (.aload_n 0, 1) := by decide +kernel
theorem dX1_init_19 : decode cX1_init 19 = .ok (.iload_n 3, 1) := by decide +kernel
theorem dX1_init_20 : decode cX1_init 20 = .ok (.iload_n 2, 1) := by decide +kernel
theorem dX1_init_21 : decode cX1_init 21 = .ok (.imul, 1) := by decide +kernel
theorem dX1_init_22 : decode cX1_init 22 = .ok (.bipush 16, 2) := by decide +kernel
theorem dX1_init_24 : decode cX1_init 24 = .ok (.imul, 1) := by decide +kernel
theorem dX1_init_25 : decode cX1_init 25 = .ok (.newarray .byte, 2) := by decide +kernel
theorem dX1_init_27 : decode cX1_init 27 = .ok (.putfield 18, 3) := by decide +kernel
theorem dX1_init_30 : decode cX1_init 30 = .ok (.aload_n 0, 1) := by decide +kernel
theorem dX1_init_31 : decode cX1_init 31 = .ok (.iload_n 3, 1) := by decide +kernel
theorem dX1_init_32 : decode cX1_init 32 = .ok (.iload_n 2, 1) := by decide +kernel
theorem dX1_init_33 : decode cX1_init 33 = .ok (.imul, 1) := by decide +kernel
theorem dX1_init_34 : decode cX1_init 34 = .ok (.newarray .int, 2) := by decide +kernel
theorem dX1_init_36 : decode cX1_init 36 = .ok (.putfield 22, 3) := by decide +kernel
theorem dX1_init_39 : decode cX1_init 39 = .ok (.aload_n 0, 1) := by decide +kernel
theorem dX1_init_40 : decode cX1_init 40 = .ok (.iload_n 1, 1) := by decide +kernel
theorem dX1_init_41 : decode cX1_init 41 = .ok (.newarray .int, 2) := by decide +kernel
theorem dX1_init_43 : decode cX1_init 43 = .ok (.putfield 26, 3) := by decide +kernel
theorem dX1_init_46 : decode cX1_init 46 = .ok (.aload_n 0, 1) := by decide +kernel
theorem dX1_init_47 : decode cX1_init 47 = .ok (.iload_n 1, 1) := by decide +kernel
theorem dX1_init_48 : decode cX1_init 48 = .ok (.newarray .int, 2) := by decide +kernel
theorem dX1_init_50 : decode cX1_init 50 = .ok (.putfield 29, 3) := by decide +kernel
theorem dX1_init_53 : decode cX1_init 53 = .ok (.aload_n 0, 1) := by decide +kernel
theorem dX1_init_54 : decode cX1_init 54 = .ok (.iload_n 1, 1) := by decide +kernel
theorem dX1_init_55 : decode cX1_init 55 = .ok (.newarray .int, 2) := by decide +kernel
theorem dX1_init_57 : decode cX1_init 57 = .ok (.putfield 32, 3) := by decide +kernel
theorem dX1_init_60 : decode cX1_init 60 = .ok (.aload_n 0, 1) := by decide +kernel
theorem dX1_init_61 : decode cX1_init 61 = .ok (.iconst 0, 1) := by decide +kernel
theorem dX1_init_62 : decode cX1_init 62 = .ok (.putfield 35, 3) := by decide +kernel
theorem dX1_init_65 : decode cX1_init 65 = .ok (.aload_n 0, 1) := by decide +kernel
theorem dX1_init_66 : decode cX1_init 66 = .ok (.iconst 0, 1) := by decide +kernel
theorem dX1_init_67 : decode cX1_init 67 = .ok (.putfield 38, 3) := by decide +kernel
theorem dX1_init_70 : decode cX1_init 70 = .ok (.iconst 0, 1) := by decide +kernel
theorem dX1_init_71 : decode cX1_init 71 = .ok (.istore 4, 2) := by decide +kernel
theorem dX1_init_73 : decode cX1_init 73 = .ok (.iload 4, 2) := by decide +kernel
theorem dX1_init_75 : decode cX1_init 75 = .ok (.iload_n 1, 1) := by decide +kernel
theorem dX1_init_76 : decode cX1_init 76 = .ok (.if_icmp .ge 18, 3) := by decide +kernel
theorem dX1_init_79 : decode cX1_init 79 = .ok (.aload_n 0, 1) := by decide +kernel
theorem dX1_init_80 : decode cX1_init 80 = .ok (.getfield 26, 3) := by decide +kernel
theorem dX1_init_83 : decode cX1_init 83 = .ok (.iload 4, 2) := by decide +kernel
theorem dX1_init_85 : decode cX1_init 85 = .ok (.iload 4, 2) := by decide +kernel
theorem dX1_init_87 : decode cX1_init 87 = .ok (.iastore, 1) := by decide +kernel
theorem dX1_init_88 : decode cX1_init 88 = .ok (.iinc 4 1, 3) := by decide +kernel
theorem dX1_init_91 : decode cX1_init 91 = .ok (.goto (-18), 3) := by decide +kernel
theorem dX1_init_94 : decode cX1_init 94 = .ok (.iconst 0, 1) := by decide +kernel
theorem dX1_init_95 : decode cX1_init 95 = .ok (.istore 4, 2) := by decide +kernel
theorem dX1_init_97 : decode cX1_init 97 = .ok (.iload 4, 2) := by decide +kernel
theorem dX1_init_99 : decode cX1_init 99 = .ok (.iload_n 3, 1) := by decide +kernel
theorem dX1_init_100 : decode cX1_init 100 = .ok (.if_icmp .ge 15, 3) := by decide +kernel
theorem dX1_init_103 : decode cX1_init 103 = .ok (.aload_n 0, 1) := by decide +kernel
theorem dX1_init_104 : decode cX1_init 104 = .ok (.iload 4, 2) := by decide +kernel
theorem dX1_init_106 : decode cX1_init 106 = .ok (.invokevirtual 41, 3) := by decide +kernel
theorem dX1_init_109 : decode cX1_init 109 = .ok (.iinc 4 1, 3) := by decide +kernel
theorem dX1_init_112 : decode cX1_init 112 = .ok (.goto (-15), 3) := by decide +kernel
theorem dX1_init_115 : decode cX1_init 115 = .ok (.return_, 1) := by decide +kernel
set_option maxRecDepth 20000 in
theorem ggX1_firstByte_X1_slot : GoodIn wsX1_firstByte wsX1_slot := goodIn_r _ [6, 7, 8, 9, 10, 11, 12, 13, 14, 15, 16] (by decide +kernel) (by decide +kernel)
set_option maxRecDepth 20000 in
theorem gX1_firstByte_X1_slot : GoodIn wsX1_firstByte (wsV RX1 45 RX1 yX1_slot wsX1_slot) := goodIn_app (goodIn_of _ (by decide +kernel)) ggX1_firstByte_X1_slot
theorem dX1_firstByte_0 : decode cX1_firstByte 0 = .ok (.aload_n 0, 1) := by decide +kernel
theorem dX1_firstByte_1 : decode cX1_firstByte 1 = .ok (.aload_n 0, 1) := by decide +kernel
theorem dX1_firstByte_2 : decode cX1_firstByte 2 = .ok (.getfield 26, 3) := by decide +kernel
theorem dX1_firstByte_5 : decode cX1_firstByte 5 = .ok (.iload_n 1, 1) := by decide +kernel
theorem dX1_firstByte_6 : decode cX1_firstByte 6 = .ok (.iaload, 1) := by decide +kernel
theorem dX1_firstByte_7 : decode cX1_firstByte 7 = .ok (.iload_n 2, 1) := by decide +kernel
theorem dX1_firstByte_8 : decode cX1_firstByte 8 = .ok (.invokevirtual 45, 3) := by decide +kernel
theorem dX1_firstByte_11 : decode cX1_firstByte 11 = .ok (.bipush 16, 2) := by decide +kernel
theorem dX1_firstByte_13 : decode cX1_firstByte 13 = .ok (.imul, 1) := by decide +kernel
theorem dX1_firstByte_14 : decode cX1_firstByte 14 = .ok (.ireturn, 1) := by decide +kernel
set_option maxRecDepth 20000 in
theorem ggX1_lay_X1_fill : GoodIn wsX1_lay wsX1_fill := goodIn_r _ [9, 10, 11, 12, 13, 8, 14, 1, 15, 16, 17, 18, 19, 25, 26, 27, 28, 29, 30, 31, 32, 33] (by decide +kernel) (by decide +kernel)
set_option maxRecDepth 20000 in
theorem gX1_lay_X1_fill : GoodIn wsX1_lay (wsV RX1 49 RX1 yX1_fill wsX1_fill) := goodIn_app (goodIn_of _ (by decide +kernel)) ggX1_lay_X1_fill
set_option maxRecDepth 20000 in
theorem ggX1_lay_X1_slot : GoodIn wsX1_lay wsX1_slot := goodIn_r _ [18, 19, 25, 26, 27, 28, 29, 30, 31, 32, 33] (by decide +kernel) (by decide +kernel)
set_option maxRecDepth 20000 in
theorem gX1_lay_X1_slot : GoodIn wsX1_lay (wsV RX1 45 RX1 yX1_slot wsX1_slot) := goodIn_app (goodIn_of _ (by decide +kernel)) ggX1_lay_X1_slot
set_option maxRecDepth 20000 in
theorem ggX1_lay_X1_sumOf : GoodIn wsX1_lay wsX1_sumOf := goodIn_r _ [23, 10, 24, 15, 16, 17, 8, 18, 19, 25, 26, 27, 28, 29, 30, 31, 32, 33] (by decide +kernel) (by decide +kernel)
set_option maxRecDepth 20000 in
theorem gX1_lay_X1_sumOf : GoodIn wsX1_lay (wsV RX1 53 RX1 yX1_sumOf wsX1_sumOf) := goodIn_app (goodIn_of _ (by decide +kernel)) ggX1_lay_X1_sumOf
theorem dX1_lay_0 : decode cX1_lay 0 = .ok (.aload_n 0, 1) := by decide +kernel
theorem dX1_lay_1 : decode cX1_lay 1 = .ok (.iload_n 1, 1) := by decide +kernel
theorem dX1_lay_2 : decode cX1_lay 2 = .ok (.iload_n 2, 1) := by decide +kernel
theorem dX1_lay_3 : decode cX1_lay 3 = .ok (.iload_n 3, 1) := by decide +kernel
theorem dX1_lay_4 : decode cX1_lay 4 = .ok (.bipush 16, 2) := by decide +kernel
theorem dX1_lay_6 : decode cX1_lay 6 = .ok (.invokevirtual 49, 3) := by decide +kernel
theorem dX1_lay_9 : decode cX1_lay 9 = .ok (.aload_n 0, 1) := by decide +kernel
theorem dX1_lay_10 : decode cX1_lay 10 = .ok (.getfield 26, 3) := by decide +kernel
theorem dX1_lay_13 : decode cX1_lay 13 = .ok (.iload_n 1, 1) := by decide +kernel
theorem dX1_lay_14 : decode cX1_lay 14 = .ok (.iaload, 1) := by decide +kernel
theorem dX1_lay_15 : decode cX1_lay 15 = .ok (.istore 4, 2) := by decide +kernel
theorem dX1_lay_17 : decode cX1_lay 17 = .ok (.aload_n 0, 1) := by decide +kernel
theorem dX1_lay_18 : decode cX1_lay 18 = .ok (.getfield 22, 3) := by decide +kernel
theorem dX1_lay_21 : decode cX1_lay 21 = .ok (.aload_n 0, 1) := by decide +kernel
theorem dX1_lay_22 : decode cX1_lay 22 = .ok (.iload 4, 2) := by decide +kernel
theorem dX1_lay_24 : decode cX1_lay 24 = .ok (.iload_n 2, 1) := by decide +kernel
theorem dX1_lay_25 : decode cX1_lay 25 = .ok (.invokevirtual 45, 3) := by decide +kernel
theorem dX1_lay_28 : decode cX1_lay 28 = .ok (.aload_n 0, 1) := by decide +kernel
theorem dX1_lay_29 : decode cX1_lay 29 = .ok (.iload 4, 2) := by decide +kernel
theorem dX1_lay_31 : decode cX1_lay 31 = .ok (.iload_n 2, 1) := by decide +kernel
theorem dX1_lay_32 : decode cX1_lay 32 = .ok (.invokevirtual 53, 3) := by decide +kernel
theorem dX1_lay_35 : decode cX1_lay 35 = .ok (.iastore, 1) := by decide +kernel
theorem dX1_lay_36 : decode cX1_lay 36 = .ok (.aload_n 0, 1) := by decide +kernel
theorem dX1_lay_37 : decode cX1_lay 37 = .ok (.getfield 29, 3) := by decide +kernel
theorem dX1_lay_40 : decode cX1_lay 40 = .ok (.iload_n 1, 1) := by decide +kernel
theorem dX1_lay_41 : decode cX1_lay 41 = .ok (.iconst 1, 1) := by decide +kernel
theorem dX1_lay_42 : decode cX1_lay 42 = .ok (.iastore, 1) := by decide +kernel
theorem dX1_lay_43 : decode cX1_lay 43 = .ok (.aload_n 0, 1) := by decide +kernel
theorem dX1_lay_44 : decode cX1_lay 44 = .ok (.getfield 32, 3) := by decide +kernel
theorem dX1_lay_47 : decode cX1_lay 47 = .ok (.iload_n 1, 1) := by decide +kernel
theorem dX1_lay_48 : decode cX1_lay 48 = .ok (.iconst 1, 1) := by decide +kernel
theorem dX1_lay_49 : decode cX1_lay 49 = .ok (.iastore, 1) := by decide +kernel
theorem dX1_lay_50 : decode cX1_lay 50 = .ok (.return_, 1) := by decide +kernel
set_option maxRecDepth 20000 in
theorem ggX1_layTorn_X1_fill : GoodIn wsX1_layTorn wsX1_fill := goodIn_r _ [6, 7, 8, 9, 10, 5, 11, 12, 13, 14, 15, 16, 17, 18, 19, 20, 21, 22, 23, 24, 25, 26] (by decide +kernel) (by decide +kernel)
set_option maxRecDepth 20000 in
theorem gX1_layTorn_X1_fill : GoodIn wsX1_layTorn (wsV RX1 49 RX1 yX1_fill wsX1_fill) := goodIn_app (goodIn_of _ (by decide +kernel)) ggX1_layTorn_X1_fill
theorem dX1_layTorn_0 : decode cX1_layTorn 0 = .ok (.aload_n 0, 1) := by decide +kernel
theorem dX1_layTorn_1 : decode cX1_layTorn 1 = .ok (.iload_n 1, 1) := by decide +kernel
theorem dX1_layTorn_2 : decode cX1_layTorn 2 = .ok (.iload_n 2, 1) := by decide +kernel
theorem dX1_layTorn_3 : decode cX1_layTorn 3 = .ok (.iload_n 3, 1) := by decide +kernel
theorem dX1_layTorn_4 : decode cX1_layTorn 4 = .ok (.iload 4, 2) := by decide +kernel
theorem dX1_layTorn_6 : decode cX1_layTorn 6 = .ok (.invokevirtual 49, 3) := by decide +kernel
theorem dX1_layTorn_9 : decode cX1_layTorn 9 = .ok (.aload_n 0, 1) := by decide +kernel
theorem dX1_layTorn_10 : decode cX1_layTorn 10 = .ok (.getfield 29, 3) := by decide +kernel
theorem dX1_layTorn_13 : decode cX1_layTorn 13 = .ok (.iload_n 1, 1) := by decide +kernel
theorem dX1_layTorn_14 : decode cX1_layTorn 14 = .ok (.iconst 1, 1) := by decide +kernel
theorem dX1_layTorn_15 : decode cX1_layTorn 15 = .ok (.iastore, 1) := by decide +kernel
theorem dX1_layTorn_16 : decode cX1_layTorn 16 = .ok (.return_, 1) := by decide +kernel
set_option maxRecDepth 20000 in
theorem ggX1_wrongSectors_X1_isWrong : GoodIn wsX1_wrongSectors wsX1_isWrong := goodIn_r _ [7, 8, 9, 10, 11, 12, 6, 13, 2, 14, 15, 16, 17, 18, 19, 20, 21, 22, 23, 24, 25, 26, 27, 28] (by decide +kernel) (by decide +kernel)
set_option maxRecDepth 20000 in
theorem gX1_wrongSectors_X1_isWrong : GoodIn wsX1_wrongSectors (wsV RX1 56 RX1 yX1_isWrong wsX1_isWrong) := goodIn_app (goodIn_of _ (by decide +kernel)) ggX1_wrongSectors_X1_isWrong
theorem dX1_wrongSectors_0 : decode cX1_wrongSectors 0 = .ok (.iconst 0, 1) := by decide +kernel
theorem dX1_wrongSectors_1 : decode cX1_wrongSectors 1 = .ok (.istore_n 1, 1) := by decide +kernel
theorem dX1_wrongSectors_2 : decode cX1_wrongSectors 2 = .ok (.iconst 0, 1) := by decide +kernel
theorem dX1_wrongSectors_3 : decode cX1_wrongSectors 3 = .ok (.istore_n 2, 1) := by decide +kernel
theorem dX1_wrongSectors_4 : decode cX1_wrongSectors 4 = .ok (.iload_n 2, 1) := by decide +kernel
theorem dX1_wrongSectors_5 : decode cX1_wrongSectors 5 = .ok (.aload_n 0, 1) := by decide +kernel
theorem dX1_wrongSectors_6 : decode cX1_wrongSectors 6 = .ok (.getfield 9, 3) := by decide +kernel
theorem dX1_wrongSectors_9 : decode cX1_wrongSectors 9 = .ok (.if_icmp .ge 37, 3) := by decide +kernel
theorem dX1_wrongSectors_12 : decode cX1_wrongSectors 12 = .ok (.iconst 0, 1) := by decide +kernel
theorem dX1_wrongSectors_13 : decode cX1_wrongSectors 13 = .ok (.istore_n 3, 1) := by decide +kernel
theorem dX1_wrongSectors_14 : decode cX1_wrongSectors 14 = .ok (.iload_n 3, 1) := by decide +kernel
theorem dX1_wrongSectors_15 : decode cX1_wrongSectors 15 = .ok (.aload_n 0, 1) := by decide +kernel
theorem dX1_wrongSectors_16 : decode cX1_wrongSectors 16 = .ok (.getfield 15, 3) := by decide +kernel
theorem dX1_wrongSectors_19 : decode cX1_wrongSectors 19 = .ok (.if_icmp .ge 21, 3) := by decide +kernel
theorem dX1_wrongSectors_22 : decode cX1_wrongSectors 22 = .ok (.aload_n 0, 1) := by decide +kernel
theorem dX1_wrongSectors_23 : decode cX1_wrongSectors 23 = .ok (.iload_n 2, 1) := by decide +kernel
theorem dX1_wrongSectors_24 : decode cX1_wrongSectors 24 = .ok (.iload_n 3, 1) := by decide +kernel
theorem dX1_wrongSectors_25 : decode cX1_wrongSectors 25 = .ok (.invokevirtual 56, 3) := by decide +kernel
theorem dX1_wrongSectors_28 : decode cX1_wrongSectors 28 = .ok (.ifCond .eq 6, 3) := by decide +kernel
theorem dX1_wrongSectors_31 : decode cX1_wrongSectors 31 = .ok (.iinc 1 1, 3) := by decide +kernel
theorem dX1_wrongSectors_34 : decode cX1_wrongSectors 34 = .ok (.iinc 3 1, 3) := by decide +kernel
theorem dX1_wrongSectors_37 : decode cX1_wrongSectors 37 = .ok (.goto (-23), 3) := by decide +kernel
theorem dX1_wrongSectors_40 : decode cX1_wrongSectors 40 = .ok (.iinc 2 1, 3) := by decide +kernel
theorem dX1_wrongSectors_43 : decode cX1_wrongSectors 43 = .ok (.goto (-39), 3) := by decide +kernel
theorem dX1_wrongSectors_46 : decode cX1_wrongSectors 46 = .ok (.iload_n 1, 1) := by decide +kernel
theorem dX1_wrongSectors_47 : decode cX1_wrongSectors 47 = .ok (.ireturn, 1) := by decide +kernel
set_option maxRecDepth 20000 in
theorem ggX1_firstWrong_X1_isWrong : GoodIn wsX1_firstWrong wsX1_isWrong := goodIn_r _ [7, 8, 9, 10, 11, 12, 6, 13, 2, 14, 15, 16, 17, 18, 19, 20, 21, 22, 23, 24, 25, 26, 27, 28] (by decide +kernel) (by decide +kernel)
set_option maxRecDepth 20000 in
theorem gX1_firstWrong_X1_isWrong : GoodIn wsX1_firstWrong (wsV RX1 56 RX1 yX1_isWrong wsX1_isWrong) := goodIn_app (goodIn_of _ (by decide +kernel)) ggX1_firstWrong_X1_isWrong
theorem dX1_firstWrong_0 : decode cX1_firstWrong 0 = .ok (.iconst 0, 1) := by decide +kernel
theorem dX1_firstWrong_1 : decode cX1_firstWrong 1 = .ok (.istore_n 1, 1) := by decide +kernel
theorem dX1_firstWrong_2 : decode cX1_firstWrong 2 = .ok (.iload_n 1, 1) := by decide +kernel
theorem dX1_firstWrong_3 : decode cX1_firstWrong 3 = .ok (.aload_n 0, 1) := by decide +kernel
theorem dX1_firstWrong_4 : decode cX1_firstWrong 4 = .ok (.getfield 9, 3) := by decide +kernel
theorem dX1_firstWrong_7 : decode cX1_firstWrong 7 = .ok (.if_icmp .ge 41, 3) := by decide +kernel
theorem dX1_firstWrong_10 : decode cX1_firstWrong 10 = .ok (.iconst 0, 1) := by decide +kernel
theorem dX1_firstWrong_11 : decode cX1_firstWrong 11 = .ok (.istore_n 2, 1) := by decide +kernel
theorem dX1_firstWrong_12 : decode cX1_firstWrong 12 = .ok (.iload_n 2, 1) := by decide +kernel
theorem dX1_firstWrong_13 : decode cX1_firstWrong 13 = .ok (.aload_n 0, 1) := by decide +kernel
theorem dX1_firstWrong_14 : decode cX1_firstWrong 14 = .ok (.getfield 15, 3) := by decide +kernel
theorem dX1_firstWrong_17 : decode cX1_firstWrong 17 = .ok (.if_icmp .ge 25, 3) := by decide +kernel
theorem dX1_firstWrong_20 : decode cX1_firstWrong 20 = .ok (.aload_n 0, 1) := by decide +kernel
theorem dX1_firstWrong_21 : decode cX1_firstWrong 21 = .ok (.iload_n 1, 1) := by decide +kernel
theorem dX1_firstWrong_22 : decode cX1_firstWrong 22 = .ok (.iload_n 2, 1) := by decide +kernel
theorem dX1_firstWrong_23 : decode cX1_firstWrong 23 = .ok (.invokevirtual 56, 3) := by decide +kernel
theorem dX1_firstWrong_26 : decode cX1_firstWrong 26 = .ok (.ifCond .eq 10, 3) := by decide +kernel
theorem dX1_firstWrong_29 : decode cX1_firstWrong 29 = .ok (.iload_n 1, 1) := by decide +kernel
theorem dX1_firstWrong_30 : decode cX1_firstWrong 30 = .ok (.bipush 8, 2) := by decide +kernel
theorem dX1_firstWrong_32 : decode cX1_firstWrong 32 = .ok (.imul, 1) := by decide +kernel
theorem dX1_firstWrong_33 : decode cX1_firstWrong 33 = .ok (.iload_n 2, 1) := by decide +kernel
theorem dX1_firstWrong_34 : decode cX1_firstWrong 34 = .ok (.iadd, 1) := by decide +kernel
theorem dX1_firstWrong_35 : decode cX1_firstWrong 35 = .ok (.ireturn, 1) := by decide +kernel
theorem dX1_firstWrong_36 : decode cX1_firstWrong 36 = .ok (.iinc 2 1, 3) := by decide +kernel
theorem dX1_firstWrong_39 : decode cX1_firstWrong 39 = .ok (.goto (-27), 3) := by decide +kernel
theorem dX1_firstWrong_42 : decode cX1_firstWrong 42 = .ok (.iinc 1 1, 3) := by decide +kernel
theorem dX1_firstWrong_45 : decode cX1_firstWrong 45 = .ok (.goto (-43), 3) := by decide +kernel
theorem dX1_firstWrong_48 : decode cX1_firstWrong 48 = .ok (.iconst (-1), 1) := by decide +kernel
theorem dX1_firstWrong_49 : decode cX1_firstWrong 49 = .ok (.ireturn, 1) := by decide +kernel
set_option maxRecDepth 20000 in
theorem ggX1_mendRows_X1_holdsMoreThanZeros : GoodIn wsX1_mendRows wsX1_holdsMoreThanZeros := goodIn_r _ [8, 9, 10, 11, 12, 13, 7, 14, 15, 16, 17, 18, 19, 20, 21, 22, 23, 24, 25, 26, 27, 28] (by decide +kernel) (by decide +kernel)
set_option maxRecDepth 20000 in
theorem gX1_mendRows_X1_holdsMoreThanZeros : GoodIn wsX1_mendRows (wsV RX1 60 RX1 yX1_holdsMoreThanZeros wsX1_holdsMoreThanZeros) := goodIn_app (goodIn_of _ (by decide +kernel)) ggX1_mendRows_X1_holdsMoreThanZeros
theorem dX1_mendRows_0 : decode cX1_mendRows 0 = .ok (.iconst 0, 1) := by decide +kernel
theorem dX1_mendRows_1 : decode cX1_mendRows 1 = .ok (.istore_n 1, 1) := by decide +kernel
theorem dX1_mendRows_2 : decode cX1_mendRows 2 = .ok (.iconst 0, 1) := by decide +kernel
theorem dX1_mendRows_3 : decode cX1_mendRows 3 = .ok (.istore_n 2, 1) := by decide +kernel
theorem dX1_mendRows_4 : decode cX1_mendRows 4 = .ok (.iload_n 2, 1) := by decide +kernel
theorem dX1_mendRows_5 : decode cX1_mendRows 5 = .ok (.aload_n 0, 1) := by decide +kernel
theorem dX1_mendRows_6 : decode cX1_mendRows 6 = .ok (.getfield 9, 3) := by decide +kernel
theorem dX1_mendRows_9 : decode cX1_mendRows 9 = .ok (.if_icmp .ge 55, 3) := by decide +kernel
theorem dX1_mendRows_12 : decode cX1_mendRows 12 = .ok (.aload_n 0, 1) := by decide +kernel
theorem dX1_mendRows_13 : decode cX1_mendRows 13 = .ok (.getfield 29, 3) := by decide +kernel
theorem dX1_mendRows_16 : decode cX1_mendRows 16 = .ok (.iload_n 2, 1) := by decide +kernel
theorem dX1_mendRows_17 : decode cX1_mendRows 17 = .ok (.iaload, 1) := by decide +kernel
theorem dX1_mendRows_18 : decode cX1_mendRows 18 = .ok (.aload_n 0, 1) := by decide +kernel
theorem dX1_mendRows_19 : decode cX1_mendRows 19 = .ok (.getfield 32, 3) := by decide +kernel
theorem dX1_mendRows_22 : decode cX1_mendRows 22 = .ok (.iload_n 2, 1) := by decide +kernel
theorem dX1_mendRows_23 : decode cX1_mendRows 23 = .ok (.iaload, 1) := by decide +kernel
theorem dX1_mendRows_24 : decode cX1_mendRows 24 = .ok (.if_icmp .eq 34, 3) := by decide +kernel
theorem dX1_mendRows_27 : decode cX1_mendRows 27 = .ok (.aload_n 0, 1) := by decide +kernel
theorem dX1_mendRows_28 : decode cX1_mendRows 28 = .ok (.iload_n 2, 1) := by decide +kernel
theorem dX1_mendRows_29 : decode cX1_mendRows 29 = .ok (.invokevirtual 60, 3) := by decide +kernel
theorem dX1_mendRows_32 : decode cX1_mendRows 32 = .ok (.ifCond .eq 7, 3) := by decide +kernel
theorem dX1_mendRows_35 : decode cX1_mendRows 35 = .ok (.iconst 1, 1) := by decide +kernel
theorem dX1_mendRows_36 : decode cX1_mendRows 36 = .ok (.goto 4, 3) := by decide +kernel
theorem dX1_mendRows_39 : decode cX1_mendRows 39 = .ok (.iconst 0, 1) := by decide +kernel
theorem dX1_mendRows_40 : decode cX1_mendRows 40 = .ok (.istore_n 3, 1) := by decide +kernel
theorem dX1_mendRows_41 : decode cX1_mendRows 41 = .ok (.aload_n 0, 1) := by decide +kernel
theorem dX1_mendRows_42 : decode cX1_mendRows 42 = .ok (.getfield 29, 3) := by decide +kernel
theorem dX1_mendRows_45 : decode cX1_mendRows 45 = .ok (.iload_n 2, 1) := by decide +kernel
theorem dX1_mendRows_46 : decode cX1_mendRows 46 = .ok (.iload_n 3, 1) := by decide +kernel
theorem dX1_mendRows_47 : decode cX1_mendRows 47 = .ok (.iastore, 1) := by decide +kernel
theorem dX1_mendRows_48 : decode cX1_mendRows 48 = .ok (.aload_n 0, 1) := by decide +kernel
theorem dX1_mendRows_49 : decode cX1_mendRows 49 = .ok (.getfield 32, 3) := by decide +kernel
theorem dX1_mendRows_52 : decode cX1_mendRows 52 = .ok (.iload_n 2, 1) := by decide +kernel
theorem dX1_mendRows_53 : decode cX1_mendRows 53 = .ok (.iload_n 3, 1) := by decide +kernel
theorem dX1_mendRows_54 : decode cX1_mendRows 54 = .ok (.iastore, 1) := by decide +kernel
theorem dX1_mendRows_55 : decode cX1_mendRows 55 = .ok (.iinc 1 1, 3) := by decide +kernel
theorem dX1_mendRows_58 : decode cX1_mendRows 58 = .ok (.iinc 2 1, 3) := by decide +kernel
theorem dX1_mendRows_61 : decode cX1_mendRows 61 = .ok (.goto (-57), 3) := by decide +kernel
theorem dX1_mendRows_64 : decode cX1_mendRows 64 = .ok (.iload_n 1, 1) := by decide +kernel
theorem dX1_mendRows_65 : decode cX1_mendRows 65 = .ok (.ireturn, 1) := by decide +kernel
theorem dX1_isSent_0 : decode cX1_isSent 0 = .ok (.aload_n 0, 1) := by decide +kernel
theorem dX1_isSent_1 : decode cX1_isSent 1 = .ok (.getfield 26, 3) := by decide +kernel
theorem dX1_isSent_4 : decode cX1_isSent 4 = .ok (.iload_n 1, 1) := by decide +kernel
theorem dX1_isSent_5 : decode cX1_isSent 5 = .ok (.iaload, 1) := by decide +kernel
theorem dX1_isSent_6 : decode cX1_isSent 6 = .ok (.aload_n 0, 1) := by decide +kernel
theorem dX1_isSent_7 : decode cX1_isSent 7 = .ok (.getfield 9, 3) := by decide +kernel
theorem dX1_isSent_10 : decode cX1_isSent 10 = .ok (.if_icmp .lt 7, 3) := by decide +kernel
theorem dX1_isSent_13 : decode cX1_isSent 13 = .ok (.iconst 1, 1) := by decide +kernel
theorem dX1_isSent_14 : decode cX1_isSent 14 = .ok (.goto 4, 3) := by decide +kernel
theorem dX1_isSent_17 : decode cX1_isSent 17 = .ok (.iconst 0, 1) := by decide +kernel
theorem dX1_isSent_18 : decode cX1_isSent 18 = .ok (.ireturn, 1) := by decide +kernel
set_option maxRecDepth 20000 in
theorem ggX1_send_X1_firstByte : GoodIn wsX1_send wsX1_firstByte := goodIn_r _ [14, 9, 15, 16, 17, 13, 18, 4, 29, 30, 31, 32, 33, 34, 35, 36, 37] (by decide +kernel) (by decide +kernel)
set_option maxRecDepth 20000 in
theorem gX1_send_X1_firstByte : GoodIn wsX1_send (wsV RX1 64 RX1 yX1_firstByte wsX1_firstByte) := goodIn_app (goodIn_of _ (by decide +kernel)) ggX1_send_X1_firstByte
set_option maxRecDepth 20000 in
theorem ggX1_send_X1_slot : GoodIn wsX1_send wsX1_slot := goodIn_r _ [18, 4, 29, 30, 31, 32, 33, 34, 35, 36, 37] (by decide +kernel) (by decide +kernel)
set_option maxRecDepth 20000 in
theorem gX1_send_X1_slot : GoodIn wsX1_send (wsV RX1 45 RX1 yX1_slot wsX1_slot) := goodIn_app (goodIn_of _ (by decide +kernel)) ggX1_send_X1_slot
set_option maxRecDepth 20000 in
theorem ggX1_send_X1_setSums : GoodIn wsX1_send wsX1_setSums := goodIn_r _ [22, 4, 23, 15, 16, 17, 13, 18, 24, 25, 26, 27, 3, 28, 29, 30, 31, 32, 33, 34, 35, 36, 37] (by decide +kernel) (by decide +kernel)
set_option maxRecDepth 20000 in
theorem gX1_send_X1_setSums : GoodIn wsX1_send (wsV RX1 41 RX1 yX1_setSums wsX1_setSums) := goodIn_app (goodIn_of _ (by decide +kernel)) ggX1_send_X1_setSums
theorem dX1_send_0 : decode cX1_send 0 = .ok (.aload_n 0, 1) := by decide +kernel
theorem dX1_send_1 : decode cX1_send 1 = .ok (.getfield 9, 3) := by decide +kernel
theorem dX1_send_4 : decode cX1_send 4 = .ok (.aload_n 0, 1) := by decide +kernel
theorem dX1_send_5 : decode cX1_send 5 = .ok (.getfield 35, 3) := by decide +kernel
theorem dX1_send_8 : decode cX1_send 8 = .ok (.iadd, 1) := by decide +kernel
theorem dX1_send_9 : decode cX1_send 9 = .ok (.istore_n 2, 1) := by decide +kernel
theorem dX1_send_10 : decode cX1_send 10 = .ok (.aload_n 0, 1) := by decide +kernel
theorem dX1_send_11 : decode cX1_send 11 = .ok (.getfield 18, 3) := by decide +kernel
theorem dX1_send_14 : decode cX1_send 14 = .ok (.aload_n 0, 1) := by decide +kernel
theorem dX1_send_15 : decode cX1_send 15 = .ok (.iload_n 1, 1) := by decide +kernel
theorem dX1_send_16 : decode cX1_send 16 = .ok (.iconst 0, 1) := by decide +kernel
theorem dX1_send_17 : decode cX1_send 17 = .ok (.invokevirtual 64, 3) := by decide +kernel
theorem dX1_send_20 : decode cX1_send 20 = .ok (.aload_n 0, 1) := by decide +kernel
theorem dX1_send_21 : decode cX1_send 21 = .ok (.getfield 18, 3) := by decide +kernel
theorem dX1_send_24 : decode cX1_send 24 = .ok (.aload_n 0, 1) := by decide +kernel
theorem dX1_send_25 : decode cX1_send 25 = .ok (.iload_n 2, 1) := by decide +kernel
theorem dX1_send_26 : decode cX1_send 26 = .ok (.iconst 0, 1) := by decide +kernel
theorem dX1_send_27 : decode cX1_send 27 = .ok (.invokevirtual 45, 3) := by decide +kernel
theorem dX1_send_30 : decode cX1_send 30 = .ok (.bipush 16, 2) := by decide +kernel
theorem dX1_send_32 : decode cX1_send 32 = .ok (.imul, 1) := by decide +kernel
theorem dX1_send_33 : decode cX1_send 33 = .ok (.aload_n 0, 1) := by decide +kernel
theorem dX1_send_34 : decode cX1_send 34 = .ok (.getfield 15, 3) := by decide +kernel
theorem dX1_send_37 : decode cX1_send 37 = .ok (.bipush 16, 2) := by decide +kernel
theorem dX1_send_39 : decode cX1_send 39 = .ok (.imul, 1) := by decide +kernel
theorem dX1_send_40 : decode cX1_send 40 = .ok (.invokestatic 67, 3) := by decide +kernel
theorem dX1_send_43 : decode cX1_send 43 = .ok (.aload_n 0, 1) := by decide +kernel
theorem dX1_send_44 : decode cX1_send 44 = .ok (.iload_n 2, 1) := by decide +kernel
theorem dX1_send_45 : decode cX1_send 45 = .ok (.invokevirtual 41, 3) := by decide +kernel
theorem dX1_send_48 : decode cX1_send 48 = .ok (.aload_n 0, 1) := by decide +kernel
theorem dX1_send_49 : decode cX1_send 49 = .ok (.getfield 26, 3) := by decide +kernel
theorem dX1_send_52 : decode cX1_send 52 = .ok (.iload_n 1, 1) := by decide +kernel
theorem dX1_send_53 : decode cX1_send 53 = .ok (.iload_n 2, 1) := by decide +kernel
theorem dX1_send_54 : decode cX1_send 54 = .ok (.iastore, 1) := by decide +kernel
theorem dX1_send_55 : decode cX1_send 55 = .ok (.aload_n 0, 1) := by decide +kernel
theorem dX1_send_56 : decode cX1_send 56 = .ok (.dup, 1) := by decide +kernel
theorem dX1_send_57 : decode cX1_send 57 = .ok (.getfield 35, 3) := by decide +kernel
theorem dX1_send_60 : decode cX1_send 60 = .ok (.iconst 1, 1) := by decide +kernel
theorem dX1_send_61 : decode cX1_send 61 = .ok (.iadd, 1) := by decide +kernel
theorem dX1_send_62 : decode cX1_send 62 = .ok (.putfield 35, 3) := by decide +kernel
theorem dX1_send_65 : decode cX1_send 65 = .ok (.iload_n 2, 1) := by decide +kernel
theorem dX1_send_66 : decode cX1_send 66 = .ok (.ireturn, 1) := by decide +kernel
theorem dX1_takeOver_0 : decode cX1_takeOver 0 = .ok (.aload_n 1, 1) := by decide +kernel
theorem dX1_takeOver_1 : decode cX1_takeOver 1 = .ok (.getfield 18, 3) := by decide +kernel
theorem dX1_takeOver_4 : decode cX1_takeOver 4 = .ok (.iconst 0, 1) := by decide +kernel
theorem dX1_takeOver_5 : decode cX1_takeOver 5 = .ok (.aload_n 0, 1) := by decide +kernel
theorem dX1_takeOver_6 : decode cX1_takeOver 6 = .ok (.getfield 18, 3) := by decide +kernel
theorem dX1_takeOver_9 : decode cX1_takeOver 9 = .ok (.iconst 0, 1) := by decide +kernel
theorem dX1_takeOver_10 : decode cX1_takeOver 10 = .ok (.aload_n 0, 1) := by decide +kernel
theorem dX1_takeOver_11 : decode cX1_takeOver 11 = .ok (.getfield 18, 3) := by decide +kernel
theorem dX1_takeOver_14 : decode cX1_takeOver 14 = .ok (.arraylength, 1) := by decide +kernel
theorem dX1_takeOver_15 : decode cX1_takeOver 15 = .ok (.invokestatic 67, 3) := by decide +kernel
theorem dX1_takeOver_18 : decode cX1_takeOver 18 = .ok (.aload_n 1, 1) := by decide +kernel
theorem dX1_takeOver_19 : decode cX1_takeOver 19 = .ok (.getfield 22, 3) := by decide +kernel
theorem dX1_takeOver_22 : decode cX1_takeOver 22 = .ok (.iconst 0, 1) := by decide +kernel
theorem dX1_takeOver_23 : decode cX1_takeOver 23 = .ok (.aload_n 0, 1) := by decide +kernel
theorem dX1_takeOver_24 : decode cX1_takeOver 24 = .ok (.getfield 22, 3) := by decide +kernel
theorem dX1_takeOver_27 : decode cX1_takeOver 27 = .ok (.iconst 0, 1) := by decide +kernel
theorem dX1_takeOver_28 : decode cX1_takeOver 28 = .ok (.aload_n 0, 1) := by decide +kernel
theorem dX1_takeOver_29 : decode cX1_takeOver 29 = .ok (.getfield 22, 3) := by decide +kernel
theorem dX1_takeOver_32 : decode cX1_takeOver 32 = .ok (.arraylength, 1) := by decide +kernel
theorem dX1_takeOver_33 : decode cX1_takeOver 33 = .ok (.invokestatic 67, 3) := by decide +kernel
theorem dX1_takeOver_36 : decode cX1_takeOver 36 = .ok (.aload_n 1, 1) := by decide +kernel
theorem dX1_takeOver_37 : decode cX1_takeOver 37 = .ok (.getfield 26, 3) := by decide +kernel
theorem dX1_takeOver_40 : decode cX1_takeOver 40 = .ok (.iconst 0, 1) := by decide +kernel
theorem dX1_takeOver_41 : decode cX1_takeOver 41 = .ok (.aload_n 0, 1) := by decide +kernel
theorem dX1_takeOver_42 : decode cX1_takeOver 42 = .ok (.getfield 26, 3) := by decide +kernel
theorem dX1_takeOver_45 : decode cX1_takeOver 45 = .ok (.iconst 0, 1) := by decide +kernel
theorem dX1_takeOver_46 : decode cX1_takeOver 46 = .ok (.aload_n 0, 1) := by decide +kernel
theorem dX1_takeOver_47 : decode cX1_takeOver 47 = .ok (.getfield 26, 3) := by decide +kernel
theorem dX1_takeOver_50 : decode cX1_takeOver 50 = .ok (.arraylength, 1) := by decide +kernel
theorem dX1_takeOver_51 : decode cX1_takeOver 51 = .ok (.invokestatic 67, 3) := by decide +kernel
theorem dX1_takeOver_54 : decode cX1_takeOver 54 = .ok (.aload_n 1, 1) := by decide +kernel
theorem dX1_takeOver_55 : decode cX1_takeOver 55 = .ok (.getfield 29, 3) := by decide +kernel
theorem dX1_takeOver_58 : decode cX1_takeOver 58 = .ok (.iconst 0, 1) := by decide +kernel
theorem dX1_takeOver_59 : decode cX1_takeOver 59 = .ok (.aload_n 0, 1) := by decide +kernel
theorem dX1_takeOver_60 : decode cX1_takeOver 60 = .ok (.getfield 29, 3) := by decide +kernel
theorem dX1_takeOver_63 : decode cX1_takeOver 63 = .ok (.iconst 0, 1) := by decide +kernel
theorem dX1_takeOver_64 : decode cX1_takeOver 64 = .ok (.aload_n 0, 1) := by decide +kernel
theorem dX1_takeOver_65 : decode cX1_takeOver 65 = .ok (.getfield 29, 3) := by decide +kernel
theorem dX1_takeOver_68 : decode cX1_takeOver 68 = .ok (.arraylength, 1) := by decide +kernel
theorem dX1_takeOver_69 : decode cX1_takeOver 69 = .ok (.invokestatic 67, 3) := by decide +kernel
theorem dX1_takeOver_72 : decode cX1_takeOver 72 = .ok (.aload_n 1, 1) := by decide +kernel
theorem dX1_takeOver_73 : decode cX1_takeOver 73 = .ok (.getfield 32, 3) := by decide +kernel
theorem dX1_takeOver_76 : decode cX1_takeOver 76 = .ok (.iconst 0, 1) := by decide +kernel
theorem dX1_takeOver_77 : decode cX1_takeOver 77 = .ok (.aload_n 0, 1) := by decide +kernel
theorem dX1_takeOver_78 : decode cX1_takeOver 78 = .ok (.getfield 32, 3) := by decide +kernel
theorem dX1_takeOver_81 : decode cX1_takeOver 81 = .ok (.iconst 0, 1) := by decide +kernel
theorem dX1_takeOver_82 : decode cX1_takeOver 82 = .ok (.aload_n 0, 1) := by decide +kernel
theorem dX1_takeOver_83 : decode cX1_takeOver 83 = .ok (.getfield 32, 3) := by decide +kernel
theorem dX1_takeOver_86 : decode cX1_takeOver 86 = .ok (.arraylength, 1) := by decide +kernel
theorem dX1_takeOver_87 : decode cX1_takeOver 87 = .ok (.invokestatic 67, 3) := by decide +kernel
theorem dX1_takeOver_90 : decode cX1_takeOver 90 = .ok (.aload_n 0, 1) := by decide +kernel
theorem dX1_takeOver_91 : decode cX1_takeOver 91 = .ok (.aload_n 1, 1) := by decide +kernel
theorem dX1_takeOver_92 : decode cX1_takeOver 92 = .ok (.getfield 35, 3) := by decide +kernel
theorem dX1_takeOver_95 : decode cX1_takeOver 95 = .ok (.putfield 35, 3) := by decide +kernel
theorem dX1_takeOver_98 : decode cX1_takeOver 98 = .ok (.aload_n 0, 1) := by decide +kernel
theorem dX1_takeOver_99 : decode cX1_takeOver 99 = .ok (.aload_n 1, 1) := by decide +kernel
theorem dX1_takeOver_100 : decode cX1_takeOver 100 = .ok (.getfield 38, 3) := by decide +kernel
theorem dX1_takeOver_103 : decode cX1_takeOver 103 = .ok (.putfield 38, 3) := by decide +kernel
theorem dX1_takeOver_106 : decode cX1_takeOver 106 = .ok (.return_, 1) := by decide +kernel
set_option maxRecDepth 20000 in
theorem ggX1_differingSectors_X1_differsAt : GoodIn wsX1_differingSectors wsX1_differsAt := goodIn_r _ [6, 7, 8, 9, 10, 11, 12, 13, 14, 15, 16] (by decide +kernel) (by decide +kernel)
set_option maxRecDepth 20000 in
theorem gX1_differingSectors_X1_differsAt : GoodIn wsX1_differingSectors (wsV RX1 73 RX1 yX1_differsAt wsX1_differsAt) := goodIn_app (goodIn_of _ (by decide +kernel)) ggX1_differingSectors_X1_differsAt
theorem dX1_differingSectors_0 : decode cX1_differingSectors 0 = .ok (.iconst 0, 1) := by decide +kernel
theorem dX1_differingSectors_1 : decode cX1_differingSectors 1 = .ok (.istore_n 2, 1) := by decide +kernel
theorem dX1_differingSectors_2 : decode cX1_differingSectors 2 = .ok (.iconst 0, 1) := by decide +kernel
theorem dX1_differingSectors_3 : decode cX1_differingSectors 3 = .ok (.istore_n 3, 1) := by decide +kernel
theorem dX1_differingSectors_4 : decode cX1_differingSectors 4 = .ok (.iload_n 3, 1) := by decide +kernel
theorem dX1_differingSectors_5 : decode cX1_differingSectors 5 = .ok (.aload_n 0, 1) := by decide +kernel
theorem dX1_differingSectors_6 : decode cX1_differingSectors 6 = .ok (.getfield 22, 3) := by decide +kernel
theorem dX1_differingSectors_9 : decode cX1_differingSectors 9 = .ok (.arraylength, 1) := by decide +kernel
theorem dX1_differingSectors_10 : decode cX1_differingSectors 10 = .ok (.if_icmp .ge 21, 3) := by decide +kernel
theorem dX1_differingSectors_13 : decode cX1_differingSectors 13 = .ok (.aload_n 0, 1) := by decide +kernel
theorem dX1_differingSectors_14 : decode cX1_differingSectors 14 = .ok (.aload_n 1, 1) := by decide +kernel
theorem dX1_differingSectors_15 : decode cX1_differingSectors 15 = .ok (.iload_n 3, 1) := by decide +kernel
theorem dX1_differingSectors_16 : decode cX1_differingSectors 16 = .ok (.invokevirtual 73, 3) := by decide +kernel
theorem dX1_differingSectors_19 : decode cX1_differingSectors 19 = .ok (.ifCond .eq 6, 3) := by decide +kernel
theorem dX1_differingSectors_22 : decode cX1_differingSectors 22 = .ok (.iinc 2 1, 3) := by decide +kernel
theorem dX1_differingSectors_25 : decode cX1_differingSectors 25 = .ok (.iinc 3 1, 3) := by decide +kernel
theorem dX1_differingSectors_28 : decode cX1_differingSectors 28 = .ok (.goto (-24), 3) := by decide +kernel
theorem dX1_differingSectors_31 : decode cX1_differingSectors 31 = .ok (.iload_n 2, 1) := by decide +kernel
theorem dX1_differingSectors_32 : decode cX1_differingSectors 32 = .ok (.ireturn, 1) := by decide +kernel
theorem dX1_slot_0 : decode cX1_slot 0 = .ok (.iload_n 1, 1) := by decide +kernel
theorem dX1_slot_1 : decode cX1_slot 1 = .ok (.aload_n 0, 1) := by decide +kernel
theorem dX1_slot_2 : decode cX1_slot 2 = .ok (.getfield 15, 3) := by decide +kernel
theorem dX1_slot_5 : decode cX1_slot 5 = .ok (.imul, 1) := by decide +kernel
theorem dX1_slot_6 : decode cX1_slot 6 = .ok (.iload_n 2, 1) := by decide +kernel
theorem dX1_slot_7 : decode cX1_slot 7 = .ok (.iadd, 1) := by decide +kernel
theorem dX1_slot_8 : decode cX1_slot 8 = .ok (.ireturn, 1) := by decide +kernel
set_option maxRecDepth 20000 in
theorem ggX1_fill_X1_firstByte : GoodIn wsX1_fill wsX1_firstByte := goodIn_r _ [6, 7, 8, 9, 10, 5, 11, 12, 13, 14, 15, 16, 17, 18, 19, 20, 21] (by decide +kernel) (by decide +kernel)
set_option maxRecDepth 20000 in
theorem gX1_fill_X1_firstByte : GoodIn wsX1_fill (wsV RX1 64 RX1 yX1_firstByte wsX1_firstByte) := goodIn_app (goodIn_of _ (by decide +kernel)) ggX1_fill_X1_firstByte
theorem dX1_fill_0 : decode cX1_fill 0 = .ok (.aload_n 0, 1) := by decide +kernel
theorem dX1_fill_1 : decode cX1_fill 1 = .ok (.iload_n 1, 1) := by decide +kernel
theorem dX1_fill_2 : decode cX1_fill 2 = .ok (.iload_n 2, 1) := by decide +kernel
theorem dX1_fill_3 : decode cX1_fill 3 = .ok (.invokevirtual 64, 3) := by decide +kernel
theorem dX1_fill_6 : decode cX1_fill 6 = .ok (.istore 5, 2) := by decide +kernel
theorem dX1_fill_8 : decode cX1_fill 8 = .ok (.iconst 0, 1) := by decide +kernel
theorem dX1_fill_9 : decode cX1_fill 9 = .ok (.istore 6, 2) := by decide +kernel
theorem dX1_fill_11 : decode cX1_fill 11 = .ok (.iload 6, 2) := by decide +kernel
theorem dX1_fill_13 : decode cX1_fill 13 = .ok (.iload 4, 2) := by decide +kernel
theorem dX1_fill_15 : decode cX1_fill 15 = .ok (.if_icmp .ge 24, 3) := by decide +kernel
theorem dX1_fill_18 : decode cX1_fill 18 = .ok (.aload_n 0, 1) := by decide +kernel
theorem dX1_fill_19 : decode cX1_fill 19 = .ok (.getfield 18, 3) := by decide +kernel
theorem dX1_fill_22 : decode cX1_fill 22 = .ok (.iload 5, 2) := by decide +kernel
theorem dX1_fill_24 : decode cX1_fill 24 = .ok (.iload 6, 2) := by decide +kernel
theorem dX1_fill_26 : decode cX1_fill 26 = .ok (.iadd, 1) := by decide +kernel
theorem dX1_fill_27 : decode cX1_fill 27 = .ok (.iload_n 3, 1) := by decide +kernel
theorem dX1_fill_28 : decode cX1_fill 28 = .ok (.iload 6, 2) := by decide +kernel
theorem dX1_fill_30 : decode cX1_fill 30 = .ok (.iadd, 1) := by decide +kernel
theorem dX1_fill_31 : decode cX1_fill 31 = .ok (.i2b, 1) := by decide +kernel
theorem dX1_fill_32 : decode cX1_fill 32 = .ok (.bastore, 1) := by decide +kernel
theorem dX1_fill_33 : decode cX1_fill 33 = .ok (.iinc 6 1, 3) := by decide +kernel
theorem dX1_fill_36 : decode cX1_fill 36 = .ok (.goto (-25), 3) := by decide +kernel
theorem dX1_fill_39 : decode cX1_fill 39 = .ok (.return_, 1) := by decide +kernel
set_option maxRecDepth 20000 in
theorem ggX1_setSums_X1_slot : GoodIn wsX1_setSums wsX1_slot := goodIn_r _ [7, 1, 14, 15, 16, 17, 18, 19, 20, 21, 22] (by decide +kernel) (by decide +kernel)
set_option maxRecDepth 20000 in
theorem gX1_setSums_X1_slot : GoodIn wsX1_setSums (wsV RX1 45 RX1 yX1_slot wsX1_slot) := goodIn_app (goodIn_of _ (by decide +kernel)) ggX1_setSums_X1_slot
set_option maxRecDepth 20000 in
theorem ggX1_setSums_X1_sumOf : GoodIn wsX1_setSums wsX1_sumOf := goodIn_r _ [11, 12, 13, 3, 4, 5, 6, 7, 1, 14, 15, 16, 17, 18, 19, 20, 21, 22] (by decide +kernel) (by decide +kernel)
set_option maxRecDepth 20000 in
theorem gX1_setSums_X1_sumOf : GoodIn wsX1_setSums (wsV RX1 53 RX1 yX1_sumOf wsX1_sumOf) := goodIn_app (goodIn_of _ (by decide +kernel)) ggX1_setSums_X1_sumOf
theorem dX1_setSums_0 : decode cX1_setSums 0 = .ok (.iconst 0, 1) := by decide +kernel
theorem dX1_setSums_1 : decode cX1_setSums 1 = .ok (.istore_n 2, 1) := by decide +kernel
theorem dX1_setSums_2 : decode cX1_setSums 2 = .ok (.iload_n 2, 1) := by decide +kernel
theorem dX1_setSums_3 : decode cX1_setSums 3 = .ok (.aload_n 0, 1) := by decide +kernel
theorem dX1_setSums_4 : decode cX1_setSums 4 = .ok (.getfield 15, 3) := by decide +kernel
theorem dX1_setSums_7 : decode cX1_setSums 7 = .ok (.if_icmp .ge 26, 3) := by decide +kernel
theorem dX1_setSums_10 : decode cX1_setSums 10 = .ok (.aload_n 0, 1) := by decide +kernel
theorem dX1_setSums_11 : decode cX1_setSums 11 = .ok (.getfield 22, 3) := by decide +kernel
theorem dX1_setSums_14 : decode cX1_setSums 14 = .ok (.aload_n 0, 1) := by decide +kernel
theorem dX1_setSums_15 : decode cX1_setSums 15 = .ok (.iload_n 1, 1) := by decide +kernel
theorem dX1_setSums_16 : decode cX1_setSums 16 = .ok (.iload_n 2, 1) := by decide +kernel
theorem dX1_setSums_17 : decode cX1_setSums 17 = .ok (.invokevirtual 45, 3) := by decide +kernel
theorem dX1_setSums_20 : decode cX1_setSums 20 = .ok (.aload_n 0, 1) := by decide +kernel
theorem dX1_setSums_21 : decode cX1_setSums 21 = .ok (.iload_n 1, 1) := by decide +kernel
theorem dX1_setSums_22 : decode cX1_setSums 22 = .ok (.iload_n 2, 1) := by decide +kernel
theorem dX1_setSums_23 : decode cX1_setSums 23 = .ok (.invokevirtual 53, 3) := by decide +kernel
theorem dX1_setSums_26 : decode cX1_setSums 26 = .ok (.iastore, 1) := by decide +kernel
theorem dX1_setSums_27 : decode cX1_setSums 27 = .ok (.iinc 2 1, 3) := by decide +kernel
theorem dX1_setSums_30 : decode cX1_setSums 30 = .ok (.goto (-28), 3) := by decide +kernel
theorem dX1_setSums_33 : decode cX1_setSums 33 = .ok (.return_, 1) := by decide +kernel
set_option maxRecDepth 20000 in
theorem ggX1_sumOf_X1_slot : GoodIn wsX1_sumOf wsX1_slot := goodIn_r _ [7, 8, 9, 10, 11, 12, 13, 14, 15, 16, 17] (by decide +kernel) (by decide +kernel)
set_option maxRecDepth 20000 in
theorem gX1_sumOf_X1_slot : GoodIn wsX1_sumOf (wsV RX1 45 RX1 yX1_slot wsX1_slot) := goodIn_app (goodIn_of _ (by decide +kernel)) ggX1_sumOf_X1_slot
theorem dX1_sumOf_0 : decode cX1_sumOf 0 = .ok (.aload_n 0, 1) := by decide +kernel
theorem dX1_sumOf_1 : decode cX1_sumOf 1 = .ok (.iload_n 1, 1) := by decide +kernel
theorem dX1_sumOf_2 : decode cX1_sumOf 2 = .ok (.iload_n 2, 1) := by decide +kernel
theorem dX1_sumOf_3 : decode cX1_sumOf 3 = .ok (.invokevirtual 45, 3) := by decide +kernel
theorem dX1_sumOf_6 : decode cX1_sumOf 6 = .ok (.bipush 16, 2) := by decide +kernel
theorem dX1_sumOf_8 : decode cX1_sumOf 8 = .ok (.imul, 1) := by decide +kernel
theorem dX1_sumOf_9 : decode cX1_sumOf 9 = .ok (.istore_n 3, 1) := by decide +kernel
theorem dX1_sumOf_10 : decode cX1_sumOf 10 = .ok (.bipush 64, 2) := by decide +kernel
theorem dX1_sumOf_12 : decode cX1_sumOf 12 = .ok (.iload_n 1, 1) := by decide +kernel
theorem dX1_sumOf_13 : decode cX1_sumOf 13 = .ok (.imul, 1) := by decide +kernel
theorem dX1_sumOf_14 : decode cX1_sumOf 14 = .ok (.iload_n 2, 1) := by decide +kernel
theorem dX1_sumOf_15 : decode cX1_sumOf 15 = .ok (.iadd, 1) := by decide +kernel
theorem dX1_sumOf_16 : decode cX1_sumOf 16 = .ok (.istore 4, 2) := by decide +kernel
theorem dX1_sumOf_18 : decode cX1_sumOf 18 = .ok (.iconst 0, 1) := by decide +kernel
theorem dX1_sumOf_19 : decode cX1_sumOf 19 = .ok (.istore 5, 2) := by decide +kernel
theorem dX1_sumOf_21 : decode cX1_sumOf 21 = .ok (.iload 5, 2) := by decide +kernel
theorem dX1_sumOf_23 : decode cX1_sumOf 23 = .ok (.bipush 16, 2) := by decide +kernel
theorem dX1_sumOf_25 : decode cX1_sumOf 25 = .ok (.if_icmp .ge 42, 3) := by decide +kernel
theorem dX1_sumOf_28 : decode cX1_sumOf 28 = .ok (.iload 4, 2) := by decide +kernel
theorem dX1_sumOf_30 : decode cX1_sumOf 30 = .ok (.aload_n 0, 1) := by decide +kernel
theorem dX1_sumOf_31 : decode cX1_sumOf 31 = .ok (.getfield 18, 3) := by decide +kernel
theorem dX1_sumOf_34 : decode cX1_sumOf 34 = .ok (.iload_n 3, 1) := by decide +kernel
theorem dX1_sumOf_35 : decode cX1_sumOf 35 = .ok (.iload 5, 2) := by decide +kernel
theorem dX1_sumOf_37 : decode cX1_sumOf 37 = .ok (.iadd, 1) := by decide +kernel
theorem dX1_sumOf_38 : decode cX1_sumOf 38 = .ok (.baload, 1) := by decide +kernel
theorem dX1_sumOf_39 : decode cX1_sumOf 39 = .ok (.sipush 255, 3) := by decide +kernel
theorem dX1_sumOf_42 : decode cX1_sumOf 42 = .ok (.iand, 1) := by decide +kernel
theorem dX1_sumOf_43 : decode cX1_sumOf 43 = .ok (.ixor, 1) := by decide +kernel
theorem dX1_sumOf_44 : decode cX1_sumOf 44 = .ok (.istore 6, 2) := by decide +kernel
theorem dX1_sumOf_46 : decode cX1_sumOf 46 = .ok (.iload 6, 2) := by decide +kernel
theorem dX1_sumOf_48 : decode cX1_sumOf 48 = .ok (.iconst 3, 1) := by decide +kernel
theorem dX1_sumOf_49 : decode cX1_sumOf 49 = .ok (.ishl, 1) := by decide +kernel
theorem dX1_sumOf_50 : decode cX1_sumOf 50 = .ok (.iload 6, 2) := by decide +kernel
theorem dX1_sumOf_52 : decode cX1_sumOf 52 = .ok (.bipush 29, 2) := by decide +kernel
theorem dX1_sumOf_54 : decode cX1_sumOf 54 = .ok (.iushr, 1) := by decide +kernel
theorem dX1_sumOf_55 : decode cX1_sumOf 55 = .ok (.ior, 1) := by decide +kernel
theorem dX1_sumOf_56 : decode cX1_sumOf 56 = .ok (.ldc 77, 2) := by decide +kernel
theorem dX1_sumOf_58 : decode cX1_sumOf 58 = .ok (.imul, 1) := by decide +kernel
theorem dX1_sumOf_59 : decode cX1_sumOf 59 = .ok (.istore 4, 2) := by decide +kernel
theorem dX1_sumOf_61 : decode cX1_sumOf 61 = .ok (.iinc 5 1, 3) := by decide +kernel
theorem dX1_sumOf_64 : decode cX1_sumOf 64 = .ok (.goto (-43), 3) := by decide +kernel
theorem dX1_sumOf_67 : decode cX1_sumOf 67 = .ok (.iload 4, 2) := by decide +kernel
theorem dX1_sumOf_69 : decode cX1_sumOf 69 = .ok (.ireturn, 1) := by decide +kernel
set_option maxRecDepth 20000 in
theorem ggX1_isWrong_X1_slot : GoodIn wsX1_isWrong wsX1_slot := goodIn_r _ [7, 8, 15, 16, 17, 18, 19, 20, 21, 22, 23] (by decide +kernel) (by decide +kernel)
set_option maxRecDepth 20000 in
theorem gX1_isWrong_X1_slot : GoodIn wsX1_isWrong (wsV RX1 45 RX1 yX1_slot wsX1_slot) := goodIn_app (goodIn_of _ (by decide +kernel)) ggX1_isWrong_X1_slot
set_option maxRecDepth 20000 in
theorem ggX1_isWrong_X1_sumOf : GoodIn wsX1_isWrong wsX1_sumOf := goodIn_r _ [12, 13, 14, 3, 4, 5, 6, 7, 8, 15, 16, 17, 18, 19, 20, 21, 22, 23] (by decide +kernel) (by decide +kernel)
set_option maxRecDepth 20000 in
theorem gX1_isWrong_X1_sumOf : GoodIn wsX1_isWrong (wsV RX1 53 RX1 yX1_sumOf wsX1_sumOf) := goodIn_app (goodIn_of _ (by decide +kernel)) ggX1_isWrong_X1_sumOf
theorem dX1_isWrong_0 : decode cX1_isWrong 0 = .ok (.aload_n 0, 1) := by decide +kernel
theorem dX1_isWrong_1 : decode cX1_isWrong 1 = .ok (.getfield 26, 3) := by decide +kernel
theorem dX1_isWrong_4 : decode cX1_isWrong 4 = .ok (.iload_n 1, 1) := by decide +kernel
theorem dX1_isWrong_5 : decode cX1_isWrong 5 = .ok (.iaload, 1) := by decide +kernel
theorem dX1_isWrong_6 : decode cX1_isWrong 6 = .ok (.istore_n 3, 1) := by decide +kernel
theorem dX1_isWrong_7 : decode cX1_isWrong 7 = .ok (.aload_n 0, 1) := by decide +kernel
theorem dX1_isWrong_8 : decode cX1_isWrong 8 = .ok (.getfield 22, 3) := by decide +kernel
theorem dX1_isWrong_11 : decode cX1_isWrong 11 = .ok (.aload_n 0, 1) := by decide +kernel
theorem dX1_isWrong_12 : decode cX1_isWrong 12 = .ok (.iload_n 3, 1) := by decide +kernel
theorem dX1_isWrong_13 : decode cX1_isWrong 13 = .ok (.iload_n 2, 1) := by decide +kernel
theorem dX1_isWrong_14 : decode cX1_isWrong 14 = .ok (.invokevirtual 45, 3) := by decide +kernel
theorem dX1_isWrong_17 : decode cX1_isWrong 17 = .ok (.iaload, 1) := by decide +kernel
theorem dX1_isWrong_18 : decode cX1_isWrong 18 = .ok (.aload_n 0, 1) := by decide +kernel
theorem dX1_isWrong_19 : decode cX1_isWrong 19 = .ok (.iload_n 3, 1) := by decide +kernel
theorem dX1_isWrong_20 : decode cX1_isWrong 20 = .ok (.iload_n 2, 1) := by decide +kernel
theorem dX1_isWrong_21 : decode cX1_isWrong 21 = .ok (.invokevirtual 53, 3) := by decide +kernel
theorem dX1_isWrong_24 : decode cX1_isWrong 24 = .ok (.if_icmp .eq 7, 3) := by decide +kernel
theorem dX1_isWrong_27 : decode cX1_isWrong 27 = .ok (.iconst 1, 1) := by decide +kernel
theorem dX1_isWrong_28 : decode cX1_isWrong 28 = .ok (.goto 4, 3) := by decide +kernel
theorem dX1_isWrong_31 : decode cX1_isWrong 31 = .ok (.iconst 0, 1) := by decide +kernel
theorem dX1_isWrong_32 : decode cX1_isWrong 32 = .ok (.ireturn, 1) := by decide +kernel
set_option maxRecDepth 20000 in
theorem ggX1_holdsMoreThanZeros_X1_firstByte : GoodIn wsX1_holdsMoreThanZeros wsX1_firstByte := goodIn_r _ [7, 8, 9, 10, 11, 6, 12, 1, 13, 14, 15, 16, 17, 18, 19, 20, 21] (by decide +kernel) (by decide +kernel)
set_option maxRecDepth 20000 in
theorem gX1_holdsMoreThanZeros_X1_firstByte : GoodIn wsX1_holdsMoreThanZeros (wsV RX1 64 RX1 yX1_firstByte wsX1_firstByte) := goodIn_app (goodIn_of _ (by decide +kernel)) ggX1_holdsMoreThanZeros_X1_firstByte
theorem dX1_holdsMoreThanZeros_0 : decode cX1_holdsMoreThanZeros 0 = .ok (.aload_n 0, 1) := by decide +kernel
theorem dX1_holdsMoreThanZeros_1 : decode cX1_holdsMoreThanZeros 1 = .ok (.iload_n 1, 1) := by decide +kernel
theorem dX1_holdsMoreThanZeros_2 : decode cX1_holdsMoreThanZeros 2 = .ok (.iconst 0, 1) := by decide +kernel
theorem dX1_holdsMoreThanZeros_3 : decode cX1_holdsMoreThanZeros 3 = .ok (.invokevirtual 64, 3) := by decide +kernel
theorem dX1_holdsMoreThanZeros_6 : decode cX1_holdsMoreThanZeros 6 = .ok (.istore_n 2, 1) := by decide +kernel
theorem dX1_holdsMoreThanZeros_7 : decode cX1_holdsMoreThanZeros 7 = .ok (.iconst 0, 1) := by decide +kernel
theorem dX1_holdsMoreThanZeros_8 : decode cX1_holdsMoreThanZeros 8 = .ok (.istore_n 3, 1) := by decide +kernel
theorem dX1_holdsMoreThanZeros_9 : decode cX1_holdsMoreThanZeros 9 = .ok (.iload_n 3, 1) := by decide +kernel
theorem dX1_holdsMoreThanZeros_10 : decode cX1_holdsMoreThanZeros 10 = .ok (.aload_n 0, 1) := by decide +kernel
theorem dX1_holdsMoreThanZeros_11 : decode cX1_holdsMoreThanZeros 11 = .ok (.getfield 15, 3) := by decide +kernel
theorem dX1_holdsMoreThanZeros_14 : decode cX1_holdsMoreThanZeros 14 = .ok (.bipush 16, 2) := by decide +kernel
theorem dX1_holdsMoreThanZeros_16 : decode cX1_holdsMoreThanZeros 16 = .ok (.imul, 1) := by decide +kernel
theorem dX1_holdsMoreThanZeros_17 : decode cX1_holdsMoreThanZeros 17 = .ok (.if_icmp .ge 22, 3) := by decide +kernel
theorem dX1_holdsMoreThanZeros_20 : decode cX1_holdsMoreThanZeros 20 = .ok (.aload_n 0, 1) := by decide +kernel
theorem dX1_holdsMoreThanZeros_21 : decode cX1_holdsMoreThanZeros 21 = .ok (.getfield 18, 3) := by decide +kernel
theorem dX1_holdsMoreThanZeros_24 : decode cX1_holdsMoreThanZeros 24 = .ok (.iload_n 2, 1) := by decide +kernel
theorem dX1_holdsMoreThanZeros_25 : decode cX1_holdsMoreThanZeros 25 = .ok (.iload_n 3, 1) := by decide +kernel
theorem dX1_holdsMoreThanZeros_26 : decode cX1_holdsMoreThanZeros 26 = .ok (.iadd, 1) := by decide +kernel
theorem dX1_holdsMoreThanZeros_27 : decode cX1_holdsMoreThanZeros 27 = .ok (.baload, 1) := by decide +kernel
theorem dX1_holdsMoreThanZeros_28 : decode cX1_holdsMoreThanZeros 28 = .ok (.ifCond .eq 5, 3) := by decide +kernel
theorem dX1_holdsMoreThanZeros_31 : decode cX1_holdsMoreThanZeros 31 = .ok (.iconst 1, 1) := by decide +kernel
theorem dX1_holdsMoreThanZeros_32 : decode cX1_holdsMoreThanZeros 32 = .ok (.ireturn, 1) := by decide +kernel
theorem dX1_holdsMoreThanZeros_33 : decode cX1_holdsMoreThanZeros 33 = .ok (.iinc 3 1, 3) := by decide +kernel
theorem dX1_holdsMoreThanZeros_36 : decode cX1_holdsMoreThanZeros 36 = .ok (.goto (-27), 3) := by decide +kernel
theorem dX1_holdsMoreThanZeros_39 : decode cX1_holdsMoreThanZeros 39 = .ok (.iconst 0, 1) := by decide +kernel
theorem dX1_holdsMoreThanZeros_40 : decode cX1_holdsMoreThanZeros 40 = .ok (.ireturn, 1) := by decide +kernel
theorem dX1_differsAt_0 : decode cX1_differsAt 0 = .ok (.iload_n 2, 1) := by decide +kernel
theorem dX1_differsAt_1 : decode cX1_differsAt 1 = .ok (.bipush 16, 2) := by decide +kernel
theorem dX1_differsAt_3 : decode cX1_differsAt 3 = .ok (.imul, 1) := by decide +kernel
theorem dX1_differsAt_4 : decode cX1_differsAt 4 = .ok (.istore_n 3, 1) := by decide +kernel
theorem dX1_differsAt_5 : decode cX1_differsAt 5 = .ok (.iconst 0, 1) := by decide +kernel
theorem dX1_differsAt_6 : decode cX1_differsAt 6 = .ok (.istore 4, 2) := by decide +kernel
theorem dX1_differsAt_8 : decode cX1_differsAt 8 = .ok (.iload 4, 2) := by decide +kernel
theorem dX1_differsAt_10 : decode cX1_differsAt 10 = .ok (.bipush 16, 2) := by decide +kernel
theorem dX1_differsAt_12 : decode cX1_differsAt 12 = .ok (.if_icmp .ge 32, 3) := by decide +kernel
theorem dX1_differsAt_15 : decode cX1_differsAt 15 = .ok (.aload_n 0, 1) := by decide +kernel
theorem dX1_differsAt_16 : decode cX1_differsAt 16 = .ok (.getfield 18, 3) := by decide +kernel
theorem dX1_differsAt_19 : decode cX1_differsAt 19 = .ok (.iload_n 3, 1) := by decide +kernel
theorem dX1_differsAt_20 : decode cX1_differsAt 20 = .ok (.iload 4, 2) := by decide +kernel
theorem dX1_differsAt_22 : decode cX1_differsAt 22 = .ok (.iadd, 1) := by decide +kernel
theorem dX1_differsAt_23 : decode cX1_differsAt 23 = .ok (.baload, 1) := by decide +kernel
theorem dX1_differsAt_24 : decode cX1_differsAt 24 = .ok (.aload_n 1, 1) := by decide +kernel
theorem dX1_differsAt_25 : decode cX1_differsAt 25 = .ok (.getfield 18, 3) := by decide +kernel
theorem dX1_differsAt_28 : decode cX1_differsAt 28 = .ok (.iload_n 3, 1) := by decide +kernel
theorem dX1_differsAt_29 : decode cX1_differsAt 29 = .ok (.iload 4, 2) := by decide +kernel
theorem dX1_differsAt_31 : decode cX1_differsAt 31 = .ok (.iadd, 1) := by decide +kernel
theorem dX1_differsAt_32 : decode cX1_differsAt 32 = .ok (.baload, 1) := by decide +kernel
theorem dX1_differsAt_33 : decode cX1_differsAt 33 = .ok (.if_icmp .eq 5, 3) := by decide +kernel
theorem dX1_differsAt_36 : decode cX1_differsAt 36 = .ok (.iconst 1, 1) := by decide +kernel
theorem dX1_differsAt_37 : decode cX1_differsAt 37 = .ok (.ireturn, 1) := by decide +kernel
theorem dX1_differsAt_38 : decode cX1_differsAt 38 = .ok (.iinc 4 1, 3) := by decide +kernel
theorem dX1_differsAt_41 : decode cX1_differsAt 41 = .ok (.goto (-33), 3) := by decide +kernel
theorem dX1_differsAt_44 : decode cX1_differsAt 44 = .ok (.iconst 0, 1) := by decide +kernel
theorem dX1_differsAt_45 : decode cX1_differsAt 45 = .ok (.ireturn, 1) := by decide +kernel
theorem dX2_init_0 : decode cX2_init 0 = .ok (.aload_n 0, 1) := by decide +kernel
theorem dX2_init_1 : decode cX2_init 1 = .ok (.invokespecial 3, 3) := by decide +kernel
theorem dX2_init_4 : decode cX2_init 4 = .ok (.aload_n 0, 1) := by decide +kernel
theorem dX2_init_5 : decode cX2_init 5 = .ok (.bipush 40, 2) := by decide +kernel
theorem dX2_init_7 : decode cX2_init 7 = .ok (.newarray .int, 2) := by decide +kernel
theorem dX2_init_9 : decode cX2_init 9 = .ok (.putfield 9, 3) := by decide +kernel
theorem dX2_init_12 : decode cX2_init 12 = .ok (.aload_n 0, 1) := by decide +kernel
theorem dX2_init_13 : decode cX2_init 13 = .ok (.bipush 40, 2) := by decide +kernel
theorem dX2_init_15 : decode cX2_init 15 = .ok (.newarray .int, 2) := by decide +kernel
theorem dX2_init_17 : decode cX2_init 17 = .ok (.putfield 15, 3) := by decide +kernel
theorem dX2_init_20 : decode cX2_init 20 = .ok (.aload_n 0, 1) := by decide +kernel
theorem dX2_init_21 : decode cX2_init 21 = .ok (.bipush 40, 2) := by decide +kernel
theorem dX2_init_23 : decode cX2_init 23 = .ok (.newarray .byte, 2) := by decide +kernel
theorem dX2_init_25 : decode cX2_init 25 = .ok (.putfield 18, 3) := by decide +kernel
theorem dX2_init_28 : decode cX2_init 28 = .ok (.aload_n 0, 1) := by decide +kernel
theorem dX2_init_29 : decode cX2_init 29 = .ok (.iconst 0, 1) := by decide +kernel
theorem dX2_init_30 : decode cX2_init 30 = .ok (.putfield 22, 3) := by decide +kernel
theorem dX2_init_33 : decode cX2_init 33 = .ok (.return_, 1) := by decide +kernel
theorem dX2_append_0 : decode cX2_append 0 = .ok (.aload_n 0, 1) := by decide +kernel
theorem dX2_append_1 : decode cX2_append 1 = .ok (.getfield 22, 3) := by decide +kernel
theorem dX2_append_4 : decode cX2_append 4 = .ok (.bipush 40, 2) := by decide +kernel
theorem dX2_append_6 : decode cX2_append 6 = .ok (.if_icmp .ge 43, 3) := by decide +kernel
theorem dX2_append_9 : decode cX2_append 9 = .ok (.aload_n 0, 1) := by decide +kernel
theorem dX2_append_10 : decode cX2_append 10 = .ok (.getfield 9, 3) := by decide +kernel
theorem dX2_append_13 : decode cX2_append 13 = .ok (.aload_n 0, 1) := by decide +kernel
theorem dX2_append_14 : decode cX2_append 14 = .ok (.getfield 22, 3) := by decide +kernel
theorem dX2_append_17 : decode cX2_append 17 = .ok (.iload_n 1, 1) := by decide +kernel
theorem dX2_append_18 : decode cX2_append 18 = .ok (.iastore, 1) := by decide +kernel
theorem dX2_append_19 : decode cX2_append 19 = .ok (.aload_n 0, 1) := by decide +kernel
theorem dX2_append_20 : decode cX2_append 20 = .ok (.getfield 15, 3) := by decide +kernel
theorem dX2_append_23 : decode cX2_append 23 = .ok (.aload_n 0, 1) := by decide +kernel
theorem dX2_append_24 : decode cX2_append 24 = .ok (.getfield 22, 3) := by decide +kernel
theorem dX2_append_27 : decode cX2_append 27 = .ok (.iload_n 2, 1) := by decide +kernel
theorem dX2_append_28 : decode cX2_append 28 = .ok (.iastore, 1) := by decide +kernel
theorem dX2_append_29 : decode cX2_append 29 = .ok (.aload_n 0, 1) := by decide +kernel
theorem dX2_append_30 : decode cX2_append 30 = .ok (.getfield 18, 3) := by decide +kernel
theorem dX2_append_33 : decode cX2_append 33 = .ok (.aload_n 0, 1) := by decide +kernel
theorem dX2_append_34 : decode cX2_append 34 = .ok (.getfield 22, 3) := by decide +kernel
theorem dX2_append_37 : decode cX2_append 37 = .ok (.iload_n 3, 1) := by decide +kernel
theorem dX2_append_38 : decode cX2_append 38 = .ok (.bastore, 1) := by decide +kernel
theorem dX2_append_39 : decode cX2_append 39 = .ok (.aload_n 0, 1) := by decide +kernel
theorem dX2_append_40 : decode cX2_append 40 = .ok (.dup, 1) := by decide +kernel
theorem dX2_append_41 : decode cX2_append 41 = .ok (.getfield 22, 3) := by decide +kernel
theorem dX2_append_44 : decode cX2_append 44 = .ok (.iconst 1, 1) := by decide +kernel
theorem dX2_append_45 : decode cX2_append 45 = .ok (.iadd, 1) := by decide +kernel
theorem dX2_append_46 : decode cX2_append 46 = .ok (.putfield 22, 3) := by decide +kernel
theorem dX2_append_49 : decode cX2_append 49 = .ok (.return_, 1) := by decide +kernel
theorem dX2_drop_0 : decode cX2_drop 0 = .ok (.aload_n 0, 1) := by decide +kernel
theorem dX2_drop_1 : decode cX2_drop 1 = .ok (.iconst 0, 1) := by decide +kernel
theorem dX2_drop_2 : decode cX2_drop 2 = .ok (.putfield 22, 3) := by decide +kernel
theorem dX2_drop_5 : decode cX2_drop 5 = .ok (.return_, 1) := by decide +kernel
set_option maxRecDepth 20000 in
theorem ggX3_init_X3_held : GoodIn wsX3_init wsX3_held := goodIn_r _ [24, 25, 26, 27, 28, 29, 30, 31] (by decide +kernel) (by decide +kernel)
set_option maxRecDepth 20000 in
theorem gX3_init_X3_held : GoodIn wsX3_init (va_wsS RX3 9 yX3_held wsX3_held) := goodIn_app (goodIn_of _ (by decide +kernel)) ggX3_init_X3_held
set_option maxRecDepth 20000 in
theorem ggX3_init_X1_init : GoodIn wsX3_init wsX1_init := goodIn_r _ [34, 35, 2, 3, 36, 37, 38, 39, 40, 41, 42, 43, 44, 45, 46, 47, 48, 49, 8, 50, 51, 52, 53, 54, 55, 56, 57, 58, 59, 81, 82, 83, 84, 85, 86, 87, 88, 89] (by decide +kernel) (by decide +kernel)
set_option maxRecDepth 20000 in
theorem gX3_init_X1_init : GoodIn wsX3_init (wsX1_init) := ggX3_init_X1_init
set_option maxRecDepth 20000 in
theorem ggX3_init_X2_init : GoodIn wsX3_init wsX2_init := goodIn_r _ [61, 62, 2, 3, 40, 63, 64, 38, 65, 66, 90, 91, 92, 93] (by decide +kernel) (by decide +kernel)
set_option maxRecDepth 20000 in
theorem gX3_init_X2_init_n38 : GoodIn wsX3_init (wsX2_init) := ggX3_init_X2_init
set_option maxRecDepth 20000 in
theorem ggX3_init_X0_init : GoodIn wsX3_init wsX0_init := goodIn_r _ [68, 69, 2, 3, 40, 70, 71, 72, 94, 95, 96] (by decide +kernel) (by decide +kernel)
set_option maxRecDepth 20000 in
theorem gX3_init_X0_init_n45 : GoodIn wsX3_init (wsX0_init) := ggX3_init_X0_init
end
section
theorem dX3_init_0 : decode cX3_init 0 = .ok (.aload_n 0, 1) := by decide +kernel
theorem dX3_init_1 : decode cX3_init 1 = .ok (.invokespecial 1, 3) := by decide +kernel
theorem dX3_init_4 : decode cX3_init 4 = .ok (.aload_n 0, 1) := by decide +kernel
theorem dX3_init_5 : decode cX3_init 5 = .ok (.iload_n 1, 1) := by decide +kernel
theorem dX3_init_6 : decode cX3_init 6 = .ok (.iconst 1, 1) := by decide +kernel
theorem dX3_init_7 : decode cX3_init 7 = .ok (.bipush 12, 2) := by decide +kernel
theorem dX3_init_9 : decode cX3_init 9 = .ok (.invokestatic 9, 3) := by decide +kernel
theorem dX3_init_12 : decode cX3_init 12 = .ok (.putfield 13, 3) := by decide +kernel
theorem dX3_init_15 : decode cX3_init 15 = .ok (.aload_n 0, 1) := by decide +kernel
theorem dX3_init_16 : decode cX3_init 16 = .ok (.iload_n 2, 1) := by decide +kernel
theorem dX3_init_17 : decode cX3_init 17 = .ok (.iconst 1, 1) := by decide +kernel
theorem dX3_init_18 : decode cX3_init 18 = .ok (.bipush 8, 2) := by decide +kernel
theorem dX3_init_20 : decode cX3_init 20 = .ok (.invokestatic 9, 3) := by decide +kernel
theorem dX3_init_23 : decode cX3_init 23 = .ok (.putfield 17, 3) := by decide +kernel
theorem dX3_init_26 : decode cX3_init 26 = .ok (.aload_n 0, 1) := by decide +kernel
theorem dX3_init_27 : decode cX3_init 27 = .ok (.new 20, 3) := by decide +kernel
theorem dX3_init_30 : decode cX3_init 30 = .ok (.dup, 1) := by decide +kernel
theorem dX3_init_31 : decode cX3_init 31 = .ok (.aload_n 0, 1) := by decide +kernel
theorem dX3_init_32 : decode cX3_init 32 = .ok (.getfield 13, 3) := by decide +kernel
theorem dX3_init_35 : decode cX3_init 35 = .ok (.aload_n 0, 1) := by decide +kernel
theorem dX3_init_36 : decode cX3_init 36 = .ok (.getfield 17, 3) := by decide +kernel
theorem dX3_init_39 : decode cX3_init 39 = .ok (.invokespecial 22, 3) := by decide +kernel
theorem dX3_init_42 : decode cX3_init 42 = .ok (.putfield 25, 3) := by decide +kernel
theorem dX3_init_45 : decode cX3_init 45 = .ok (.aload_n 0, 1) := by decide +kernel
theorem dX3_init_46 : decode cX3_init 46 = .ok (.iconst 5, 1) := by decide +kernel
theorem dX3_init_47 : decode cX3_init 47 = .ok (.anewarray 20, 3) := by decide +kernel
theorem dX3_init_50 : decode cX3_init 50 = .ok (.putfield 29, 3) := by decide +kernel
theorem dX3_init_53 : decode cX3_init 53 = .ok (.aload_n 0, 1) := by decide +kernel
theorem dX3_init_54 : decode cX3_init 54 = .ok (.iconst 0, 1) := by decide +kernel
theorem dX3_init_55 : decode cX3_init 55 = .ok (.putfield 33, 3) := by decide +kernel
theorem dX3_init_58 : decode cX3_init 58 = .ok (.aload_n 0, 1) := by decide +kernel
theorem dX3_init_59 : decode cX3_init 59 = .ok (.new 36, 3) := by decide +kernel
theorem dX3_init_62 : decode cX3_init 62 = .ok (.dup, 1) := by decide +kernel
theorem dX3_init_63 : decode cX3_init 63 = .ok (.invokespecial 38, 3) := by decide +kernel
theorem dX3_init_66 : decode cX3_init 66 = .ok (.putfield 39, 3) := by decide +kernel
theorem dX3_init_69 : decode cX3_init 69 = .ok (.aload_n 0, 1) := by decide +kernel
theorem dX3_init_70 : decode cX3_init 70 = .ok (.new 43, 3) := by decide +kernel
theorem dX3_init_73 : decode cX3_init 73 = .ok (.dup, 1) := by decide +kernel
theorem dX3_init_74 : decode cX3_init 74 = .ok (.invokespecial 45, 3) := by decide +kernel
theorem dX3_init_77 : decode cX3_init 77 = .ok (.putfield 46, 3) := by decide +kernel
theorem dX3_init_80 : decode cX3_init 80 = .ok (.aload_n 0, 1) := by decide +kernel
theorem dX3_init_81 : decode cX3_init 81 = .ok (.iconst 0, 1) := by decide +kernel
theorem dX3_init_82 : decode cX3_init 82 = .ok (.putfield 50, 3) := by decide +kernel
theorem dX3_init_85 : decode cX3_init 85 = .ok (.return_, 1) := by decide +kernel
set_option maxRecDepth 20000 in
theorem ggX3_write_X3_hasSector : GoodIn wsX3_write wsX3_hasSector := goodIn_r _ [8, 9, 10, 11, 12, 7, 13, 14, 24, 25, 26, 27, 28, 29, 30, 31] (by decide +kernel) (by decide +kernel)
set_option maxRecDepth 20000 in
theorem gX3_write_X3_hasSector : GoodIn wsX3_write (wsV RX3 54 RX3 yX3_hasSector wsX3_hasSector) := goodIn_app (goodIn_of _ (by decide +kernel)) ggX3_write_X3_hasSector
set_option maxRecDepth 20000 in
theorem ggX3_write_X2_append : GoodIn wsX3_write wsX2_append := goodIn_r _ [19, 20, 21, 22, 23, 32, 33, 34, 35] (by decide +kernel) (by decide +kernel)
set_option maxRecDepth 20000 in
theorem gX3_write_X2_append : GoodIn wsX3_write (wsV RX3 61 RX2 yX2_append wsX2_append) := goodIn_app (goodIn_of _ (by decide +kernel)) ggX3_write_X2_append
theorem dX3_write_0 : decode cX3_write 0 = .ok (.aload_n 0, 1) := by decide +kernel
theorem dX3_write_1 : decode cX3_write 1 = .ok (.iload_n 1, 1) := by decide +kernel
theorem dX3_write_2 : decode cX3_write 2 = .ok (.iload_n 2, 1) := by decide +kernel
theorem dX3_write_3 : decode cX3_write 3 = .ok (.invokevirtual 54, 3) := by decide +kernel
theorem dX3_write_6 : decode cX3_write 6 = .ok (.ifCond .ne 6, 3) := by decide +kernel
theorem dX3_write_9 : decode cX3_write 9 = .ok (.bipush (-2), 2) := by decide +kernel
theorem dX3_write_11 : decode cX3_write 11 = .ok (.ireturn, 1) := by decide +kernel
theorem dX3_write_12 : decode cX3_write 12 = .ok (.aload_n 0, 1) := by decide +kernel
theorem dX3_write_13 : decode cX3_write 13 = .ok (.getfield 50, 3) := by decide +kernel
theorem dX3_write_16 : decode cX3_write 16 = .ok (.ifCond .eq 6, 3) := by decide +kernel
theorem dX3_write_19 : decode cX3_write 19 = .ok (.bipush (-5), 2) := by decide +kernel
theorem dX3_write_21 : decode cX3_write 21 = .ok (.ireturn, 1) := by decide +kernel
theorem dX3_write_22 : decode cX3_write 22 = .ok (.aload_n 0, 1) := by decide +kernel
theorem dX3_write_23 : decode cX3_write 23 = .ok (.getfield 39, 3) := by decide +kernel
theorem dX3_write_26 : decode cX3_write 26 = .ok (.getfield 58, 3) := by decide +kernel
theorem dX3_write_29 : decode cX3_write 29 = .ok (.bipush 40, 2) := by decide +kernel
theorem dX3_write_31 : decode cX3_write 31 = .ok (.if_icmp .lt 5, 3) := by decide +kernel
theorem dX3_write_34 : decode cX3_write 34 = .ok (.iconst (-1), 1) := by decide +kernel
theorem dX3_write_35 : decode cX3_write 35 = .ok (.ireturn, 1) := by decide +kernel
theorem dX3_write_36 : decode cX3_write 36 = .ok (.aload_n 0, 1) := by decide +kernel
theorem dX3_write_37 : decode cX3_write 37 = .ok (.getfield 39, 3) := by decide +kernel
theorem dX3_write_40 : decode cX3_write 40 = .ok (.iload_n 1, 1) := by decide +kernel
theorem dX3_write_41 : decode cX3_write 41 = .ok (.iload_n 2, 1) := by decide +kernel
theorem dX3_write_42 : decode cX3_write 42 = .ok (.iload_n 3, 1) := by decide +kernel
theorem dX3_write_43 : decode cX3_write 43 = .ok (.invokevirtual 61, 3) := by decide +kernel
theorem dX3_write_46 : decode cX3_write 46 = .ok (.aload_n 0, 1) := by decide +kernel
theorem dX3_write_47 : decode cX3_write 47 = .ok (.getfield 39, 3) := by decide +kernel
theorem dX3_write_50 : decode cX3_write 50 = .ok (.getfield 58, 3) := by decide +kernel
theorem dX3_write_53 : decode cX3_write 53 = .ok (.ireturn, 1) := by decide +kernel
set_option maxRecDepth 20000 in
theorem ggX3_read_X3_hasSector : GoodIn wsX3_read wsX3_hasSector := goodIn_r _ [10, 11, 12, 13, 14, 9, 15, 16, 37, 38, 39, 40, 41, 42, 43, 44] (by decide +kernel) (by decide +kernel)
set_option maxRecDepth 20000 in
theorem gX3_read_X3_hasSector : GoodIn wsX3_read (wsV RX3 54 RX3 yX3_hasSector wsX3_hasSector) := goodIn_app (goodIn_of _ (by decide +kernel)) ggX3_read_X3_hasSector
set_option maxRecDepth 20000 in
theorem ggX3_read_X3_isByteNumber : GoodIn wsX3_read wsX3_isByteNumber := goodIn_r _ [19] (by decide +kernel) (by decide +kernel)
set_option maxRecDepth 20000 in
theorem gX3_read_X3_isByteNumber : GoodIn wsX3_read (va_wsS RX3 65 yX3_isByteNumber wsX3_isByteNumber) := goodIn_app (goodIn_of _ (by decide +kernel)) ggX3_read_X3_isByteNumber
set_option maxRecDepth 20000 in
theorem ggX3_read_X1_firstByte : GoodIn wsX3_read wsX1_firstByte := goodIn_r _ [24, 25, 26, 27, 28, 23, 29, 30, 45, 46, 47, 48, 49, 50, 51, 52, 53] (by decide +kernel) (by decide +kernel)
set_option maxRecDepth 20000 in
theorem gX3_read_X1_firstByte : GoodIn wsX3_read (wsV RX3 80 RX1 yX1_firstByte wsX1_firstByte) := goodIn_app (goodIn_of _ (by decide +kernel)) ggX3_read_X1_firstByte
theorem dX3_read_0 : decode cX3_read 0 = .ok (.aload_n 0, 1) := by decide +kernel
theorem dX3_read_1 : decode cX3_read 1 = .ok (.iload_n 1, 1) := by decide +kernel
theorem dX3_read_2 : decode cX3_read 2 = .ok (.iload_n 2, 1) := by decide +kernel
theorem dX3_read_3 : decode cX3_read 3 = .ok (.invokevirtual 54, 3) := by decide +kernel
theorem dX3_read_6 : decode cX3_read 6 = .ok (.ifCond .eq 10, 3) := by decide +kernel
theorem dX3_read_9 : decode cX3_read 9 = .ok (.iload_n 3, 1) := by decide +kernel
theorem dX3_read_10 : decode cX3_read 10 = .ok (.invokestatic 65, 3) := by decide +kernel
theorem dX3_read_13 : decode cX3_read 13 = .ok (.ifCond .ne 13, 3) := by decide +kernel
theorem dX3_read_16 : decode cX3_read 16 = .ok (.new 69, 3) := by decide +kernel
theorem dX3_read_19 : decode cX3_read 19 = .ok (.dup, 1) := by decide +kernel
theorem dX3_read_20 : decode cX3_read 20 = .ok (.ldc 71, 2) := by decide +kernel
theorem dX3_read_22 : decode cX3_read 22 = .ok (.invokespecial 73, 3) := by decide +kernel
theorem dX3_read_25 : decode cX3_read 25 = .ok (.athrow, 1) := by decide +kernel
theorem dX3_read_26 : decode cX3_read 26 = .ok (.aload_n 0, 1) := by decide +kernel
theorem dX3_read_27 : decode cX3_read 27 = .ok (.getfield 25, 3) := by decide +kernel
theorem dX3_read_30 : decode cX3_read 30 = .ok (.getfield 76, 3) := by decide +kernel
theorem dX3_read_33 : decode cX3_read 33 = .ok (.aload_n 0, 1) := by decide +kernel
theorem dX3_read_34 : decode cX3_read 34 = .ok (.getfield 25, 3) := by decide +kernel
theorem dX3_read_37 : decode cX3_read 37 = .ok (.iload_n 1, 1) := by decide +kernel
theorem dX3_read_38 : decode cX3_read 38 = .ok (.iload_n 2, 1) := by decide +kernel
theorem dX3_read_39 : decode cX3_read 39 = .ok (.invokevirtual 80, 3) := by decide +kernel
theorem dX3_read_42 : decode cX3_read 42 = .ok (.iload_n 3, 1) := by decide +kernel
theorem dX3_read_43 : decode cX3_read 43 = .ok (.iadd, 1) := by decide +kernel
theorem dX3_read_44 : decode cX3_read 44 = .ok (.baload, 1) := by decide +kernel
theorem dX3_read_45 : decode cX3_read 45 = .ok (.ireturn, 1) := by decide +kernel
set_option maxRecDepth 20000 in
theorem ggX3_sync_X3_layFirst : GoodIn wsX3_sync wsX3_layFirst := goodIn_r _ [8, 9, 2, 10, 11, 12, 13, 14, 15, 16, 17, 18, 19, 20, 21, 22, 23, 24, 25, 26, 27, 28, 29, 30, 31, 32, 33, 34, 35, 36, 37, 38, 39, 40, 47, 48, 49, 50, 51, 52, 53, 54, 55, 56, 57, 58, 59, 60, 61, 62, 63, 64, 65, 66, 67] (by decide +kernel) (by decide +kernel)
set_option maxRecDepth 20000 in
theorem gX3_sync_X3_layFirst : GoodIn wsX3_sync (wsV RX3 84 RX3 yX3_layFirst wsX3_layFirst) := goodIn_app (goodIn_of _ (by decide +kernel)) ggX3_sync_X3_layFirst
set_option maxRecDepth 20000 in
theorem ggX3_sync_X2_drop : GoodIn wsX3_sync wsX2_drop := goodIn_r _ [45, 46, 55, 56, 57, 58] (by decide +kernel) (by decide +kernel)
set_option maxRecDepth 20000 in
theorem gX3_sync_X2_drop : GoodIn wsX3_sync (wsV RX3 88 RX2 yX2_drop wsX2_drop) := goodIn_app (goodIn_of _ (by decide +kernel)) ggX3_sync_X2_drop
theorem dX3_sync_0 : decode cX3_sync 0 = .ok (.aload_n 0, 1) := by decide +kernel
theorem dX3_sync_1 : decode cX3_sync 1 = .ok (.getfield 50, 3) := by decide +kernel
theorem dX3_sync_4 : decode cX3_sync 4 = .ok (.ifCond .eq 6, 3) := by decide +kernel
theorem dX3_sync_7 : decode cX3_sync 7 = .ok (.bipush (-5), 2) := by decide +kernel
theorem dX3_sync_9 : decode cX3_sync 9 = .ok (.ireturn, 1) := by decide +kernel
theorem dX3_sync_10 : decode cX3_sync 10 = .ok (.aload_n 0, 1) := by decide +kernel
theorem dX3_sync_11 : decode cX3_sync 11 = .ok (.getfield 39, 3) := by decide +kernel
theorem dX3_sync_14 : decode cX3_sync 14 = .ok (.getfield 58, 3) := by decide +kernel
theorem dX3_sync_17 : decode cX3_sync 17 = .ok (.istore_n 1, 1) := by decide +kernel
theorem dX3_sync_18 : decode cX3_sync 18 = .ok (.aload_n 0, 1) := by decide +kernel
theorem dX3_sync_19 : decode cX3_sync 19 = .ok (.iload_n 1, 1) := by decide +kernel
theorem dX3_sync_20 : decode cX3_sync 20 = .ok (.invokevirtual 84, 3) := by decide +kernel
theorem dX3_sync_23 : decode cX3_sync 23 = .ok (.aload_n 0, 1) := by decide +kernel
theorem dX3_sync_24 : decode cX3_sync 24 = .ok (.getfield 39, 3) := by decide +kernel
theorem dX3_sync_27 : decode cX3_sync 27 = .ok (.invokevirtual 88, 3) := by decide +kernel
theorem dX3_sync_30 : decode cX3_sync 30 = .ok (.iload_n 1, 1) := by decide +kernel
theorem dX3_sync_31 : decode cX3_sync 31 = .ok (.ireturn, 1) := by decide +kernel
set_option maxRecDepth 20000 in
theorem ggX3_cut_X3_held : GoodIn wsX3_cut wsX3_held := goodIn_r _ [11, 12, 13, 14, 15, 16, 17, 18] (by decide +kernel) (by decide +kernel)
set_option maxRecDepth 20000 in
theorem gX3_cut_X3_held : GoodIn wsX3_cut (va_wsS RX3 9 yX3_held wsX3_held) := goodIn_app (goodIn_of _ (by decide +kernel)) ggX3_cut_X3_held
set_option maxRecDepth 20000 in
theorem ggX3_cut_X3_layFirst : GoodIn wsX3_cut wsX3_layFirst := goodIn_r _ [22, 4, 2, 5, 6, 7, 23, 24, 25, 26, 27, 28, 29, 30, 31, 32, 33, 34, 35, 36, 37, 38, 39, 40, 41, 42, 43, 44, 45, 46, 47, 48, 49, 50, 61, 62, 63, 64, 65, 66, 67, 68, 69, 70, 71, 72, 73, 74, 75, 76, 77, 78, 79, 80, 81] (by decide +kernel) (by decide +kernel)
set_option maxRecDepth 20000 in
theorem gX3_cut_X3_layFirst : GoodIn wsX3_cut (wsV RX3 84 RX3 yX3_layFirst wsX3_layFirst) := goodIn_app (goodIn_of _ (by decide +kernel)) ggX3_cut_X3_layFirst
set_option maxRecDepth 20000 in
theorem ggX3_cut_X1_layTorn : GoodIn wsX3_cut wsX1_layTorn := goodIn_r _ [54, 30, 32, 33, 34, 26, 35, 36, 37, 38, 39, 40, 28, 41, 42, 43, 44, 45, 73, 74, 75, 76, 77, 78, 79, 80, 81] (by decide +kernel) (by decide +kernel)
set_option maxRecDepth 20000 in
theorem gX3_cut_X1_layTorn : GoodIn wsX3_cut (wsV RX3 101 RX1 yX1_layTorn wsX1_layTorn) := goodIn_app (goodIn_of _ (by decide +kernel)) ggX3_cut_X1_layTorn
set_option maxRecDepth 20000 in
theorem ggX3_cut_X2_drop : GoodIn wsX3_cut wsX2_drop := goodIn_r _ [59, 60, 69, 70, 71, 72] (by decide +kernel) (by decide +kernel)
set_option maxRecDepth 20000 in
theorem gX3_cut_X2_drop : GoodIn wsX3_cut (wsV RX3 88 RX2 yX2_drop wsX2_drop) := goodIn_app (goodIn_of _ (by decide +kernel)) ggX3_cut_X2_drop
theorem dX3_cut_0 : decode cX3_cut 0 = .ok (.aload_n 0, 1) := by decide +kernel
theorem dX3_cut_1 : decode cX3_cut 1 = .ok (.getfield 50, 3) := by decide +kernel
theorem dX3_cut_4 : decode cX3_cut 4 = .ok (.ifCond .eq 4, 3) := by decide +kernel
theorem dX3_cut_7 : decode cX3_cut 7 = .ok (.return_, 1) := by decide +kernel
theorem dX3_cut_8 : decode cX3_cut 8 = .ok (.iload_n 1, 1) := by decide +kernel
theorem dX3_cut_9 : decode cX3_cut 9 = .ok (.iconst 0, 1) := by decide +kernel
theorem dX3_cut_10 : decode cX3_cut 10 = .ok (.aload_n 0, 1) := by decide +kernel
theorem dX3_cut_11 : decode cX3_cut 11 = .ok (.getfield 39, 3) := by decide +kernel
theorem dX3_cut_14 : decode cX3_cut 14 = .ok (.getfield 58, 3) := by decide +kernel
theorem dX3_cut_17 : decode cX3_cut 17 = .ok (.invokestatic 9, 3) := by decide +kernel
theorem dX3_cut_20 : decode cX3_cut 20 = .ok (.istore_n 3, 1) := by decide +kernel
theorem dX3_cut_21 : decode cX3_cut 21 = .ok (.aload_n 0, 1) := by decide +kernel
theorem dX3_cut_22 : decode cX3_cut 22 = .ok (.iload_n 3, 1) := by decide +kernel
theorem dX3_cut_23 : decode cX3_cut 23 = .ok (.invokevirtual 84, 3) := by decide +kernel
theorem dX3_cut_26 : decode cX3_cut 26 = .ok (.iload_n 3, 1) := by decide +kernel
theorem dX3_cut_27 : decode cX3_cut 27 = .ok (.aload_n 0, 1) := by decide +kernel
theorem dX3_cut_28 : decode cX3_cut 28 = .ok (.getfield 39, 3) := by decide +kernel
theorem dX3_cut_31 : decode cX3_cut 31 = .ok (.getfield 58, 3) := by decide +kernel
theorem dX3_cut_34 : decode cX3_cut 34 = .ok (.if_icmp .ge 44, 3) := by decide +kernel
theorem dX3_cut_37 : decode cX3_cut 37 = .ok (.aload_n 0, 1) := by decide +kernel
theorem dX3_cut_38 : decode cX3_cut 38 = .ok (.getfield 25, 3) := by decide +kernel
theorem dX3_cut_41 : decode cX3_cut 41 = .ok (.aload_n 0, 1) := by decide +kernel
theorem dX3_cut_42 : decode cX3_cut 42 = .ok (.getfield 39, 3) := by decide +kernel
theorem dX3_cut_45 : decode cX3_cut 45 = .ok (.getfield 91, 3) := by decide +kernel
theorem dX3_cut_48 : decode cX3_cut 48 = .ok (.iload_n 3, 1) := by decide +kernel
theorem dX3_cut_49 : decode cX3_cut 49 = .ok (.iaload, 1) := by decide +kernel
theorem dX3_cut_50 : decode cX3_cut 50 = .ok (.aload_n 0, 1) := by decide +kernel
theorem dX3_cut_51 : decode cX3_cut 51 = .ok (.getfield 39, 3) := by decide +kernel
theorem dX3_cut_54 : decode cX3_cut 54 = .ok (.getfield 95, 3) := by decide +kernel
theorem dX3_cut_57 : decode cX3_cut 57 = .ok (.iload_n 3, 1) := by decide +kernel
theorem dX3_cut_58 : decode cX3_cut 58 = .ok (.iaload, 1) := by decide +kernel
theorem dX3_cut_59 : decode cX3_cut 59 = .ok (.aload_n 0, 1) := by decide +kernel
theorem dX3_cut_60 : decode cX3_cut 60 = .ok (.getfield 39, 3) := by decide +kernel
theorem dX3_cut_63 : decode cX3_cut 63 = .ok (.getfield 98, 3) := by decide +kernel
theorem dX3_cut_66 : decode cX3_cut 66 = .ok (.iload_n 3, 1) := by decide +kernel
theorem dX3_cut_67 : decode cX3_cut 67 = .ok (.baload, 1) := by decide +kernel
theorem dX3_cut_68 : decode cX3_cut 68 = .ok (.iload_n 2, 1) := by decide +kernel
theorem dX3_cut_69 : decode cX3_cut 69 = .ok (.iconst 0, 1) := by decide +kernel
theorem dX3_cut_70 : decode cX3_cut 70 = .ok (.bipush 16, 2) := by decide +kernel
theorem dX3_cut_72 : decode cX3_cut 72 = .ok (.invokestatic 9, 3) := by decide +kernel
theorem dX3_cut_75 : decode cX3_cut 75 = .ok (.invokevirtual 101, 3) := by decide +kernel
theorem dX3_cut_78 : decode cX3_cut 78 = .ok (.aload_n 0, 1) := by decide +kernel
theorem dX3_cut_79 : decode cX3_cut 79 = .ok (.getfield 39, 3) := by decide +kernel
theorem dX3_cut_82 : decode cX3_cut 82 = .ok (.invokevirtual 88, 3) := by decide +kernel
theorem dX3_cut_85 : decode cX3_cut 85 = .ok (.aload_n 0, 1) := by decide +kernel
theorem dX3_cut_86 : decode cX3_cut 86 = .ok (.iconst 1, 1) := by decide +kernel
theorem dX3_cut_87 : decode cX3_cut 87 = .ok (.putfield 50, 3) := by decide +kernel
theorem dX3_cut_90 : decode cX3_cut 90 = .ok (.return_, 1) := by decide +kernel
set_option maxRecDepth 20000 in
theorem ggX3_start_X1_wrongSectors : GoodIn wsX3_start wsX1_wrongSectors := goodIn_r _ [7, 8, 9, 10, 11, 12, 6, 13, 14, 15, 16, 17, 18, 19, 20, 21, 22, 23, 24, 25, 34, 35, 36, 37, 38, 39, 40, 41, 42] (by decide +kernel) (by decide +kernel)
set_option maxRecDepth 20000 in
theorem gX3_start_X1_wrongSectors : GoodIn wsX3_start (wsV RX3 105 RX1 yX1_wrongSectors wsX1_wrongSectors) := goodIn_app (goodIn_of _ (by decide +kernel)) ggX3_start_X1_wrongSectors
theorem dX3_start_0 : decode cX3_start 0 = .ok (.aload_n 0, 1) := by decide +kernel
theorem dX3_start_1 : decode cX3_start 1 = .ok (.getfield 50, 3) := by decide +kernel
theorem dX3_start_4 : decode cX3_start 4 = .ok (.ifCond .ne 6, 3) := by decide +kernel
theorem dX3_start_7 : decode cX3_start 7 = .ok (.bipush (-5), 2) := by decide +kernel
theorem dX3_start_9 : decode cX3_start 9 = .ok (.ireturn, 1) := by decide +kernel
theorem dX3_start_10 : decode cX3_start 10 = .ok (.aload_n 0, 1) := by decide +kernel
theorem dX3_start_11 : decode cX3_start 11 = .ok (.iconst 0, 1) := by decide +kernel
theorem dX3_start_12 : decode cX3_start 12 = .ok (.putfield 50, 3) := by decide +kernel
theorem dX3_start_15 : decode cX3_start 15 = .ok (.aload_n 0, 1) := by decide +kernel
theorem dX3_start_16 : decode cX3_start 16 = .ok (.getfield 25, 3) := by decide +kernel
theorem dX3_start_19 : decode cX3_start 19 = .ok (.invokevirtual 105, 3) := by decide +kernel
theorem dX3_start_22 : decode cX3_start 22 = .ok (.ireturn, 1) := by decide +kernel
set_option maxRecDepth 20000 in
theorem ggX3_space_X3_hasTrack : GoodIn wsX3_space wsX3_hasTrack := goodIn_r _ [8, 9, 10, 11, 12, 13, 14, 15, 16, 17] (by decide +kernel) (by decide +kernel)
set_option maxRecDepth 20000 in
theorem gX3_space_X3_hasTrack : GoodIn wsX3_space (wsV RX3 109 RX3 yX3_hasTrack wsX3_hasTrack) := goodIn_app (goodIn_of _ (by decide +kernel)) ggX3_space_X3_hasTrack
theorem dX3_space_0 : decode cX3_space 0 = .ok (.iload_n 1, 1) := by decide +kernel
theorem dX3_space_1 : decode cX3_space 1 = .ok (.ifCond .lt 16, 3) := by decide +kernel
theorem dX3_space_4 : decode cX3_space 4 = .ok (.iload_n 1, 1) := by decide +kernel
theorem dX3_space_5 : decode cX3_space 5 = .ok (.iconst 1, 1) := by decide +kernel
theorem dX3_space_6 : decode cX3_space 6 = .ok (.if_icmp .gt 11, 3) := by decide +kernel
theorem dX3_space_9 : decode cX3_space 9 = .ok (.aload_n 0, 1) := by decide +kernel
theorem dX3_space_10 : decode cX3_space 10 = .ok (.iload_n 2, 1) := by decide +kernel
theorem dX3_space_11 : decode cX3_space 11 = .ok (.invokevirtual 109, 3) := by decide +kernel
theorem dX3_space_14 : decode cX3_space 14 = .ok (.ifCond .ne 6, 3) := by decide +kernel
theorem dX3_space_17 : decode cX3_space 17 = .ok (.bipush (-2), 2) := by decide +kernel
theorem dX3_space_19 : decode cX3_space 19 = .ok (.ireturn, 1) := by decide +kernel
theorem dX3_space_20 : decode cX3_space 20 = .ok (.iload_n 1, 1) := by decide +kernel
theorem dX3_space_21 : decode cX3_space 21 = .ok (.ifCond .ne 15, 3) := by decide +kernel
theorem dX3_space_24 : decode cX3_space 24 = .ok (.aload_n 0, 1) := by decide +kernel
theorem dX3_space_25 : decode cX3_space 25 = .ok (.getfield 25, 3) := by decide +kernel
theorem dX3_space_28 : decode cX3_space 28 = .ok (.getfield 112, 3) := by decide +kernel
theorem dX3_space_31 : decode cX3_space 31 = .ok (.iload_n 2, 1) := by decide +kernel
theorem dX3_space_32 : decode cX3_space 32 = .ok (.iaload, 1) := by decide +kernel
theorem dX3_space_33 : decode cX3_space 33 = .ok (.goto 12, 3) := by decide +kernel
theorem dX3_space_36 : decode cX3_space 36 = .ok (.aload_n 0, 1) := by decide +kernel
theorem dX3_space_37 : decode cX3_space 37 = .ok (.getfield 25, 3) := by decide +kernel
theorem dX3_space_40 : decode cX3_space 40 = .ok (.getfield 115, 3) := by decide +kernel
theorem dX3_space_43 : decode cX3_space 43 = .ok (.iload_n 2, 1) := by decide +kernel
theorem dX3_space_44 : decode cX3_space 44 = .ok (.iaload, 1) := by decide +kernel
theorem dX3_space_45 : decode cX3_space 45 = .ok (.ireturn, 1) := by decide +kernel
set_option maxRecDepth 20000 in
theorem ggX3_mend_X1_mendRows : GoodIn wsX3_mend wsX1_mendRows := goodIn_r _ [7, 8, 9, 10, 11, 12, 13, 6, 14, 15, 16, 17, 18, 19, 20, 21, 22, 23, 24, 25, 34, 35, 36, 37, 38, 39, 40, 41, 42] (by decide +kernel) (by decide +kernel)
set_option maxRecDepth 20000 in
theorem gX3_mend_X1_mendRows : GoodIn wsX3_mend (wsV RX3 118 RX1 yX1_mendRows wsX1_mendRows) := goodIn_app (goodIn_of _ (by decide +kernel)) ggX3_mend_X1_mendRows
theorem dX3_mend_0 : decode cX3_mend 0 = .ok (.aload_n 0, 1) := by decide +kernel
theorem dX3_mend_1 : decode cX3_mend 1 = .ok (.getfield 50, 3) := by decide +kernel
theorem dX3_mend_4 : decode cX3_mend 4 = .ok (.ifCond .eq 6, 3) := by decide +kernel
theorem dX3_mend_7 : decode cX3_mend 7 = .ok (.bipush (-5), 2) := by decide +kernel
theorem dX3_mend_9 : decode cX3_mend 9 = .ok (.ireturn, 1) := by decide +kernel
theorem dX3_mend_10 : decode cX3_mend 10 = .ok (.aload_n 0, 1) := by decide +kernel
theorem dX3_mend_11 : decode cX3_mend 11 = .ok (.getfield 25, 3) := by decide +kernel
theorem dX3_mend_14 : decode cX3_mend 14 = .ok (.invokevirtual 118, 3) := by decide +kernel
theorem dX3_mend_17 : decode cX3_mend 17 = .ok (.ireturn, 1) := by decide +kernel
set_option maxRecDepth 20000 in
theorem ggX3_poke_X3_hasSector : GoodIn wsX3_poke wsX3_hasSector := goodIn_r _ [7, 8, 9, 10, 11, 6, 12, 13, 28, 29, 30, 31, 32, 33, 34, 35] (by decide +kernel) (by decide +kernel)
set_option maxRecDepth 20000 in
theorem gX3_poke_X3_hasSector : GoodIn wsX3_poke (wsV RX3 54 RX3 yX3_hasSector wsX3_hasSector) := goodIn_app (goodIn_of _ (by decide +kernel)) ggX3_poke_X3_hasSector
set_option maxRecDepth 20000 in
theorem ggX3_poke_X3_isByteNumber : GoodIn wsX3_poke wsX3_isByteNumber := goodIn_r _ [16] (by decide +kernel) (by decide +kernel)
set_option maxRecDepth 20000 in
theorem gX3_poke_X3_isByteNumber : GoodIn wsX3_poke (va_wsS RX3 65 yX3_isByteNumber wsX3_isByteNumber) := goodIn_app (goodIn_of _ (by decide +kernel)) ggX3_poke_X3_isByteNumber
set_option maxRecDepth 20000 in
theorem ggX3_poke_X1_firstByte : GoodIn wsX3_poke wsX1_firstByte := goodIn_r _ [21, 22, 23, 24, 25, 20, 26, 27, 36, 37, 38, 39, 40, 41, 42, 43, 44] (by decide +kernel) (by decide +kernel)
set_option maxRecDepth 20000 in
theorem gX3_poke_X1_firstByte : GoodIn wsX3_poke (wsV RX3 80 RX1 yX1_firstByte wsX1_firstByte) := goodIn_app (goodIn_of _ (by decide +kernel)) ggX3_poke_X1_firstByte
theorem dX3_poke_0 : decode cX3_poke 0 = .ok (.aload_n 0, 1) := by decide +kernel
theorem dX3_poke_1 : decode cX3_poke 1 = .ok (.iload_n 1, 1) := by decide +kernel
theorem dX3_poke_2 : decode cX3_poke 2 = .ok (.iload_n 2, 1) := by decide +kernel
theorem dX3_poke_3 : decode cX3_poke 3 = .ok (.invokevirtual 54, 3) := by decide +kernel
theorem dX3_poke_6 : decode cX3_poke 6 = .ok (.ifCond .ne 6, 3) := by decide +kernel
theorem dX3_poke_9 : decode cX3_poke 9 = .ok (.bipush (-2), 2) := by decide +kernel
theorem dX3_poke_11 : decode cX3_poke 11 = .ok (.ireturn, 1) := by decide +kernel
theorem dX3_poke_12 : decode cX3_poke 12 = .ok (.iload 4, 2) := by decide +kernel
theorem dX3_poke_14 : decode cX3_poke 14 = .ok (.sipush 255, 3) := by decide +kernel
theorem dX3_poke_17 : decode cX3_poke 17 = .ok (.iand, 1) := by decide +kernel
theorem dX3_poke_18 : decode cX3_poke 18 = .ok (.istore 5, 2) := by decide +kernel
theorem dX3_poke_20 : decode cX3_poke 20 = .ok (.iload_n 3, 1) := by decide +kernel
theorem dX3_poke_21 : decode cX3_poke 21 = .ok (.invokestatic 65, 3) := by decide +kernel
theorem dX3_poke_24 : decode cX3_poke 24 = .ok (.ifCond .eq 8, 3) := by decide +kernel
theorem dX3_poke_27 : decode cX3_poke 27 = .ok (.iload 5, 2) := by decide +kernel
theorem dX3_poke_29 : decode cX3_poke 29 = .ok (.ifCond .ne 6, 3) := by decide +kernel
theorem dX3_poke_32 : decode cX3_poke 32 = .ok (.bipush (-4), 2) := by decide +kernel
theorem dX3_poke_34 : decode cX3_poke 34 = .ok (.ireturn, 1) := by decide +kernel
theorem dX3_poke_35 : decode cX3_poke 35 = .ok (.aload_n 0, 1) := by decide +kernel
theorem dX3_poke_36 : decode cX3_poke 36 = .ok (.getfield 25, 3) := by decide +kernel
theorem dX3_poke_39 : decode cX3_poke 39 = .ok (.iload_n 1, 1) := by decide +kernel
theorem dX3_poke_40 : decode cX3_poke 40 = .ok (.iload_n 2, 1) := by decide +kernel
theorem dX3_poke_41 : decode cX3_poke 41 = .ok (.invokevirtual 80, 3) := by decide +kernel
theorem dX3_poke_44 : decode cX3_poke 44 = .ok (.iload_n 3, 1) := by decide +kernel
theorem dX3_poke_45 : decode cX3_poke 45 = .ok (.iadd, 1) := by decide +kernel
theorem dX3_poke_46 : decode cX3_poke 46 = .ok (.istore 6, 2) := by decide +kernel
theorem dX3_poke_48 : decode cX3_poke 48 = .ok (.aload_n 0, 1) := by decide +kernel
theorem dX3_poke_49 : decode cX3_poke 49 = .ok (.getfield 25, 3) := by decide +kernel
theorem dX3_poke_52 : decode cX3_poke 52 = .ok (.getfield 76, 3) := by decide +kernel
theorem dX3_poke_55 : decode cX3_poke 55 = .ok (.iload 6, 2) := by decide +kernel
theorem dX3_poke_57 : decode cX3_poke 57 = .ok (.baload, 1) := by decide +kernel
theorem dX3_poke_58 : decode cX3_poke 58 = .ok (.sipush 255, 3) := by decide +kernel
theorem dX3_poke_61 : decode cX3_poke 61 = .ok (.iand, 1) := by decide +kernel
theorem dX3_poke_62 : decode cX3_poke 62 = .ok (.istore 7, 2) := by decide +kernel
theorem dX3_poke_64 : decode cX3_poke 64 = .ok (.aload_n 0, 1) := by decide +kernel
theorem dX3_poke_65 : decode cX3_poke 65 = .ok (.getfield 25, 3) := by decide +kernel
theorem dX3_poke_68 : decode cX3_poke 68 = .ok (.getfield 76, 3) := by decide +kernel
theorem dX3_poke_71 : decode cX3_poke 71 = .ok (.iload 6, 2) := by decide +kernel
theorem dX3_poke_73 : decode cX3_poke 73 = .ok (.iload 7, 2) := by decide +kernel
theorem dX3_poke_75 : decode cX3_poke 75 = .ok (.iload 5, 2) := by decide +kernel
theorem dX3_poke_77 : decode cX3_poke 77 = .ok (.ixor, 1) := by decide +kernel
theorem dX3_poke_78 : decode cX3_poke 78 = .ok (.i2b, 1) := by decide +kernel
theorem dX3_poke_79 : decode cX3_poke 79 = .ok (.bastore, 1) := by decide +kernel
theorem dX3_poke_80 : decode cX3_poke 80 = .ok (.iload 7, 2) := by decide +kernel
theorem dX3_poke_82 : decode cX3_poke 82 = .ok (.ireturn, 1) := by decide +kernel
set_option maxRecDepth 20000 in
theorem ggX3_wrong_X1_wrongSectors : GoodIn wsX3_wrong wsX1_wrongSectors := goodIn_r _ [6, 7, 8, 9, 10, 11, 5, 12, 13, 14, 15, 16, 17, 18, 19, 20, 21, 22, 23, 24, 37, 38, 39, 40, 41, 42, 43, 44, 45] (by decide +kernel) (by decide +kernel)
set_option maxRecDepth 20000 in
theorem gX3_wrong_X1_wrongSectors : GoodIn wsX3_wrong (wsV RX3 105 RX1 yX1_wrongSectors wsX1_wrongSectors) := goodIn_app (goodIn_of _ (by decide +kernel)) ggX3_wrong_X1_wrongSectors
set_option maxRecDepth 20000 in
theorem ggX3_wrong_X1_firstWrong : GoodIn wsX3_wrong wsX1_firstWrong := goodIn_r _ [28, 7, 8, 9, 10, 11, 5, 12, 13, 14, 15, 16, 17, 18, 19, 20, 21, 22, 23, 24, 37, 38, 39, 40, 41, 42, 43, 44, 45] (by decide +kernel) (by decide +kernel)
set_option maxRecDepth 20000 in
theorem gX3_wrong_X1_firstWrong : GoodIn wsX3_wrong (wsV RX3 121 RX1 yX1_firstWrong wsX1_firstWrong) := goodIn_app (goodIn_of _ (by decide +kernel)) ggX3_wrong_X1_firstWrong
theorem dX3_wrong_0 : decode cX3_wrong 0 = .ok (.iload_n 1, 1) := by decide +kernel
theorem dX3_wrong_1 : decode cX3_wrong 1 = .ok (.ifCond .ne 11, 3) := by decide +kernel
theorem dX3_wrong_4 : decode cX3_wrong 4 = .ok (.aload_n 0, 1) := by decide +kernel
theorem dX3_wrong_5 : decode cX3_wrong 5 = .ok (.getfield 25, 3) := by decide +kernel
theorem dX3_wrong_8 : decode cX3_wrong 8 = .ok (.invokevirtual 105, 3) := by decide +kernel
theorem dX3_wrong_11 : decode cX3_wrong 11 = .ok (.ireturn, 1) := by decide +kernel
theorem dX3_wrong_12 : decode cX3_wrong 12 = .ok (.iload_n 1, 1) := by decide +kernel
theorem dX3_wrong_13 : decode cX3_wrong 13 = .ok (.iconst 1, 1) := by decide +kernel
theorem dX3_wrong_14 : decode cX3_wrong 14 = .ok (.if_icmp .eq 10, 3) := by decide +kernel
theorem dX3_wrong_17 : decode cX3_wrong 17 = .ok (.iload_n 1, 1) := by decide +kernel
theorem dX3_wrong_18 : decode cX3_wrong 18 = .ok (.iconst 2, 1) := by decide +kernel
theorem dX3_wrong_19 : decode cX3_wrong 19 = .ok (.if_icmp .eq 5, 3) := by decide +kernel
theorem dX3_wrong_22 : decode cX3_wrong 22 = .ok (.iconst (-1), 1) := by decide +kernel
theorem dX3_wrong_23 : decode cX3_wrong 23 = .ok (.ireturn, 1) := by decide +kernel
theorem dX3_wrong_24 : decode cX3_wrong 24 = .ok (.aload_n 0, 1) := by decide +kernel
theorem dX3_wrong_25 : decode cX3_wrong 25 = .ok (.getfield 25, 3) := by decide +kernel
theorem dX3_wrong_28 : decode cX3_wrong 28 = .ok (.invokevirtual 121, 3) := by decide +kernel
theorem dX3_wrong_31 : decode cX3_wrong 31 = .ok (.istore_n 2, 1) := by decide +kernel
theorem dX3_wrong_32 : decode cX3_wrong 32 = .ok (.iload_n 2, 1) := by decide +kernel
theorem dX3_wrong_33 : decode cX3_wrong 33 = .ok (.iconst (-1), 1) := by decide +kernel
theorem dX3_wrong_34 : decode cX3_wrong 34 = .ok (.if_icmp .ne 5, 3) := by decide +kernel
theorem dX3_wrong_37 : decode cX3_wrong 37 = .ok (.iconst (-1), 1) := by decide +kernel
theorem dX3_wrong_38 : decode cX3_wrong 38 = .ok (.ireturn, 1) := by decide +kernel
theorem dX3_wrong_39 : decode cX3_wrong 39 = .ok (.iload_n 1, 1) := by decide +kernel
theorem dX3_wrong_40 : decode cX3_wrong 40 = .ok (.iconst 1, 1) := by decide +kernel
theorem dX3_wrong_41 : decode cX3_wrong 41 = .ok (.if_icmp .ne 10, 3) := by decide +kernel
theorem dX3_wrong_44 : decode cX3_wrong 44 = .ok (.iload_n 2, 1) := by decide +kernel
theorem dX3_wrong_45 : decode cX3_wrong 45 = .ok (.bipush 8, 2) := by decide +kernel
theorem dX3_wrong_47 : decode cX3_wrong 47 = .ok (.idiv, 1) := by decide +kernel
theorem dX3_wrong_48 : decode cX3_wrong 48 = .ok (.goto 7, 3) := by decide +kernel
theorem dX3_wrong_51 : decode cX3_wrong 51 = .ok (.iload_n 2, 1) := by decide +kernel
theorem dX3_wrong_52 : decode cX3_wrong 52 = .ok (.bipush 8, 2) := by decide +kernel
theorem dX3_wrong_54 : decode cX3_wrong 54 = .ok (.irem, 1) := by decide +kernel
theorem dX3_wrong_55 : decode cX3_wrong 55 = .ok (.ireturn, 1) := by decide +kernel
set_option maxRecDepth 20000 in
theorem ggX3_alternate_X3_hasTrack : GoodIn wsX3_alternate wsX3_hasTrack := goodIn_r _ [8, 9, 46, 47, 48, 49, 50, 51, 52, 53] (by decide +kernel) (by decide +kernel)
set_option maxRecDepth 20000 in
theorem gX3_alternate_X3_hasTrack : GoodIn wsX3_alternate (wsV RX3 109 RX3 yX3_hasTrack wsX3_hasTrack) := goodIn_app (goodIn_of _ (by decide +kernel)) ggX3_alternate_X3_hasTrack
set_option maxRecDepth 20000 in
theorem ggX3_alternate_X1_isSent : GoodIn wsX3_alternate wsX1_isSent := goodIn_r _ [14, 15, 16, 54, 55, 56, 57, 58, 59, 60, 61, 62] (by decide +kernel) (by decide +kernel)
set_option maxRecDepth 20000 in
theorem gX3_alternate_X1_isSent : GoodIn wsX3_alternate (wsV RX3 124 RX1 yX1_isSent wsX1_isSent) := goodIn_app (goodIn_of _ (by decide +kernel)) ggX3_alternate_X1_isSent
set_option maxRecDepth 20000 in
theorem ggX3_alternate_X1_send : GoodIn wsX3_alternate wsX1_send := goodIn_r _ [20, 16, 21, 22, 23, 24, 25, 26, 27, 15, 28, 29, 30, 13, 31, 32, 33, 34, 35, 36, 37, 38, 39, 40, 41, 42, 43, 44, 45, 54, 55, 56, 57, 58, 59, 60, 61, 62] (by decide +kernel) (by decide +kernel)
set_option maxRecDepth 20000 in
theorem gX3_alternate_X1_send : GoodIn wsX3_alternate (wsV RX3 130 RX1 yX1_send wsX1_send) := goodIn_app (goodIn_of _ (by decide +kernel)) ggX3_alternate_X1_send
theorem dX3_alternate_0 : decode cX3_alternate 0 = .ok (.aload_n 0, 1) := by decide +kernel
theorem dX3_alternate_1 : decode cX3_alternate 1 = .ok (.iload_n 1, 1) := by decide +kernel
theorem dX3_alternate_2 : decode cX3_alternate 2 = .ok (.invokevirtual 109, 3) := by decide +kernel
theorem dX3_alternate_5 : decode cX3_alternate 5 = .ok (.ifCond .ne 6, 3) := by decide +kernel
theorem dX3_alternate_8 : decode cX3_alternate 8 = .ok (.bipush (-2), 2) := by decide +kernel
theorem dX3_alternate_10 : decode cX3_alternate 10 = .ok (.ireturn, 1) := by decide +kernel
theorem dX3_alternate_11 : decode cX3_alternate 11 = .ok (.aload_n 0, 1) := by decide +kernel
theorem dX3_alternate_12 : decode cX3_alternate 12 = .ok (.getfield 50, 3) := by decide +kernel
theorem dX3_alternate_15 : decode cX3_alternate 15 = .ok (.ifCond .eq 6, 3) := by decide +kernel
theorem dX3_alternate_18 : decode cX3_alternate 18 = .ok (.bipush (-5), 2) := by decide +kernel
theorem dX3_alternate_20 : decode cX3_alternate 20 = .ok (.ireturn, 1) := by decide +kernel
theorem dX3_alternate_21 : decode cX3_alternate 21 = .ok (.aload_n 0, 1) := by decide +kernel
theorem dX3_alternate_22 : decode cX3_alternate 22 = .ok (.getfield 25, 3) := by decide +kernel
theorem dX3_alternate_25 : decode cX3_alternate 25 = .ok (.iload_n 1, 1) := by decide +kernel
theorem dX3_alternate_26 : decode cX3_alternate 26 = .ok (.invokevirtual 124, 3) := by decide +kernel
theorem dX3_alternate_29 : decode cX3_alternate 29 = .ok (.ifCond .ne 14, 3) := by decide +kernel
theorem dX3_alternate_32 : decode cX3_alternate 32 = .ok (.aload_n 0, 1) := by decide +kernel
theorem dX3_alternate_33 : decode cX3_alternate 33 = .ok (.getfield 25, 3) := by decide +kernel
theorem dX3_alternate_36 : decode cX3_alternate 36 = .ok (.getfield 127, 3) := by decide +kernel
theorem dX3_alternate_39 : decode cX3_alternate 39 = .ok (.iconst 2, 1) := by decide +kernel
theorem dX3_alternate_40 : decode cX3_alternate 40 = .ok (.if_icmp .lt 5, 3) := by decide +kernel
theorem dX3_alternate_43 : decode cX3_alternate 43 = .ok (.iconst 0, 1) := by decide +kernel
theorem dX3_alternate_44 : decode cX3_alternate 44 = .ok (.ireturn, 1) := by decide +kernel
theorem dX3_alternate_45 : decode cX3_alternate 45 = .ok (.aload_n 0, 1) := by decide +kernel
theorem dX3_alternate_46 : decode cX3_alternate 46 = .ok (.getfield 25, 3) := by decide +kernel
theorem dX3_alternate_49 : decode cX3_alternate 49 = .ok (.iload_n 1, 1) := by decide +kernel
theorem dX3_alternate_50 : decode cX3_alternate 50 = .ok (.invokevirtual 130, 3) := by decide +kernel
theorem dX3_alternate_53 : decode cX3_alternate 53 = .ok (.ireturn, 1) := by decide +kernel
set_option maxRecDepth 20000 in
theorem ggX3_dump_X1_init : GoodIn wsX3_dump wsX1_init := goodIn_r _ [13, 14, 15, 16, 17, 18, 19, 20, 21, 22, 23, 24, 25, 26, 27, 28, 29, 30, 5, 31, 32, 33, 34, 35, 36, 37, 38, 39, 40, 57, 58, 59, 60, 61, 62, 63, 64, 65] (by decide +kernel) (by decide +kernel)
set_option maxRecDepth 20000 in
theorem gX3_dump_X1_init : GoodIn wsX3_dump (wsX1_init) := ggX3_dump_X1_init
set_option maxRecDepth 20000 in
theorem ggX3_dump_X1_takeOver : GoodIn wsX3_dump wsX1_takeOver := goodIn_r _ [44, 20, 45, 46, 47, 48, 22, 23, 24, 25, 26, 27, 57, 58, 59, 60, 61, 62, 63, 64, 65] (by decide +kernel) (by decide +kernel)
set_option maxRecDepth 20000 in
theorem gX3_dump_X1_takeOver : GoodIn wsX3_dump (wsV RX3 134 RX1 yX1_takeOver wsX1_takeOver) := goodIn_app (goodIn_of _ (by decide +kernel)) ggX3_dump_X1_takeOver
theorem dX3_dump_0 : decode cX3_dump 0 = .ok (.aload_n 0, 1) := by decide +kernel
theorem dX3_dump_1 : decode cX3_dump 1 = .ok (.getfield 50, 3) := by decide +kernel
theorem dX3_dump_4 : decode cX3_dump 4 = .ok (.ifCond .eq 6, 3) := by decide +kernel
theorem dX3_dump_7 : decode cX3_dump 7 = .ok (.bipush (-5), 2) := by decide +kernel
theorem dX3_dump_9 : decode cX3_dump 9 = .ok (.ireturn, 1) := by decide +kernel
theorem dX3_dump_10 : decode cX3_dump 10 = .ok (.aload_n 0, 1) := by decide +kernel
theorem dX3_dump_11 : decode cX3_dump 11 = .ok (.getfield 33, 3) := by decide +kernel
theorem dX3_dump_14 : decode cX3_dump 14 = .ok (.iconst 5, 1) := by decide +kernel
theorem dX3_dump_15 : decode cX3_dump 15 = .ok (.if_icmp .lt 5, 3) := by decide +kernel
theorem dX3_dump_18 : decode cX3_dump 18 = .ok (.iconst (-1), 1) := by decide +kernel
theorem dX3_dump_19 : decode cX3_dump 19 = .ok (.ireturn, 1) := by decide +kernel
theorem dX3_dump_20 : decode cX3_dump 20 = .ok (.new 20, 3) := by decide +kernel
theorem dX3_dump_23 : decode cX3_dump 23 = .ok (.dup, 1) := by decide +kernel
theorem dX3_dump_24 : decode cX3_dump 24 = .ok (.aload_n 0, 1) := by decide +kernel
theorem dX3_dump_25 : decode cX3_dump 25 = .ok (.getfield 13, 3) := by decide +kernel
theorem dX3_dump_28 : decode cX3_dump 28 = .ok (.aload_n 0, 1) := by decide +kernel
theorem dX3_dump_29 : decode cX3_dump 29 = .ok (.getfield 17, 3) := by decide +kernel
theorem dX3_dump_32 : decode cX3_dump 32 = .ok (.invokespecial 22, 3) := by decide +kernel
theorem dX3_dump_35 : decode cX3_dump 35 = .ok (.astore_n 2, 1) := by decide +kernel
theorem dX3_dump_36 : decode cX3_dump 36 = .ok (.aload_n 2, 1) := by decide +kernel
theorem dX3_dump_37 : decode cX3_dump 37 = .ok (.aload_n 0, 1) := by decide +kernel
theorem dX3_dump_38 : decode cX3_dump 38 = .ok (.getfield 25, 3) := by decide +kernel
theorem dX3_dump_41 : decode cX3_dump 41 = .ok (.invokevirtual 134, 3) := by decide +kernel
theorem dX3_dump_44 : decode cX3_dump 44 = .ok (.aload_n 2, 1) := by decide +kernel
theorem dX3_dump_45 : decode cX3_dump 45 = .ok (.iload_n 1, 1) := by decide +kernel
theorem dX3_dump_46 : decode cX3_dump 46 = .ok (.putfield 138, 3) := by decide +kernel
theorem dX3_dump_49 : decode cX3_dump 49 = .ok (.aload_n 0, 1) := by decide +kernel
theorem dX3_dump_50 : decode cX3_dump 50 = .ok (.getfield 29, 3) := by decide +kernel
theorem dX3_dump_53 : decode cX3_dump 53 = .ok (.aload_n 0, 1) := by decide +kernel
theorem dX3_dump_54 : decode cX3_dump 54 = .ok (.getfield 33, 3) := by decide +kernel
theorem dX3_dump_57 : decode cX3_dump 57 = .ok (.aload_n 2, 1) := by decide +kernel
theorem dX3_dump_58 : decode cX3_dump 58 = .ok (.aastore, 1) := by decide +kernel
theorem dX3_dump_59 : decode cX3_dump 59 = .ok (.aload_n 0, 1) := by decide +kernel
theorem dX3_dump_60 : decode cX3_dump 60 = .ok (.dup, 1) := by decide +kernel
theorem dX3_dump_61 : decode cX3_dump 61 = .ok (.getfield 33, 3) := by decide +kernel
theorem dX3_dump_64 : decode cX3_dump 64 = .ok (.iconst 1, 1) := by decide +kernel
theorem dX3_dump_65 : decode cX3_dump 65 = .ok (.iadd, 1) := by decide +kernel
theorem dX3_dump_66 : decode cX3_dump 66 = .ok (.putfield 33, 3) := by decide +kernel
theorem dX3_dump_69 : decode cX3_dump 69 = .ok (.aload_n 0, 1) := by decide +kernel
theorem dX3_dump_70 : decode cX3_dump 70 = .ok (.getfield 33, 3) := by decide +kernel
theorem dX3_dump_73 : decode cX3_dump 73 = .ok (.ireturn, 1) := by decide +kernel
set_option maxRecDepth 20000 in
theorem ggX3_restore_X3_dumpOf : GoodIn wsX3_restore wsX3_dumpOf := goodIn_r _ [9, 10, 11, 34, 35, 36, 37, 38, 39, 40, 41] (by decide +kernel) (by decide +kernel)
set_option maxRecDepth 20000 in
theorem gX3_restore_X3_dumpOf : GoodIn wsX3_restore (wsV RX3 141 RX3 yX3_dumpOf wsX3_dumpOf) := goodIn_app (goodIn_of _ (by decide +kernel)) ggX3_restore_X3_dumpOf
set_option maxRecDepth 20000 in
theorem ggX3_restore_X1_takeOver : GoodIn wsX3_restore wsX1_takeOver := goodIn_r _ [16, 17, 18, 19, 20, 21, 22, 23, 24, 25, 26, 27, 42, 43, 44, 45, 46, 47, 48, 49, 50] (by decide +kernel) (by decide +kernel)
set_option maxRecDepth 20000 in
theorem gX3_restore_X1_takeOver : GoodIn wsX3_restore (wsV RX3 134 RX1 yX1_takeOver wsX1_takeOver) := goodIn_app (goodIn_of _ (by decide +kernel)) ggX3_restore_X1_takeOver
set_option maxRecDepth 20000 in
theorem ggX3_restore_X2_drop : GoodIn wsX3_restore wsX2_drop := goodIn_r _ [32, 33, 51, 52, 53, 54] (by decide +kernel) (by decide +kernel)
set_option maxRecDepth 20000 in
theorem gX3_restore_X2_drop : GoodIn wsX3_restore (wsV RX3 88 RX2 yX2_drop wsX2_drop) := goodIn_app (goodIn_of _ (by decide +kernel)) ggX3_restore_X2_drop
theorem dX3_restore_0 : decode cX3_restore 0 = .ok (.aload_n 0, 1) := by decide +kernel
theorem dX3_restore_1 : decode cX3_restore 1 = .ok (.iload_n 1, 1) := by decide +kernel
theorem dX3_restore_2 : decode cX3_restore 2 = .ok (.invokevirtual 141, 3) := by decide +kernel
theorem dX3_restore_5 : decode cX3_restore 5 = .ok (.astore_n 3, 1) := by decide +kernel
theorem dX3_restore_6 : decode cX3_restore 6 = .ok (.aload_n 3, 1) := by decide +kernel
theorem dX3_restore_7 : decode cX3_restore 7 = .ok (.ifnonnull 6, 3) := by decide +kernel
theorem dX3_restore_10 : decode cX3_restore 10 = .ok (.bipush (-2), 2) := by decide +kernel
theorem dX3_restore_12 : decode cX3_restore 12 = .ok (.ireturn, 1) := by decide +kernel
theorem dX3_restore_13 : decode cX3_restore 13 = .ok (.aload_n 0, 1) := by decide +kernel
theorem dX3_restore_14 : decode cX3_restore 14 = .ok (.getfield 50, 3) := by decide +kernel
theorem dX3_restore_17 : decode cX3_restore 17 = .ok (.ifCond .eq 6, 3) := by decide +kernel
theorem dX3_restore_20 : decode cX3_restore 20 = .ok (.bipush (-5), 2) := by decide +kernel
theorem dX3_restore_22 : decode cX3_restore 22 = .ok (.ireturn, 1) := by decide +kernel
theorem dX3_restore_23 : decode cX3_restore 23 = .ok (.aload_n 3, 1) := by decide +kernel
theorem dX3_restore_24 : decode cX3_restore 24 = .ok (.getfield 138, 3) := by decide +kernel
theorem dX3_restore_27 : decode cX3_restore 27 = .ok (.iload_n 2, 1) := by decide +kernel
theorem dX3_restore_28 : decode cX3_restore 28 = .ok (.if_icmp .eq 5, 3) := by decide +kernel
theorem dX3_restore_31 : decode cX3_restore 31 = .ok (.iconst 0, 1) := by decide +kernel
theorem dX3_restore_32 : decode cX3_restore 32 = .ok (.ireturn, 1) := by decide +kernel
theorem dX3_restore_33 : decode cX3_restore 33 = .ok (.aload_n 0, 1) := by decide +kernel
theorem dX3_restore_34 : decode cX3_restore 34 = .ok (.getfield 25, 3) := by decide +kernel
theorem dX3_restore_37 : decode cX3_restore 37 = .ok (.aload_n 3, 1) := by decide +kernel
theorem dX3_restore_38 : decode cX3_restore 38 = .ok (.invokevirtual 134, 3) := by decide +kernel
theorem dX3_restore_41 : decode cX3_restore 41 = .ok (.aload_n 0, 1) := by decide +kernel
theorem dX3_restore_42 : decode cX3_restore 42 = .ok (.getfield 39, 3) := by decide +kernel
theorem dX3_restore_45 : decode cX3_restore 45 = .ok (.invokevirtual 88, 3) := by decide +kernel
theorem dX3_restore_48 : decode cX3_restore 48 = .ok (.iconst 1, 1) := by decide +kernel
theorem dX3_restore_49 : decode cX3_restore 49 = .ok (.ireturn, 1) := by decide +kernel
set_option maxRecDepth 20000 in
theorem ggX3_tape_X0_record : GoodIn wsX3_tape wsX0_record := goodIn_r _ [8, 9, 10, 11, 20, 21, 22] (by decide +kernel) (by decide +kernel)
set_option maxRecDepth 20000 in
theorem gX3_tape_X0_record : GoodIn wsX3_tape (wsV RX3 148 RX0 yX0_record wsX0_record) := goodIn_app (goodIn_of _ (by decide +kernel)) ggX3_tape_X0_record
theorem dX3_tape_0 : decode cX3_tape 0 = .ok (.iload_n 1, 1) := by decide +kernel
theorem dX3_tape_1 : decode cX3_tape 1 = .ok (.ifCond .ge 14, 3) := by decide +kernel
theorem dX3_tape_4 : decode cX3_tape 4 = .ok (.aload_n 0, 1) := by decide +kernel
theorem dX3_tape_5 : decode cX3_tape 5 = .ok (.getfield 46, 3) := by decide +kernel
theorem dX3_tape_8 : decode cX3_tape 8 = .ok (.iconst 0, 1) := by decide +kernel
theorem dX3_tape_9 : decode cX3_tape 9 = .ok (.putfield 145, 3) := by decide +kernel
theorem dX3_tape_12 : decode cX3_tape 12 = .ok (.goto 11, 3) := by decide +kernel
theorem dX3_tape_15 : decode cX3_tape 15 = .ok (.aload_n 0, 1) := by decide +kernel
theorem dX3_tape_16 : decode cX3_tape 16 = .ok (.getfield 46, 3) := by decide +kernel
theorem dX3_tape_19 : decode cX3_tape 19 = .ok (.iload_n 1, 1) := by decide +kernel
theorem dX3_tape_20 : decode cX3_tape 20 = .ok (.invokevirtual 148, 3) := by decide +kernel
theorem dX3_tape_23 : decode cX3_tape 23 = .ok (.aload_n 0, 1) := by decide +kernel
theorem dX3_tape_24 : decode cX3_tape 24 = .ok (.getfield 46, 3) := by decide +kernel
theorem dX3_tape_27 : decode cX3_tape 27 = .ok (.getfield 151, 3) := by decide +kernel
theorem dX3_tape_30 : decode cX3_tape 30 = .ok (.ireturn, 1) := by decide +kernel
set_option maxRecDepth 20000 in
theorem ggX3_next_X0_pass : GoodIn wsX3_next wsX0_pass := goodIn_r _ [6, 7, 8, 9, 18, 19, 20] (by decide +kernel) (by decide +kernel)
set_option maxRecDepth 20000 in
theorem gX3_next_X0_pass : GoodIn wsX3_next (wsV RX3 152 RX0 yX0_pass wsX0_pass) := goodIn_app (goodIn_of _ (by decide +kernel)) ggX3_next_X0_pass
theorem dX3_next_0 : decode cX3_next 0 = .ok (.aload_n 0, 1) := by decide +kernel
theorem dX3_next_1 : decode cX3_next 1 = .ok (.getfield 46, 3) := by decide +kernel
theorem dX3_next_4 : decode cX3_next 4 = .ok (.invokevirtual 152, 3) := by decide +kernel
theorem dX3_next_7 : decode cX3_next 7 = .ok (.ireturn, 1) := by decide +kernel
set_option maxRecDepth 20000 in
theorem ggX3_count_X3_differingFromLatestDump : GoodIn wsX3_count wsX3_differingFromLatestDump := goodIn_r _ [13, 6, 7, 14, 15, 16, 12, 17, 18, 19, 20, 21, 22, 23, 24, 25, 26, 27, 28, 29, 30, 31, 32, 33, 34, 35, 36, 37, 42, 43, 44, 45, 46, 47, 48, 49, 50] (by decide +kernel) (by decide +kernel)
set_option maxRecDepth 20000 in
theorem gX3_count_X3_differingFromLatestDump : GoodIn wsX3_count (wsV RX3 155 RX3 yX3_differingFromLatestDump wsX3_differingFromLatestDump) := goodIn_app (goodIn_of _ (by decide +kernel)) ggX3_count_X3_differingFromLatestDump
theorem dX3_count_0 : decode cX3_count 0 = .ok (.iload_n 1, 1) := by decide +kernel
theorem dX3_count_1 : decode cX3_count 1 = .ok (.tableswitch 92 0 6 #[43, 48, 53, 61, 74, 79, 87], 43) := by decide +kernel
theorem dX3_count_44 : decode cX3_count 44 = .ok (.aload_n 0, 1) := by decide +kernel
theorem dX3_count_45 : decode cX3_count 45 = .ok (.getfield 13, 3) := by decide +kernel
theorem dX3_count_48 : decode cX3_count 48 = .ok (.ireturn, 1) := by decide +kernel
theorem dX3_count_49 : decode cX3_count 49 = .ok (.aload_n 0, 1) := by decide +kernel
theorem dX3_count_50 : decode cX3_count 50 = .ok (.getfield 17, 3) := by decide +kernel
theorem dX3_count_53 : decode cX3_count 53 = .ok (.ireturn, 1) := by decide +kernel
theorem dX3_count_54 : decode cX3_count 54 = .ok (.aload_n 0, 1) := by decide +kernel
theorem dX3_count_55 : decode cX3_count 55 = .ok (.getfield 39, 3) := by decide +kernel
theorem dX3_count_58 : decode cX3_count 58 = .ok (.getfield 58, 3) := by decide +kernel
theorem dX3_count_61 : decode cX3_count 61 = .ok (.ireturn, 1) := by decide +kernel
theorem dX3_count_62 : decode cX3_count 62 = .ok (.aload_n 0, 1) := by decide +kernel
theorem dX3_count_63 : decode cX3_count 63 = .ok (.getfield 50, 3) := by decide +kernel
theorem dX3_count_66 : decode cX3_count 66 = .ok (.ifCond .eq 7, 3) := by decide +kernel
theorem dX3_count_69 : decode cX3_count 69 = .ok (.iconst 1, 1) := by decide +kernel
theorem dX3_count_70 : decode cX3_count 70 = .ok (.goto 4, 3) := by decide +kernel
theorem dX3_count_73 : decode cX3_count 73 = .ok (.iconst 0, 1) := by decide +kernel
theorem dX3_count_74 : decode cX3_count 74 = .ok (.ireturn, 1) := by decide +kernel
theorem dX3_count_75 : decode cX3_count 75 = .ok (.aload_n 0, 1) := by decide +kernel
theorem dX3_count_76 : decode cX3_count 76 = .ok (.getfield 33, 3) := by decide +kernel
theorem dX3_count_79 : decode cX3_count 79 = .ok (.ireturn, 1) := by decide +kernel
theorem dX3_count_80 : decode cX3_count 80 = .ok (.aload_n 0, 1) := by decide +kernel
theorem dX3_count_81 : decode cX3_count 81 = .ok (.getfield 25, 3) := by decide +kernel
theorem dX3_count_84 : decode cX3_count 84 = .ok (.getfield 127, 3) := by decide +kernel
theorem dX3_count_87 : decode cX3_count 87 = .ok (.ireturn, 1) := by decide +kernel
theorem dX3_count_88 : decode cX3_count 88 = .ok (.aload_n 0, 1) := by decide +kernel
theorem dX3_count_89 : decode cX3_count 89 = .ok (.invokevirtual 155, 3) := by decide +kernel
theorem dX3_count_92 : decode cX3_count 92 = .ok (.ireturn, 1) := by decide +kernel
theorem dX3_count_93 : decode cX3_count 93 = .ok (.iconst (-1), 1) := by decide +kernel
theorem dX3_count_94 : decode cX3_count 94 = .ok (.ireturn, 1) := by decide +kernel
theorem dX3_held_0 : decode cX3_held 0 = .ok (.iload_n 1, 1) := by decide +kernel
theorem dX3_held_1 : decode cX3_held 1 = .ok (.iload_n 2, 1) := by decide +kernel
theorem dX3_held_2 : decode cX3_held 2 = .ok (.iload_n 0, 1) := by decide +kernel
theorem dX3_held_3 : decode cX3_held 3 = .ok (.invokestatic 158, 3) := by decide +kernel
theorem dX3_held_6 : decode cX3_held 6 = .ok (.invokestatic 163, 3) := by decide +kernel
theorem dX3_held_9 : decode cX3_held 9 = .ok (.ireturn, 1) := by decide +kernel
theorem dX3_isByteNumber_0 : decode cX3_isByteNumber 0 = .ok (.iload_n 0, 1) := by decide +kernel
theorem dX3_isByteNumber_1 : decode cX3_isByteNumber 1 = .ok (.ifCond .lt 13, 3) := by decide +kernel
theorem dX3_isByteNumber_4 : decode cX3_isByteNumber 4 = .ok (.iload_n 0, 1) := by decide +kernel
theorem dX3_isByteNumber_5 : decode cX3_isByteNumber 5 = .ok (.bipush 16, 2) := by decide +kernel
theorem dX3_isByteNumber_7 : decode cX3_isByteNumber 7 = .ok (.if_icmp .ge 7, 3) := by decide +kernel
theorem dX3_isByteNumber_10 : decode cX3_isByteNumber 10 = .ok (.iconst 1, 1) := by decide +kernel
theorem dX3_isByteNumber_11 : decode cX3_isByteNumber 11 = .ok (.goto 4, 3) := by decide +kernel
theorem dX3_isByteNumber_14 : decode cX3_isByteNumber 14 = .ok (.iconst 0, 1) := by decide +kernel
theorem dX3_isByteNumber_15 : decode cX3_isByteNumber 15 = .ok (.ireturn, 1) := by decide +kernel
theorem dX3_hasTrack_0 : decode cX3_hasTrack 0 = .ok (.iload_n 1, 1) := by decide +kernel
theorem dX3_hasTrack_1 : decode cX3_hasTrack 1 = .ok (.ifCond .lt 15, 3) := by decide +kernel
theorem dX3_hasTrack_4 : decode cX3_hasTrack 4 = .ok (.iload_n 1, 1) := by decide +kernel
theorem dX3_hasTrack_5 : decode cX3_hasTrack 5 = .ok (.aload_n 0, 1) := by decide +kernel
theorem dX3_hasTrack_6 : decode cX3_hasTrack 6 = .ok (.getfield 13, 3) := by decide +kernel
theorem dX3_hasTrack_9 : decode cX3_hasTrack 9 = .ok (.if_icmp .ge 7, 3) := by decide +kernel
theorem dX3_hasTrack_12 : decode cX3_hasTrack 12 = .ok (.iconst 1, 1) := by decide +kernel
theorem dX3_hasTrack_13 : decode cX3_hasTrack 13 = .ok (.goto 4, 3) := by decide +kernel
theorem dX3_hasTrack_16 : decode cX3_hasTrack 16 = .ok (.iconst 0, 1) := by decide +kernel
theorem dX3_hasTrack_17 : decode cX3_hasTrack 17 = .ok (.ireturn, 1) := by decide +kernel
set_option maxRecDepth 20000 in
theorem ggX3_hasSector_X3_hasTrack : GoodIn wsX3_hasSector wsX3_hasTrack := goodIn_r _ [6, 7, 8, 9, 10, 11, 12, 13, 14, 15] (by decide +kernel) (by decide +kernel)
set_option maxRecDepth 20000 in
theorem gX3_hasSector_X3_hasTrack : GoodIn wsX3_hasSector (wsV RX3 109 RX3 yX3_hasTrack wsX3_hasTrack) := goodIn_app (goodIn_of _ (by decide +kernel)) ggX3_hasSector_X3_hasTrack
theorem dX3_hasSector_0 : decode cX3_hasSector 0 = .ok (.aload_n 0, 1) := by decide +kernel
theorem dX3_hasSector_1 : decode cX3_hasSector 1 = .ok (.iload_n 1, 1) := by decide +kernel
theorem dX3_hasSector_2 : decode cX3_hasSector 2 = .ok (.invokevirtual 109, 3) := by decide +kernel
theorem dX3_hasSector_5 : decode cX3_hasSector 5 = .ok (.ifCond .eq 19, 3) := by decide +kernel
theorem dX3_hasSector_8 : decode cX3_hasSector 8 = .ok (.iload_n 2, 1) := by decide +kernel
theorem dX3_hasSector_9 : decode cX3_hasSector 9 = .ok (.ifCond .lt 15, 3) := by decide +kernel
theorem dX3_hasSector_12 : decode cX3_hasSector 12 = .ok (.iload_n 2, 1) := by decide +kernel
theorem dX3_hasSector_13 : decode cX3_hasSector 13 = .ok (.aload_n 0, 1) := by decide +kernel
theorem dX3_hasSector_14 : decode cX3_hasSector 14 = .ok (.getfield 17, 3) := by decide +kernel
theorem dX3_hasSector_17 : decode cX3_hasSector 17 = .ok (.if_icmp .ge 7, 3) := by decide +kernel
theorem dX3_hasSector_20 : decode cX3_hasSector 20 = .ok (.iconst 1, 1) := by decide +kernel
theorem dX3_hasSector_21 : decode cX3_hasSector 21 = .ok (.goto 4, 3) := by decide +kernel
theorem dX3_hasSector_24 : decode cX3_hasSector 24 = .ok (.iconst 0, 1) := by decide +kernel
theorem dX3_hasSector_25 : decode cX3_hasSector 25 = .ok (.ireturn, 1) := by decide +kernel
set_option maxRecDepth 20000 in
theorem ggX3_layFirst_X1_lay : GoodIn wsX3_layFirst wsX1_lay := goodIn_r _ [10, 11, 12, 13, 14, 15, 16, 17, 9, 18, 19, 20, 21, 22, 23, 24, 25, 26, 27, 28, 29, 30, 31, 32, 33, 46, 47, 48, 49, 50, 51, 52, 53, 54] (by decide +kernel) (by decide +kernel)
set_option maxRecDepth 20000 in
theorem gX3_layFirst_X1_lay : GoodIn wsX3_layFirst (wsV RX3 166 RX1 yX1_lay wsX1_lay) := goodIn_app (goodIn_of _ (by decide +kernel)) ggX3_layFirst_X1_lay
theorem dX3_layFirst_0 : decode cX3_layFirst 0 = .ok (.iconst 0, 1) := by decide +kernel
theorem dX3_layFirst_1 : decode cX3_layFirst 1 = .ok (.istore_n 2, 1) := by decide +kernel
theorem dX3_layFirst_2 : decode cX3_layFirst 2 = .ok (.iload_n 2, 1) := by decide +kernel
theorem dX3_layFirst_3 : decode cX3_layFirst 3 = .ok (.iload_n 1, 1) := by decide +kernel
theorem dX3_layFirst_4 : decode cX3_layFirst 4 = .ok (.if_icmp .ge 43, 3) := by decide +kernel
theorem dX3_layFirst_7 : decode cX3_layFirst 7 = .ok (.aload_n 0, 1) := by decide +kernel
theorem dX3_layFirst_8 : decode cX3_layFirst 8 = .ok (.getfield 25, 3) := by decide +kernel
theorem dX3_layFirst_11 : decode cX3_layFirst 11 = .ok (.aload_n 0, 1) := by decide +kernel
theorem dX3_layFirst_12 : decode cX3_layFirst 12 = .ok (.getfield 39, 3) := by decide +kernel
theorem dX3_layFirst_15 : decode cX3_layFirst 15 = .ok (.getfield 91, 3) := by decide +kernel
theorem dX3_layFirst_18 : decode cX3_layFirst 18 = .ok (.iload_n 2, 1) := by decide +kernel
theorem dX3_layFirst_19 : decode cX3_layFirst 19 = .ok (.iaload, 1) := by decide +kernel
theorem dX3_layFirst_20 : decode cX3_layFirst 20 = .ok (.aload_n 0, 1) := by decide +kernel
theorem dX3_layFirst_21 : decode cX3_layFirst 21 = .ok (.getfield 39, 3) := by decide +kernel
theorem dX3_layFirst_24 : decode cX3_layFirst 24 = .ok (.getfield 95, 3) := by decide +kernel
theorem dX3_layFirst_27 : decode cX3_layFirst 27 = .ok (.iload_n 2, 1) := by decide +kernel
theorem dX3_layFirst_28 : decode cX3_layFirst 28 = .ok (.iaload, 1) := by decide +kernel
theorem dX3_layFirst_29 : decode cX3_layFirst 29 = .ok (.aload_n 0, 1) := by decide +kernel
theorem dX3_layFirst_30 : decode cX3_layFirst 30 = .ok (.getfield 39, 3) := by decide +kernel
theorem dX3_layFirst_33 : decode cX3_layFirst 33 = .ok (.getfield 98, 3) := by decide +kernel
theorem dX3_layFirst_36 : decode cX3_layFirst 36 = .ok (.iload_n 2, 1) := by decide +kernel
theorem dX3_layFirst_37 : decode cX3_layFirst 37 = .ok (.baload, 1) := by decide +kernel
theorem dX3_layFirst_38 : decode cX3_layFirst 38 = .ok (.invokevirtual 166, 3) := by decide +kernel
theorem dX3_layFirst_41 : decode cX3_layFirst 41 = .ok (.iinc 2 1, 3) := by decide +kernel
theorem dX3_layFirst_44 : decode cX3_layFirst 44 = .ok (.goto (-42), 3) := by decide +kernel
theorem dX3_layFirst_47 : decode cX3_layFirst 47 = .ok (.return_, 1) := by decide +kernel
theorem dX3_dumpOf_0 : decode cX3_dumpOf 0 = .ok (.iload_n 1, 1) := by decide +kernel
theorem dX3_dumpOf_1 : decode cX3_dumpOf 1 = .ok (.iconst 1, 1) := by decide +kernel
theorem dX3_dumpOf_2 : decode cX3_dumpOf 2 = .ok (.if_icmp .lt 22, 3) := by decide +kernel
theorem dX3_dumpOf_5 : decode cX3_dumpOf 5 = .ok (.iload_n 1, 1) := by decide +kernel
theorem dX3_dumpOf_6 : decode cX3_dumpOf 6 = .ok (.aload_n 0, 1) := by decide +kernel
theorem dX3_dumpOf_7 : decode cX3_dumpOf 7 = .ok (.getfield 33, 3) := by decide +kernel
theorem dX3_dumpOf_10 : decode cX3_dumpOf 10 = .ok (.if_icmp .gt 14, 3) := by decide +kernel
theorem dX3_dumpOf_13 : decode cX3_dumpOf 13 = .ok (.aload_n 0, 1) := by decide +kernel
theorem dX3_dumpOf_14 : decode cX3_dumpOf 14 = .ok (.getfield 29, 3) := by decide +kernel
theorem dX3_dumpOf_17 : decode cX3_dumpOf 17 = .ok (.iload_n 1, 1) := by decide +kernel
theorem dX3_dumpOf_18 : decode cX3_dumpOf 18 = .ok (.iconst 1, 1) := by decide +kernel
theorem dX3_dumpOf_19 : decode cX3_dumpOf 19 = .ok (.isub, 1) := by decide +kernel
theorem dX3_dumpOf_20 : decode cX3_dumpOf 20 = .ok (.aaload, 1) := by decide +kernel
theorem dX3_dumpOf_21 : decode cX3_dumpOf 21 = .ok (.goto 4, 3) := by decide +kernel
theorem dX3_dumpOf_24 : decode cX3_dumpOf 24 = .ok (.aconst_null, 1) := by decide +kernel
theorem dX3_dumpOf_25 : decode cX3_dumpOf 25 = .ok (.areturn, 1) := by decide +kernel
set_option maxRecDepth 20000 in
theorem ggX3_differingFromLatestDump_X3_dumpOf : GoodIn wsX3_differingFromLatestDump wsX3_dumpOf := goodIn_r _ [7, 1, 8, 20, 21, 22, 23, 24, 25, 26, 27] (by decide +kernel) (by decide +kernel)
set_option maxRecDepth 20000 in
theorem gX3_differingFromLatestDump_X3_dumpOf : GoodIn wsX3_differingFromLatestDump (wsV RX3 141 RX3 yX3_dumpOf wsX3_dumpOf) := goodIn_app (goodIn_of _ (by decide +kernel)) ggX3_differingFromLatestDump_X3_dumpOf
set_option maxRecDepth 20000 in
theorem ggX3_differingFromLatestDump_X1_differingSectors : GoodIn wsX3_differingFromLatestDump wsX1_differingSectors := goodIn_r _ [13, 14, 15, 16, 17, 12, 18, 19, 28, 29, 30, 31, 32, 33, 34, 35, 36] (by decide +kernel) (by decide +kernel)
set_option maxRecDepth 20000 in
theorem gX3_differingFromLatestDump_X1_differingSectors : GoodIn wsX3_differingFromLatestDump (wsV RX3 169 RX1 yX1_differingSectors wsX1_differingSectors) := goodIn_app (goodIn_of _ (by decide +kernel)) ggX3_differingFromLatestDump_X1_differingSectors
theorem dX3_differingFromLatestDump_0 : decode cX3_differingFromLatestDump 0 = .ok (.aload_n 0, 1) := by decide +kernel
theorem dX3_differingFromLatestDump_1 : decode cX3_differingFromLatestDump 1 = .ok (.aload_n 0, 1) := by decide +kernel
theorem dX3_differingFromLatestDump_2 : decode cX3_differingFromLatestDump 2 = .ok (.getfield 33, 3) := by decide +kernel
theorem dX3_differingFromLatestDump_5 : decode cX3_differingFromLatestDump 5 = .ok (.invokevirtual 141, 3) := by decide +kernel
theorem dX3_differingFromLatestDump_8 : decode cX3_differingFromLatestDump 8 = .ok (.astore_n 1, 1) := by decide +kernel
theorem dX3_differingFromLatestDump_9 : decode cX3_differingFromLatestDump 9 = .ok (.aload_n 1, 1) := by decide +kernel
theorem dX3_differingFromLatestDump_10 : decode cX3_differingFromLatestDump 10 = .ok (.ifnonnull 7, 3) := by decide +kernel
theorem dX3_differingFromLatestDump_13 : decode cX3_differingFromLatestDump 13 = .ok (.iconst (-1), 1) := by decide +kernel
theorem dX3_differingFromLatestDump_14 : decode cX3_differingFromLatestDump 14 = .ok (.goto 11, 3) := by decide +kernel
theorem dX3_differingFromLatestDump_17 : decode cX3_differingFromLatestDump 17 = .ok (.aload_n 0, 1) := by decide +kernel
theorem dX3_differingFromLatestDump_18 : decode cX3_differingFromLatestDump 18 = .ok (.getfield 25, 3) := by decide +kernel
theorem dX3_differingFromLatestDump_21 : decode cX3_differingFromLatestDump 21 = .ok (.aload_n 1, 1) := by decide +kernel
theorem dX3_differingFromLatestDump_22 : decode cX3_differingFromLatestDump 22 = .ok (.invokevirtual 169, 3) := by decide +kernel
theorem dX3_differingFromLatestDump_25 : decode cX3_differingFromLatestDump 25 = .ok (.ireturn, 1) := by decide +kernel
set_option maxRecDepth 20000 in
theorem ggX4_init_X4_sumOf : GoodIn wsX4_init wsX4_sumOf := goodIn_r _ [25, 5, 26, 27, 28, 29, 30, 31, 32, 33, 34, 35, 36, 37, 38, 39, 40, 41, 42, 43, 44, 45, 46, 47] (by decide +kernel) (by decide +kernel)
set_option maxRecDepth 20000 in
theorem gX4_init_X4_sumOf : GoodIn wsX4_init (wsV RX4 57 RX4 yX4_sumOf wsX4_sumOf) := goodIn_app (goodIn_of _ (by decide +kernel)) ggX4_init_X4_sumOf
end
section
/-! The base: the world's array classes, contracts of methods that write nothing (pu), of methods that write their world's cells (mu), and rows for their calls. -/
abbrev tyA (κ : Nat → ClassId) : List (ClassId × FieldType) := [(κ 0, .int), (κ 1, .byte), (κ 2, .object RX1), (κ 3, .long)]
def pu_B (D : va_G) (κ : Nat → ClassId) (w : va_W) : State → Prop := fun U => va_P D vwCl w U.heap ∧ va_K D vwCl (tyA κ) U
def pu_Q (v : Value) : Array Value → State → Outcome → State → Prop := fun _ st o t => o = .returned (some v) ∧ t.heap = st.heap
def pu_N : Addr → Prop := fun _ => False
def mu_B (D : va_G) (κ : Nat → ClassId) (w : va_W) (sz : Nat) : State → Prop := fun U => U.heap.size = sz ∧ va_P D vwCl w U.heap ∧ va_K D vwCl (tyA κ) U ∧ va_D (fun _ => True) w
/-- an end: the answer, the world's new cells, all else as it was -/
def mu_Q (D : va_G) (v : Option Value) (w' : va_W) (A : Nat → Prop) : Array Value → State → Outcome → State → Prop := fun _ st o t => (o = .returned v ∧ va_P D vwCl w' t.heap ∧ va_D A w') ∧ va_F A st t
theorem pu_blind {D : va_G} {κ : Nat → ClassId} {w : va_W} {av : List Value} : FrameBlind (va_Pc av (pu_B D κ w)) := fun a U g mk q => ⟨q.1, q.2.1, va_K.moved (u := U) (U := U.calling g mk a) (Vm.Alike.refl U.vm) q.2.2⟩
theorem mu_blind {D : va_G} {κ : Nat → ClassId} {w : va_W} {sz : Nat} {av : List Value} : FrameBlind (va_Pc av (mu_B D κ w sz)) := fun a U g mk q => ⟨q.1, q.2.1, q.2.2.1, va_K.moved (u := U) (U := U.calling g mk a) (Vm.Alike.refl U.vm) q.2.2.2.1, q.2.2.2.2⟩
theorem pu_pre {D : va_G} {κ : Nat → ClassId} {w : va_W} {av : List Value} {s : State} {H : Heap} (hK : va_K D vwCl (tyA κ) s) (hP : va_P D vwCl w H) : ∀ U : State, U.heap = H → s.WarmedH U.vm → va_Pc av (pu_B D κ w) av.toArray U := fun U hU hW => ⟨rfl, by rw [hU]; exact hP, va_K.moved hW.alike hK⟩
theorem mu_pre {D : va_G} {κ : Nat → ClassId} {w : va_W} {av : List Value} {s : State} {H : Heap} {A : Nat → Prop} (hK : va_K D vwCl (tyA κ) s) (hP : va_P D vwCl w H) (hD : va_D A w) : ∀ U : State, U.heap = H → s.WarmedH U.vm → va_Pc av (mu_B D κ w H.size) av.toArray U := fun U hU hW => ⟨rfl, by rw [hU], by rw [hU]; exact hP, va_K.moved hW.alike hK, hD.weaken (fun _ _ _ _ => trivial)⟩
section PU
variable {p : Program} {l : Launch} {e : Env} {R : Room} {s : State} {m : MethodId} {args : Array Value} {below : List Frame} {meth : Method} {c : Code} {H : Heap} {locs : List Loc} {cells slots : Nat} {Q : State → Prop}
variable {pc : Nat} {ls : Array Slot} {rest st0 : List Value} {a : Array Value} {A0 : Nat → Prop} {H0 : Heap} {mc ms : Nat}
theorem tp_i {x y : Int32} (h : x = y) (k : W p l e R s m args below meth c H locs cells slots Q (F0 m pc ls (.int y :: rest))) : W p l e R s m args below meth c H locs cells slots Q (F0 m pc ls (.int x :: rest)) := by rw [h]; exact k
theorem tp_l {x y : Int64} (h : x = y) (k : W p l e R s m args below meth c H locs cells slots Q (F0 m pc ls (.long y :: rest))) : W p l e R s m args below meth c H locs cells slots Q (F0 m pc ls (.long x :: rest)) := by rw [h]; exact k
theorem pu_call {v : Value} (hr : va_Run p l e R s m args below meth c H locs cells slots 0 0 (F0 m pc ls st0) rest (pu_Q v a) pu_N)
    (kk : W p l e R s m args below meth c H locs cells slots Q (F0 m (pc + 3) ls (v :: rest))) : W p l e R s m args below meth c H locs cells slots Q (F0 m pc ls st0) := by
  intro T hT X
  obtain ⟨v', st₀, t, T', L, h0, X', hL, e1, e2, ⟨hv, he⟩, st⟩ := hr T hT X
  cases hv
  have hLn : L = [] := List.eq_nil_iff_forall_not_mem.mpr fun q hq => hL q hq
  subst hLn
  rw [List.append_nil] at X'
  obtain ⟨t2, a1, b1⟩ := kk T' (by rw [e1, he, h0]) X'
  exact ⟨t2, st t2 a1, b1⟩
theorem mu_call {D : va_G} {v : Option Value} {ws wc wr wc' ws' : va_W} (hr : va_Run p l e R s m args below meth c H locs cells slots mc ms (F0 m pc ls st0) rest (mu_Q D v wc' (va_A wc H.size) a) (va_A wc H.size))
    (hP : va_P D vwCl ws H) (hD : va_D A0 ws) (hS : va_S A0 H0 H locs) (hA : ∀ q, H0.size ≤ q → A0 q) (isC isR is' : List Nat) (hC : isC.map (fun i => ws[i]?) = wc.map some) (hR : isR.map (fun i => ws[i]?) = wr.map some) (hn : va_nd isR = true) (hdis : ∀ i ∈ isR, i ∉ isC)
    (hw : is'.filterMap (fun i => (wr ++ wc')[i]?) = ws') (hw2 : is'.map (fun i => (wr ++ wc')[i]?) = ws'.map some) (hnd : va_nd is' = true)
    (kk : ∀ (H1 : Heap) (locs1 : List Loc), va_P D vwCl ws' H1 → va_D A0 ws' → va_S A0 H0 H1 locs1 → W p l e R s m args below meth c H1 locs1 (cells + mc) (slots + ms) Q (F0 m (pc + 3) ls (v.toList ++ rest))) : W p l e R s m args below meth c H locs cells slots Q (F0 m pc ls st0) := by
  intro T hT X
  have hF := va_free hD hS hA isC hC
  obtain ⟨v', st₀, t, T', L, h0, X', hL, e1, e2, ⟨⟨hv, hp, hd⟩, hz, hk⟩, st⟩ := hr T hT X
  cases hv
  rw [h0] at hz hk
  obtain ⟨hP1, hD1⟩ := va_join (H1 := t.heap) hP hD isC isR hC hR hn hdis hk hF hp hd
  obtain ⟨t2, a1, b1⟩ := kk T'.heap (locs ++ L) (by rw [e1]; exact hP1.sub is' hw) (hD1.sub is' hnd hw2)
    ⟨Nat.le_trans hS.1 (by rw [e1]; exact hz), fun q h1 h2 => by rw [e1, hk q (Nat.lt_of_lt_of_le h1 hS.1) (fun z => h2 (hF q z))]; exact hS.2.1 q h1 h2, fun q hq => by
      rcases List.mem_append.mp hq with h | h
      · exact hS.2.2 q h
      · exact hF _ (hL q h)⟩ T' rfl X'
  exact ⟨t2, st t2 a1, b1⟩
theorem pu_iret {cc : ByteArray} {v : Int32} (hexec : p.tables.exec = Jvm.exec) (hb : c.code = cc) (hr : meth.sig.returnType = some .int) (hlocks : meth.locks = false) (hdg : decode cc pc = .ok (.ireturn, 1)) : W p l e R s m args below meth c s.heap [] cells slots (MQ below (pu_Q (.int v)) args s cells slots pu_N) (F0 m pc ls [.int v]) :=
  W.iret hexec hb hr (fun t ht _ => ⟨rfl, ht⟩) (fun q hq => by cases hq) hdg hlocks
theorem pu_zret {cc : ByteArray} {v : Int32} {ty : FieldType} (hexec : p.tables.exec = Jvm.exec) (hb : c.code = cc) (hr : meth.sig.returnType = some ty) (hnr : narrow ty (.int v) = .int v) (hlocks : meth.locks = false) (hdg : decode cc pc = .ok (.ireturn, 1)) : W p l e R s m args below meth c s.heap [] cells slots (MQ below (pu_Q (.int v)) args s cells slots pu_N) (F0 m pc ls [.int v]) :=
  W.zret hexec hb hr hnr (fun t ht _ => ⟨rfl, ht⟩) (fun q hq => by cases hq) hdg hlocks
end PU
section WL
variable {p : Program} {l : Launch} {e : Env} {R : Room} {s : State} {m : MethodId} {args : Array Value} {below : List Frame} {meth : Method} {c : Code} {H0 : Heap} {locs0 : List Loc} {cells slots : Nat} {Q : State → Prop} {pc : Nat} {ls0 : Array Slot} {st : List Value}
theorem W.gen {g : JFrame} {P : Heap → List Loc → Prop} (h : ∀ H locs, P H locs → W p l e R s m args below meth c H locs cells slots Q g) (h0 : P H0 locs0) : W p l e R s m args below meth c H0 locs0 cells slots Q g := h _ _ h0
theorem W.loopP {N : Nat} {I : Nat → Array Slot → Prop} (k0 : Nat) (hk0 : k0 ≤ N)
    (hstep : ∀ k ls, k < N → I k ls → (∀ ls, I (k + 1) ls → W p l e R s m args below meth c H0 locs0 cells slots Q (F0 m pc ls st)) → W p l e R s m args below meth c H0 locs0 cells slots Q (F0 m pc ls st))
    (hexit : ∀ ls, I N ls → W p l e R s m args below meth c H0 locs0 cells slots Q (F0 m pc ls st))
    (h0 : I k0 ls0) : W p l e R s m args below meth c H0 locs0 cells slots Q (F0 m pc ls0 st) := by
  obtain ⟨n, hn⟩ : ∃ n, k0 + n = N := ⟨N - k0, by omega⟩
  induction n generalizing k0 ls0 with
  | zero =>
    have : k0 = N := by omega
    subst this
    exact hexit _ h0
  | succ n ih => exact hstep k0 ls0 (by omega) h0 (fun ls h => ih (k0 + 1) (by omega) h (by omega))
theorem W.loop {N : Nat} {I : Nat → Array Slot → Heap → List Loc → Prop} (k0 : Nat) (hk0 : k0 ≤ N)
    (hstep : ∀ k ls H locs, k < N → I k ls H locs → (∀ ls H locs, I (k + 1) ls H locs → W p l e R s m args below meth c H locs cells slots Q (F0 m pc ls st)) → W p l e R s m args below meth c H locs cells slots Q (F0 m pc ls st))
    (hexit : ∀ ls H locs, I N ls H locs → W p l e R s m args below meth c H locs cells slots Q (F0 m pc ls st))
    (h0 : I k0 ls0 H0 locs0) : W p l e R s m args below meth c H0 locs0 cells slots Q (F0 m pc ls0 st) := by
  obtain ⟨n, hn⟩ : ∃ n, k0 + n = N := ⟨N - k0, by omega⟩
  induction n generalizing k0 ls0 H0 locs0 with
  | zero =>
    have : k0 = N := by omega
    subst this
    exact hexit _ _ _ h0
  | succ n ih => exact hstep k0 ls0 H0 locs0 (by omega) h0 (fun ls H locs h => ih (k0 + 1) (by omega) h (by omega))
end WL
end
section
/-! Surface: its world, the functions that its loops compute, its methods' contracts -/
def sfW (κ : Nat → ClassId) (T S : Nat) (ad : Nat → Nat) (bs sm pl r0 r1 : Nat → Int32) (tk vo : Int32) : va_W := [(ad 0, .inr (2, [.int (nI T), .int (nI S), .ref (ad 1), .ref (ad 2), .ref (ad 3), .ref (ad 4), .ref (ad 5), .int tk, .int vo])), (ad 1, .inl (κ 1, (T + 2) * S * 16, .inl bs)), (ad 2, .inl (κ 0, (T + 2) * S, .inl sm)), (ad 3, .inl (κ 0, T, .inl pl)), (ad 4, .inl (κ 0, T, .inl r0)), (ad 5, .inl (κ 0, T, .inl r1))]
/-- a place's number -/
def cl (x : Int32) : Nat := x.toNatClampNeg
theorem cl_nI {x : Int32} {n : Nat} (h : vp_in x n) (hn : n < 2 ^ 31) : x = nI (cl x) ∧ cl x < n := by
  obtain ⟨j, hj, rfl⟩ := vp_in_of h hn
  rw [show cl (nI j) = j from nI_clamp (by omega)]
  exact ⟨rfl, hj⟩
/-- one byte into a sum -/
def smS (s b : Int32) : Int32 := (((s ^^^ (b &&& nI 255)) <<< (nI 3 &&& 31)) ||| ((s ^^^ (b &&& nI 255)).toUInt32 >>> ((nI 29).toUInt32 &&& Int32.toUInt32 31)).toInt32) * (-1640531535)
def smF (f : Nat → Int32) (a : Nat) (s0 : Int32) : Nat → Int32
  | 0 => s0
  | n + 1 => smS (smF f a s0 n) (f (a + n))
/-- the sum of the sector s at the place p -/
def smA (f : Nat → Int32) (S p s : Nat) : Int32 := smF f ((p * S + s) * 16) (nI (64 * p + s)) 16
def bI (b : Bool) : Int32 := if b = true then nI 1 else nI 0
theorem bI_t {b : Bool} (h : b = true) : nI 1 = bI b := by rw [h]; rfl
theorem bI_f {b : Bool} (h : b = false) : nI 0 = bI b := by rw [h]; rfl
theorem bI_ne {b : Bool} (h : ¬ bI b = 0) : b = true := by cases b; exact absurd rfl h; rfl
theorem bI_eq {b : Bool} (h : bI b = 0) : b = false := by cases b; rfl; exact absurd h (by decide)
def cnt (f : Nat → Bool) : Nat → Nat
  | 0 => 0
  | n + 1 => cnt f n + (if f n = true then 1 else 0)
theorem cnt_t {f : Nat → Bool} {n : Nat} (h : f n = true) : cnt f (n + 1) = cnt f n + 1 := by simp [cnt, h]
theorem cnt_f {f : Nat → Bool} {n : Nat} (h : f n = false) : cnt f (n + 1) = cnt f n := by simp [cnt, h]
def cn2 (f : Nat → Nat → Bool) (S : Nat) : Nat → Nat
  | 0 => 0
  | t + 1 => cn2 f S t + cnt (f t) S
/-- whether the sector s of the track t is wrong -/
def iwF (bs sm pl : Nat → Int32) (S t s : Nat) : Bool := decide (¬ sm (cl (pl t) * S + s) = smA bs S (cl (pl t)) s)
/-- where a byte lies -/
theorem sf_lt {T S p s i : Nat} (hp : p < T + 2) (hs : s < S) (hi : i < 16) : (p * S + s) * 16 + i < (T + 2) * S * 16 := by
  have h1 : (p + 1) * S ≤ (T + 2) * S := Nat.mul_le_mul_right S (by omega)
  rw [Nat.succ_mul] at h1
  omega
theorem sf_slt {T S p s : Nat} (hp : p < T + 2) (hs : s < S) : p * S + s < (T + 2) * S := by
  have h1 : (p + 1) * S ≤ (T + 2) * S := Nat.mul_le_mul_right S (by omega)
  rw [Nat.succ_mul] at h1
  omega
theorem sf_max {T S : Nat} (hT : T ≤ 12) (hS : S ≤ 8) : (T + 2) * S ≤ 112 := Nat.le_trans (Nat.mul_le_mul (show T + 2 ≤ 14 by omega) hS) (by decide)
/-- a write's bytes -/
def flF (f : Nat → Int32) (a : Nat) (b : Int32) : Nat → Nat → Int32
  | 0 => f
  | n + 1 => upd (flF f a b n) (a + n) ((b + nI n).toInt8.toInt32)
/-- a place's sums set anew -/
def ssF (bs sm : Nat → Int32) (S p : Nat) : Nat → Nat → Int32
  | 0 => sm
  | n + 1 => upd (ssF bs sm S p n) (p * S + n) (smA bs S p n)
/-- whether one of n numbers from a on isn't 0 -/
def nzF (f : Nat → Int32) (a : Nat) : Nat → Bool
  | 0 => false
  | n + 1 => nzF f a n || decide (¬ f (a + n) = 0)

set_option maxHeartbeats 4000000 in
set_option maxRecDepth 100000 in
/-- slot(at, sector) -/
theorem c_slot (l : Launch) (D : va_G) (κ : Nat → ClassId) (T S : Nat) (ad : Nat → Nat) (bs sm pl r0 r1 : Nat → Int32) (tk vo : Int32) (a b : Nat) : Met l yX1_slot wsX1_slot ({ frames := 0, cells := 0, slots := 0, locals := 0 }) (va_Pc [.ref ((ad 0)), .int (nI a), .int (nI b)] (pu_B D κ (sfW κ T S ad bs sm pl r0 r1 tk vo))) (pu_Q (.int (nI (a * S + b)))) 0 0 pu_N := by
  refine Met.ofW (cc := cX1_slot) (maxL := 3) (ret := (some .int)) (by decide) rfl ?_
  intro p e s m args below meth c s₁ B hml hv
  obtain ⟨rfl, hP, hK⟩ := hv
  have hx := B.exec
  have hb := B.bytes
  have hr := B.returns
  have hts := atoms_spec (ws := wsX1_slot) B.pre
  have hown : s.vm.findClass RX1 = some m.cls := findClass_of_methodNamed B.named
  have hlocks := B.notSynchronized
  have hl := lv_entry ([.ref ((ad 0)), .int (nI a), .int (nI b)]) (n := 3) (Nat.le_of_ble_eq_true rfl)
  rw [lg_entry_eq]
  generalize (lg_sl ([.ref ((ad 0)), .int (nI a), .int (nI b)]) ++ List.replicate (3 - (lg_sl ([.ref ((ad 0)), .int (nI a), .int (nI b)])).length) Slot.unset).toArray = ls at hl ⊢
  have hl : lv_has ls 3 [(0, .ref ((ad 0))), (1, .int (nI a)), (2, .int (nI b))] := hl
  refine lv_iload_n hx hb dX1_slot_0 rfl (lv_at hl 1 rfl) ?_
  refine lv_aload_n hx hb dX1_slot_1 rfl (lv_at hl 0 rfl) ?_
  refine va_get (D := D) (ci := 2) (v := .int (nI S)) (C := RX1) (T := TX1) (N := 9) hx hb hts (by decide +kernel) hown hK hP 0 rfl rfl 1 (by decide) (hts (.fieldLink RX1 15 "TrackDisk$Surface" "sectors" "I") (by decide +kernel)) (fun _ h9 => h9) rfl dX1_slot_2 ?_
  refine lv_imul hx hb dX1_slot_5 ?_
  refine tp_i (y := nI (a * S)) (by exact pk_mul _ _) ?_
  refine lv_iload_n hx hb dX1_slot_6 rfl (lv_at hl 2 rfl) ?_
  refine lv_iadd hx hb dX1_slot_7 ?_
  refine tp_i (y := nI ((a * S) + b)) (by exact nI_add _ _) ?_
  refine tp_i (y := nI (a * S + b)) (by first | rfl | (simp only []; done)) ?_
  exact pu_iret hx hb hr hlocks dX1_slot_8

set_option maxHeartbeats 4000000 in
set_option maxRecDepth 100000 in
/-- sumOf(at, sector) -/
theorem c_sumOf (l : Launch) (D : va_G) (κ : Nat → ClassId) (T S : Nat) (ad : Nat → Nat) (bs sm pl r0 r1 : Nat → Int32) (tk vo : Int32) (hT : T ≤ 12) (hS8 : S ≤ 8) (a b : Nat) (ha : a < T + 2) (hb0 : b < S) : Met l yX1_sumOf wsX1_sumOf ({ frames := 1, cells := 0, slots := 0, locals := 22 }) (va_Pc [.ref ((ad 0)), .int (nI a), .int (nI b)] (pu_B D κ (sfW κ T S ad bs sm pl r0 r1 tk vo))) (pu_Q (.int (smA bs S a b))) 0 0 pu_N := by
  refine Met.ofW (cc := cX1_sumOf) (maxL := 7) (ret := (some .int)) (by decide) rfl ?_
  intro p e s m args below meth c s₁ B hml hv
  obtain ⟨rfl, hP, hK⟩ := hv
  have hx := B.exec
  have hb := B.bytes
  have hr := B.returns
  have hts := atoms_spec (ws := wsX1_sumOf) B.pre
  have hown : s.vm.findClass RX1 = some m.cls := findClass_of_methodNamed B.named
  have hlocks := B.notSynchronized
  have hl := lv_entry ([.ref ((ad 0)), .int (nI a), .int (nI b)]) (n := 7) (Nat.le_of_ble_eq_true rfl)
  rw [lg_entry_eq]
  generalize (lg_sl ([.ref ((ad 0)), .int (nI a), .int (nI b)]) ++ List.replicate (7 - (lg_sl ([.ref ((ad 0)), .int (nI a), .int (nI b)])).length) Slot.unset).toArray = ls at hl ⊢
  have hl : lv_has ls 7 [(0, .ref ((ad 0))), (1, .int (nI a)), (2, .int (nI b))] := hl
  have hmx := sf_max hT hS8
  refine lv_aload_n hx hb dX1_sumOf_0 rfl (lv_at hl 0 rfl) ?_
  refine lv_iload_n hx hb dX1_sumOf_1 rfl (lv_at hl 1 rfl) ?_
  refine lv_iload_n hx hb dX1_sumOf_2 rfl (lv_at hl 2 rfl) ?_
  have hPc := hP.sub (ws' := sfW κ T S ad bs sm pl r0 r1 tk vo) [0, 1, 2, 3, 4, 5] rfl
  refine pu_call (va_runV (As := [.int (nI a), .int (nI b)]) (rest := []) ⟨hx, hb, hml, hown, hts⟩ (c_slot l D κ T S ad bs sm pl r0 r1 tk vo a b) (cwV 2 hts gX1_sumOf_X1_slot rfl rfl rfl (by decide +kernel) ⟨Nat.le_of_ble_eq_true rfl, Nat.le_of_ble_eq_true rfl⟩) ⟨pu_blind, va_recv hK hPc (ci := 2) (q0 := 0) rfl rfl, pu_pre hK hPc⟩ rfl rfl hl.1 rfl (lv_room (Nat.le_of_ble_eq_true rfl)) dX1_sumOf_3 ⟨Nat.le_of_ble_eq_true rfl, Nat.le_of_ble_eq_true rfl⟩) ?_
  refine lv_bipush (v := nI 16) hx hb dX1_sumOf_6 (by decide) ?_
  refine lv_imul hx hb dX1_sumOf_8 ?_
  refine tp_i (y := nI ((a * S + b) * 16)) (by exact pk_mul _ _) ?_
  refine lv_istore_n (lv' := [(3, .int (nI ((a * S + b) * 16))), (0, .ref ((ad 0))), (1, .int (nI a)), (2, .int (nI b))]) hx hb dX1_sumOf_9 rfl hl (by decide) rfl (fun ls hl => ?_)
  refine lv_bipush (v := nI 64) hx hb dX1_sumOf_10 (by decide) ?_
  refine lv_iload_n hx hb dX1_sumOf_12 rfl (lv_at hl 2 rfl) ?_
  refine lv_imul hx hb dX1_sumOf_13 ?_
  refine tp_i (y := nI (64 * a)) (by exact pk_mul _ _) ?_
  refine lv_iload_n hx hb dX1_sumOf_14 rfl (lv_at hl 3 rfl) ?_
  refine lv_iadd hx hb dX1_sumOf_15 ?_
  refine tp_i (y := nI ((64 * a) + b)) (by exact nI_add _ _) ?_
  refine lv_istore (lv' := [(4, .int (nI ((64 * a) + b))), (3, .int (nI ((a * S + b) * 16))), (0, .ref ((ad 0))), (1, .int (nI a)), (2, .int (nI b))]) hx hb dX1_sumOf_16 hl (by decide) rfl (fun ls hl => ?_)
  refine lv_iconst (v := nI 0) hx hb dX1_sumOf_18 (by decide) ?_
  refine lv_istore (lv' := [(5, .int (nI 0)), (4, .int (nI ((64 * a) + b))), (3, .int (nI ((a * S + b) * 16))), (0, .ref ((ad 0))), (1, .int (nI a)), (2, .int (nI b))]) hx hb dX1_sumOf_19 hl (by decide) rfl (fun ls hl => ?_)
  refine W.loopP (N := 16) (I := fun k ls => lv_has ls 7 [(5, .int (nI k)), (4, .int (smF bs ((a * S + b) * 16) (nI (64 * a + b)) k)), (3, .int (nI ((a * S + b) * 16))), (0, .ref ((ad 0))), (1, .int (nI a)), (2, .int (nI b))]) 0 (by omega) (fun k ls hk hl ihk => ?_) (fun ls hl => ?_) (lv_sub hl [0, 1, 2, 3, 4, 5] rfl)
  · skip
    have hlt := sf_lt ha hb0 hk
    refine lv_iload hx hb dX1_sumOf_21 (lv_at hl 0 rfl) ?_
    refine lv_bipush (v := nI 16) hx hb dX1_sumOf_23 (by decide) ?_
    refine lv_icmp_ge (tgt := 67) hx hb dX1_sumOf_25 (by decide) (fun c_25 => ?_) (fun c_25 => ?_)
    · exact absurd c_25 (nI_ge hk (by omega))
    · skip
      refine lv_iload hx hb dX1_sumOf_28 (lv_at hl 1 rfl) ?_
      refine lv_aload_n hx hb dX1_sumOf_30 rfl (lv_at hl 3 rfl) ?_
      refine va_get (D := D) (ci := 2) (v := .ref ((ad 1))) (C := RX1) (T := TX1) (N := 9) hx hb hts (by decide +kernel) hown hK hP 0 rfl rfl 2 (by decide) (hts (.fieldLink RX1 18 "TrackDisk$Surface" "bytes" "[B") (by decide +kernel)) (fun _ h9 => h9) rfl dX1_sumOf_31 ?_
      refine lv_iload_n hx hb dX1_sumOf_34 rfl (lv_at hl 2 rfl) ?_
      refine lv_iload hx hb dX1_sumOf_35 (lv_at hl 0 rfl) ?_
      refine lv_iadd hx hb dX1_sumOf_37 ?_
      refine tp_i (y := nI (((a * S + b) * 16) + k)) (by exact nI_add _ _) ?_
      refine va_bald hx hb hK hP 1 1 rfl rfl (vp_in_nI (by omega) (by omega)) dX1_sumOf_38 ?_
      refine tp_i (y := bs (((a * S + b) * 16) + k)) (by rw [nI_clamp (by omega)]) ?_
      refine lv_sipush (v := nI 255) hx hb dX1_sumOf_39 (by decide) ?_
      refine lv_iand hx hb dX1_sumOf_42 ?_
      refine lv_ixor hx hb dX1_sumOf_43 ?_
      refine lv_istore (lv' := [(6, .int (((smF bs ((a * S + b) * 16) (nI (64 * a + b)) k) ^^^ ((bs (((a * S + b) * 16) + k)) &&& (nI 255))))), (5, .int (nI k)), (4, .int (smF bs ((a * S + b) * 16) (nI (64 * a + b)) k)), (3, .int (nI ((a * S + b) * 16))), (0, .ref ((ad 0))), (1, .int (nI a)), (2, .int (nI b))]) hx hb dX1_sumOf_44 hl (by decide) rfl (fun ls hl => ?_)
      refine lv_iload hx hb dX1_sumOf_46 (lv_at hl 0 rfl) ?_
      refine lv_iconst (v := nI 3) hx hb dX1_sumOf_48 (by decide) ?_
      refine lv_ishl hx hb dX1_sumOf_49 ?_
      refine lv_iload hx hb dX1_sumOf_50 (lv_at hl 0 rfl) ?_
      refine lv_bipush (v := nI 29) hx hb dX1_sumOf_52 (by decide) ?_
      refine lv_iushr hx hb dX1_sumOf_54 rfl ?_
      refine lv_ior hx hb dX1_sumOf_55 ?_
      refine lv_ldc hx hb hown (hts (.constant RX1 77 (-1640531535)) (by decide +kernel)) dX1_sumOf_56 ?_
      refine lv_imul hx hb dX1_sumOf_58 ?_
      refine tp_i (y := smF bs ((a * S + b) * 16) (nI (64 * a + b)) (k + 1)) (by rfl) ?_
      refine lv_istore (lv' := [(4, .int (smF bs ((a * S + b) * 16) (nI (64 * a + b)) (k + 1))), (6, .int (((smF bs ((a * S + b) * 16) (nI (64 * a + b)) k) ^^^ ((bs (((a * S + b) * 16) + k)) &&& (nI 255))))), (5, .int (nI k)), (3, .int (nI ((a * S + b) * 16))), (0, .ref ((ad 0))), (1, .int (nI a)), (2, .int (nI b))]) hx hb dX1_sumOf_59 hl (by decide) rfl (fun ls hl => ?_)
      refine lv_iinc (v := nI (k + 1)) (lv' := [(5, .int (nI (k + 1))), (4, .int (smF bs ((a * S + b) * 16) (nI (64 * a + b)) (k + 1))), (6, .int (((smF bs ((a * S + b) * 16) (nI (64 * a + b)) k) ^^^ ((bs (((a * S + b) * 16) + k)) &&& (nI 255))))), (3, .int (nI ((a * S + b) * 16))), (0, .ref ((ad 0))), (1, .int (nI a)), (2, .int (nI b))]) hx hb dX1_sumOf_61 hl (k := 2) rfl (by exact nI_1 _) (by decide) rfl (fun ls hl => ?_)
      refine lv_goto (tgt := 21) hx hb dX1_sumOf_64 (by decide) ?_
      exact ihk ls (lv_sub hl [0, 1, 3, 4, 5, 6] rfl)
  · skip
    refine lv_iload hx hb dX1_sumOf_21 (lv_at hl 0 rfl) ?_
    refine lv_bipush (v := nI 16) hx hb dX1_sumOf_23 (by decide) ?_
    refine lv_icmp_ge (tgt := 67) hx hb dX1_sumOf_25 (by decide) (fun c_25 => ?_) (fun c_25 => ?_)
    · skip
      refine lv_iload hx hb dX1_sumOf_67 (lv_at hl 1 rfl) ?_
      refine tp_i (y := smA bs S a b) (by first | rfl | (simp only []; done)) ?_
      exact pu_iret hx hb hr hlocks dX1_sumOf_69
    · exact absurd (nI_le (Nat.le_refl _) (by omega)) c_25

set_option maxHeartbeats 4000000 in
set_option maxRecDepth 100000 in
/-- firstByte(track, sector) -/
theorem c_firstByte (l : Launch) (D : va_G) (κ : Nat → ClassId) (T S : Nat) (ad : Nat → Nat) (bs sm pl r0 r1 : Nat → Int32) (tk vo : Int32) (hT : T ≤ 12) (hS8 : S ≤ 8) (hpl : ∀ t, t < T → vp_in (pl t) (T + 2)) (t b : Nat) (ht : t < T) : Met l yX1_firstByte wsX1_firstByte ({ frames := 1, cells := 0, slots := 0, locals := 22 }) (va_Pc [.ref ((ad 0)), .int (nI t), .int (nI b)] (pu_B D κ (sfW κ T S ad bs sm pl r0 r1 tk vo))) (pu_Q (.int (nI ((cl (pl t) * S + b) * 16)))) 0 0 pu_N := by
  refine Met.ofW (cc := cX1_firstByte) (maxL := 3) (ret := (some .int)) (by decide) rfl ?_
  intro p e s m args below meth c s₁ B hml hv
  obtain ⟨rfl, hP, hK⟩ := hv
  have hx := B.exec
  have hb := B.bytes
  have hr := B.returns
  have hts := atoms_spec (ws := wsX1_firstByte) B.pre
  have hown : s.vm.findClass RX1 = some m.cls := findClass_of_methodNamed B.named
  have hlocks := B.notSynchronized
  have hl := lv_entry ([.ref ((ad 0)), .int (nI t), .int (nI b)]) (n := 3) (Nat.le_of_ble_eq_true rfl)
  rw [lg_entry_eq]
  generalize (lg_sl ([.ref ((ad 0)), .int (nI t), .int (nI b)]) ++ List.replicate (3 - (lg_sl ([.ref ((ad 0)), .int (nI t), .int (nI b)])).length) Slot.unset).toArray = ls at hl ⊢
  have hl : lv_has ls 3 [(0, .ref ((ad 0))), (1, .int (nI t)), (2, .int (nI b))] := hl
  have hmx := sf_max hT hS8
  have hplt := cl_nI (hpl t ht) (by omega)
  refine lv_aload_n hx hb dX1_firstByte_0 rfl (lv_at hl 0 rfl) ?_
  refine lv_aload_n hx hb dX1_firstByte_1 rfl (lv_at hl 0 rfl) ?_
  refine va_get (D := D) (ci := 2) (v := .ref ((ad 3))) (C := RX1) (T := TX1) (N := 9) hx hb hts (by decide +kernel) hown hK hP 0 rfl rfl 4 (by decide) (hts (.fieldLink RX1 26 "TrackDisk$Surface" "place" "[I") (by decide +kernel)) (fun _ h9 => h9) rfl dX1_firstByte_2 ?_
  refine lv_iload_n hx hb dX1_firstByte_5 rfl (lv_at hl 1 rfl) ?_
  refine va_iald hx hb hK hP 3 0 rfl rfl (vp_in_nI (by omega) (by omega)) dX1_firstByte_6 ?_
  refine tp_i (y := nI (cl (pl t))) (by rw [nI_clamp (by omega)]; exact hplt.1) ?_
  refine lv_iload_n hx hb dX1_firstByte_7 rfl (lv_at hl 2 rfl) ?_
  have hPc := hP.sub (ws' := sfW κ T S ad bs sm pl r0 r1 tk vo) [0, 1, 2, 3, 4, 5] rfl
  refine pu_call (va_runV (As := [.int (nI (cl (pl t))), .int (nI b)]) (rest := []) ⟨hx, hb, hml, hown, hts⟩ (c_slot l D κ T S ad bs sm pl r0 r1 tk vo (cl (pl t)) b) (cwV 2 hts gX1_firstByte_X1_slot rfl rfl rfl (by decide +kernel) ⟨Nat.le_of_ble_eq_true rfl, Nat.le_of_ble_eq_true rfl⟩) ⟨pu_blind, va_recv hK hPc (ci := 2) (q0 := 0) rfl rfl, pu_pre hK hPc⟩ rfl rfl hl.1 rfl (lv_room (Nat.le_of_ble_eq_true rfl)) dX1_firstByte_8 ⟨Nat.le_of_ble_eq_true rfl, Nat.le_of_ble_eq_true rfl⟩) ?_
  refine lv_bipush (v := nI 16) hx hb dX1_firstByte_11 (by decide) ?_
  refine lv_imul hx hb dX1_firstByte_13 ?_
  refine tp_i (y := nI ((cl (pl t) * S + b) * 16)) (by exact pk_mul _ _) ?_
  exact pu_iret hx hb hr hlocks dX1_firstByte_14

set_option maxHeartbeats 4000000 in
set_option maxRecDepth 100000 in
/-- fill(track, sector, first, many) -/
theorem c_fill (l : Launch) (D : va_G) (κ : Nat → ClassId) (sz : Nat) (T S : Nat) (ad : Nat → Nat) (bs sm pl r0 r1 : Nat → Int32) (tk vo : Int32) (hT : T ≤ 12) (hS8 : S ≤ 8) (hpl : ∀ t, t < T → vp_in (pl t) (T + 2)) (t b : Nat) (ht : t < T) (hb0 : b < S) (x : Int32) (n : Nat) (hn : n ≤ 16) : Met l yX1_fill wsX1_fill ({ frames := 2, cells := 0, slots := 0, locals := 44 }) (va_Pc [.ref ((ad 0)), .int (nI t), .int (nI b), .int x, .int (nI n)] (mu_B D κ (sfW κ T S ad bs sm pl r0 r1 tk vo) sz)) (mu_Q D none (sfW κ T S ad (flF bs ((cl (pl t) * S + b) * 16) x n) sm pl r0 r1 tk vo) (va_A (sfW κ T S ad bs sm pl r0 r1 tk vo) sz)) 0 0 (va_A (sfW κ T S ad bs sm pl r0 r1 tk vo) sz) := by
  refine Met.ofW (cc := cX1_fill) (maxL := 7) (ret := none) (by decide) rfl ?_
  intro p e s m args below meth c s₁ B hml hv
  obtain ⟨rfl, hsz, hP, hK, hD0⟩ := hv
  have hx := B.exec
  have hb := B.bytes
  have hr := B.returns
  have hts := atoms_spec (ws := wsX1_fill) B.pre
  have hown : s.vm.findClass RX1 = some m.cls := findClass_of_methodNamed B.named
  have hlocks := B.notSynchronized
  subst hsz
  have hD := hD0.self (sz := s.heap.size)
  generalize hAe : va_A (sfW κ T S ad bs sm pl r0 r1 tk vo) s.heap.size = A at hD ⊢
  have hA : ∀ q : Nat, s.heap.size ≤ q → A q := fun q h => by rw [← hAe]; exact Or.inr h
  refine W.gen (P := fun H locs => va_P D vwCl (sfW κ T S ad bs sm pl r0 r1 tk vo) H ∧ va_S A s.heap H locs) (fun H locs h => ?_) ⟨hP, va_S.rf⟩
  clear hP
  obtain ⟨hP, hS⟩ := h
  have hl := lv_entry ([.ref ((ad 0)), .int (nI t), .int (nI b), .int x, .int (nI n)]) (n := 7) (Nat.le_of_ble_eq_true rfl)
  rw [lg_entry_eq]
  generalize (lg_sl ([.ref ((ad 0)), .int (nI t), .int (nI b), .int x, .int (nI n)]) ++ List.replicate (7 - (lg_sl ([.ref ((ad 0)), .int (nI t), .int (nI b), .int x, .int (nI n)])).length) Slot.unset).toArray = ls at hl ⊢
  have hl : lv_has ls 7 [(0, .ref ((ad 0))), (1, .int (nI t)), (2, .int (nI b)), (3, .int x), (4, .int (nI n))] := hl
  have hmx := sf_max hT hS8
  have hplt := cl_nI (hpl t ht) (by omega)
  refine lv_aload_n hx hb dX1_fill_0 rfl (lv_at hl 0 rfl) ?_
  refine lv_iload_n hx hb dX1_fill_1 rfl (lv_at hl 1 rfl) ?_
  refine lv_iload_n hx hb dX1_fill_2 rfl (lv_at hl 2 rfl) ?_
  have hPc := hP.sub (ws' := sfW κ T S ad bs sm pl r0 r1 tk vo) [0, 1, 2, 3, 4, 5] rfl
  refine pu_call (va_runV (As := [.int (nI t), .int (nI b)]) (rest := []) ⟨hx, hb, hml, hown, hts⟩ (c_firstByte l D κ T S ad bs sm pl r0 r1 tk vo hT hS8 hpl t b ht) (cwV 2 hts gX1_fill_X1_firstByte rfl rfl rfl (by decide +kernel) ⟨Nat.le_of_ble_eq_true rfl, Nat.le_of_ble_eq_true rfl⟩) ⟨pu_blind, va_recv hK hPc (ci := 2) (q0 := 0) rfl rfl, pu_pre hK hPc⟩ rfl rfl hl.1 rfl (lv_room (Nat.le_of_ble_eq_true rfl)) dX1_fill_3 ⟨Nat.le_of_ble_eq_true rfl, Nat.le_of_ble_eq_true rfl⟩) ?_
  refine lv_istore (lv' := [(5, .int (nI ((cl (pl t) * S + b) * 16))), (0, .ref ((ad 0))), (1, .int (nI t)), (2, .int (nI b)), (3, .int x), (4, .int (nI n))]) hx hb dX1_fill_6 hl (by decide) rfl (fun ls hl => ?_)
  refine lv_iconst (v := nI 0) hx hb dX1_fill_8 (by decide) ?_
  refine lv_istore (lv' := [(6, .int (nI 0)), (5, .int (nI ((cl (pl t) * S + b) * 16))), (0, .ref ((ad 0))), (1, .int (nI t)), (2, .int (nI b)), (3, .int x), (4, .int (nI n))]) hx hb dX1_fill_9 hl (by decide) rfl (fun ls hl => ?_)
  refine W.loop (N := n) (I := fun k ls H locs => lv_has ls 7 [(6, .int (nI k)), (5, .int (nI ((cl (pl t) * S + b) * 16))), (0, .ref ((ad 0))), (1, .int (nI t)), (2, .int (nI b)), (3, .int x), (4, .int (nI n))] ∧ va_P D vwCl (sfW κ T S ad (flF bs ((cl (pl t) * S + b) * 16) x k) sm pl r0 r1 tk vo) H ∧ va_D A (sfW κ T S ad (flF bs ((cl (pl t) * S + b) * 16) x k) sm pl r0 r1 tk vo) ∧ va_S A s.heap H locs) 0 (by omega) (fun k ls H locs hk hI ihk => ?_) (fun ls H locs hI => ?_) ⟨lv_sub hl [0, 1, 2, 3, 4, 5, 6] rfl, hP, hD, hS⟩
  · skip
    clear hl hP hD hS
    obtain ⟨hl, hP, hD, hS⟩ := hI
    have hlt := sf_lt hplt.2 hb0 (show k < 16 by omega)
    refine lv_iload hx hb dX1_fill_11 (lv_at hl 0 rfl) ?_
    refine lv_iload hx hb dX1_fill_13 (lv_at hl 6 rfl) ?_
    refine lv_icmp_ge (tgt := 39) hx hb dX1_fill_15 (by decide) (fun c_15 => ?_) (fun c_15 => ?_)
    · exact absurd c_15 (nI_ge hk (by omega))
    · skip
      refine lv_aload_n hx hb dX1_fill_18 rfl (lv_at hl 2 rfl) ?_
      refine va_get (D := D) (ci := 2) (v := .ref ((ad 1))) (C := RX1) (T := TX1) (N := 9) hx hb hts (by decide +kernel) hown hK hP 0 rfl rfl 2 (by decide) (hts (.fieldLink RX1 18 "TrackDisk$Surface" "bytes" "[B") (by decide +kernel)) (fun _ h9 => h9) rfl dX1_fill_19 ?_
      refine lv_iload hx hb dX1_fill_22 (lv_at hl 1 rfl) ?_
      refine lv_iload hx hb dX1_fill_24 (lv_at hl 0 rfl) ?_
      refine lv_iadd hx hb dX1_fill_26 ?_
      refine tp_i (y := nI (((cl (pl t) * S + b) * 16) + k)) (by exact nI_add _ _) ?_
      refine lv_iload_n hx hb dX1_fill_27 rfl (lv_at hl 5 rfl) ?_
      refine lv_iload hx hb dX1_fill_28 (lv_at hl 0 rfl) ?_
      refine lv_iadd hx hb dX1_fill_30 ?_
      refine lv_i2b (v := ((x + (nI k))).toInt8.toInt32) hx hb dX1_fill_31 rfl ?_
      refine va_bast hx hb hK hP hD hS 1 1 rfl rfl (vp_in_nI (by omega) (by omega)) dX1_fill_32 (fun H locs hP hD hS => ?_)
      rw [nI_clamp (n := ((cl (pl t) * S + b) * 16) + k) (by omega)] at hP hD
      rw [pk_vb] at hP hD
      have hP : va_P D vwCl (sfW κ T S ad (upd (flF bs ((cl (pl t) * S + b) * 16) x k) (((cl (pl t) * S + b) * 16) + k) (((x + (nI k))).toInt8.toInt32)) sm pl r0 r1 tk vo) H := hP
      have hD : va_D A (sfW κ T S ad (upd (flF bs ((cl (pl t) * S + b) * 16) x k) (((cl (pl t) * S + b) * 16) + k) (((x + (nI k))).toInt8.toInt32)) sm pl r0 r1 tk vo) := hD
      refine lv_iinc (v := nI (k + 1)) (lv' := [(6, .int (nI (k + 1))), (5, .int (nI ((cl (pl t) * S + b) * 16))), (0, .ref ((ad 0))), (1, .int (nI t)), (2, .int (nI b)), (3, .int x), (4, .int (nI n))]) hx hb dX1_fill_33 hl (k := 0) rfl (by exact nI_1 _) (by decide) rfl (fun ls hl => ?_)
      refine lv_goto (tgt := 11) hx hb dX1_fill_36 (by decide) ?_
      exact ihk ls H locs ⟨lv_sub hl [0, 1, 2, 3, 4, 5, 6] rfl, hP, hD, hS⟩
  · skip
    clear hl hP hD hS
    obtain ⟨hl, hP, hD, hS⟩ := hI
    refine lv_iload hx hb dX1_fill_11 (lv_at hl 0 rfl) ?_
    refine lv_iload hx hb dX1_fill_13 (lv_at hl 6 rfl) ?_
    refine lv_icmp_ge (tgt := 39) hx hb dX1_fill_15 (by decide) (fun c_15 => ?_) (fun c_15 => ?_)
    · skip
      have hP9 : va_P D vwCl (sfW κ T S ad (flF bs ((cl (pl t) * S + b) * 16) x n) sm pl r0 r1 tk vo) H := hP
      have hD9 : va_D A (sfW κ T S ad (flF bs ((cl (pl t) * S + b) * 16) x n) sm pl r0 r1 tk vo) := hD
      exact W.vret hx hb hr (fun t ht _ => ⟨⟨rfl, by rw [ht]; exact hP9, hD9⟩, hS.F ht⟩) hS.2.2 dX1_fill_39 hlocks
    · exact absurd (nI_le (Nat.le_refl _) (by omega)) c_15

set_option maxHeartbeats 4000000 in
set_option maxRecDepth 100000 in
/-- lay(track, sector, first) -/
theorem c_lay (l : Launch) (D : va_G) (κ : Nat → ClassId) (sz : Nat) (T S : Nat) (ad : Nat → Nat) (bs sm pl r0 r1 : Nat → Int32) (tk vo : Int32) (hT : T ≤ 12) (hS8 : S ≤ 8) (hpl : ∀ t, t < T → vp_in (pl t) (T + 2)) (t b : Nat) (ht : t < T) (hb0 : b < S) (x : Int32) : Met l yX1_lay wsX1_lay ({ frames := 3, cells := 0, slots := 0, locals := 70 }) (va_Pc [.ref ((ad 0)), .int (nI t), .int (nI b), .int x] (mu_B D κ (sfW κ T S ad bs sm pl r0 r1 tk vo) sz)) (mu_Q D none (sfW κ T S ad (flF bs ((cl (pl t) * S + b) * 16) x 16) (upd sm (cl (pl t) * S + b) (smA (flF bs ((cl (pl t) * S + b) * 16) x 16) S (cl (pl t)) b)) pl (upd r0 t (nI 1)) (upd r1 t (nI 1)) tk vo) (va_A (sfW κ T S ad bs sm pl r0 r1 tk vo) sz)) 0 0 (va_A (sfW κ T S ad bs sm pl r0 r1 tk vo) sz) := by
  refine Met.ofW (cc := cX1_lay) (maxL := 5) (ret := none) (by decide) rfl ?_
  intro p e s m args below meth c s₁ B hml hv
  obtain ⟨rfl, hsz, hP, hK, hD0⟩ := hv
  have hx := B.exec
  have hb := B.bytes
  have hr := B.returns
  have hts := atoms_spec (ws := wsX1_lay) B.pre
  have hown : s.vm.findClass RX1 = some m.cls := findClass_of_methodNamed B.named
  have hlocks := B.notSynchronized
  subst hsz
  have hD := hD0.self (sz := s.heap.size)
  generalize hAe : va_A (sfW κ T S ad bs sm pl r0 r1 tk vo) s.heap.size = A at hD ⊢
  have hA : ∀ q : Nat, s.heap.size ≤ q → A q := fun q h => by rw [← hAe]; exact Or.inr h
  refine W.gen (P := fun H locs => va_P D vwCl (sfW κ T S ad bs sm pl r0 r1 tk vo) H ∧ va_S A s.heap H locs) (fun H locs h => ?_) ⟨hP, va_S.rf⟩
  clear hP
  obtain ⟨hP, hS⟩ := h
  have hl := lv_entry ([.ref ((ad 0)), .int (nI t), .int (nI b), .int x]) (n := 5) (Nat.le_of_ble_eq_true rfl)
  rw [lg_entry_eq]
  generalize (lg_sl ([.ref ((ad 0)), .int (nI t), .int (nI b), .int x]) ++ List.replicate (5 - (lg_sl ([.ref ((ad 0)), .int (nI t), .int (nI b), .int x])).length) Slot.unset).toArray = ls at hl ⊢
  have hl : lv_has ls 5 [(0, .ref ((ad 0))), (1, .int (nI t)), (2, .int (nI b)), (3, .int x)] := hl
  have hmx := sf_max hT hS8
  have hplt := cl_nI (hpl t ht) (by omega)
  have hsl := sf_slt hplt.2 hb0
  refine lv_aload_n hx hb dX1_lay_0 rfl (lv_at hl 0 rfl) ?_
  refine lv_iload_n hx hb dX1_lay_1 rfl (lv_at hl 1 rfl) ?_
  refine lv_iload_n hx hb dX1_lay_2 rfl (lv_at hl 2 rfl) ?_
  refine lv_iload_n hx hb dX1_lay_3 rfl (lv_at hl 3 rfl) ?_
  refine lv_bipush (v := nI 16) hx hb dX1_lay_4 (by decide) ?_
  have hPc := hP.sub (ws' := sfW κ T S ad bs sm pl r0 r1 tk vo) [0, 1, 2, 3, 4, 5] rfl
  have hDc := hD.sub (ws' := sfW κ T S ad bs sm pl r0 r1 tk vo) [0, 1, 2, 3, 4, 5] (by decide) rfl
  refine mu_call (wc := sfW κ T S ad bs sm pl r0 r1 tk vo) (wc' := sfW κ T S ad (flF bs ((cl (pl t) * S + b) * 16) x 16) sm pl r0 r1 tk vo) (ws' := sfW κ T S ad (flF bs ((cl (pl t) * S + b) * 16) x 16) sm pl r0 r1 tk vo) (wr := (([] : List Nat).filterMap fun i => (sfW κ T S ad bs sm pl r0 r1 tk vo)[i]?)) (va_runV (As := [.int (nI t), .int (nI b), .int x, .int (nI 16)]) (rest := []) ⟨hx, hb, hml, hown, hts⟩ (c_fill l D κ H.size T S ad bs sm pl r0 r1 tk vo hT hS8 hpl t b ht hb0 x 16 (by omega)) (cwV 4 hts gX1_lay_X1_fill rfl rfl rfl (by decide +kernel) ⟨Nat.le_of_ble_eq_true rfl, Nat.le_of_ble_eq_true rfl⟩) ⟨mu_blind, va_recv hK hPc (ci := 2) (q0 := 0) rfl rfl, mu_pre hK hPc hDc⟩ rfl rfl hl.1 rfl (lv_room (Nat.le_of_ble_eq_true rfl)) dX1_lay_6 ⟨Nat.le_of_ble_eq_true rfl, Nat.le_of_ble_eq_true rfl⟩) hP hD hS hA [0, 1, 2, 3, 4, 5] [] [0, 1, 2, 3, 4, 5] rfl rfl (by decide) (by decide) rfl rfl (by decide) (fun H locs hP hD hS => ?_)
  refine W.eq (g2 := F0 m 9 ls []) rfl ?_
  refine lv_aload_n hx hb dX1_lay_9 rfl (lv_at hl 0 rfl) ?_
  refine va_get (D := D) (ci := 2) (v := .ref ((ad 3))) (C := RX1) (T := TX1) (N := 9) hx hb hts (by decide +kernel) hown hK hP 0 rfl rfl 4 (by decide) (hts (.fieldLink RX1 26 "TrackDisk$Surface" "place" "[I") (by decide +kernel)) (fun _ h9 => h9) rfl dX1_lay_10 ?_
  refine lv_iload_n hx hb dX1_lay_13 rfl (lv_at hl 1 rfl) ?_
  refine va_iald hx hb hK hP 3 0 rfl rfl (vp_in_nI (by omega) (by omega)) dX1_lay_14 ?_
  refine tp_i (y := nI (cl (pl t))) (by rw [nI_clamp (by omega)]; exact hplt.1) ?_
  refine lv_istore (lv' := [(4, .int (nI (cl (pl t)))), (0, .ref ((ad 0))), (1, .int (nI t)), (2, .int (nI b)), (3, .int x)]) hx hb dX1_lay_15 hl (by decide) rfl (fun ls hl => ?_)
  refine lv_aload_n hx hb dX1_lay_17 rfl (lv_at hl 1 rfl) ?_
  refine va_get (D := D) (ci := 2) (v := .ref ((ad 2))) (C := RX1) (T := TX1) (N := 9) hx hb hts (by decide +kernel) hown hK hP 0 rfl rfl 3 (by decide) (hts (.fieldLink RX1 22 "TrackDisk$Surface" "sums" "[I") (by decide +kernel)) (fun _ h9 => h9) rfl dX1_lay_18 ?_
  refine lv_aload_n hx hb dX1_lay_21 rfl (lv_at hl 1 rfl) ?_
  refine lv_iload hx hb dX1_lay_22 (lv_at hl 0 rfl) ?_
  refine lv_iload_n hx hb dX1_lay_24 rfl (lv_at hl 3 rfl) ?_
  have hPc := hP.sub (ws' := sfW κ T S ad (flF bs ((cl (pl t) * S + b) * 16) x 16) sm pl r0 r1 tk vo) [0, 1, 2, 3, 4, 5] rfl
  refine pu_call (va_runV (As := [.int (nI (cl (pl t))), .int (nI b)]) (rest := [.ref ((ad 2))]) ⟨hx, hb, hml, hown, hts⟩ (c_slot l D κ T S ad (flF bs ((cl (pl t) * S + b) * 16) x 16) sm pl r0 r1 tk vo (cl (pl t)) b) (cwV 2 hts gX1_lay_X1_slot rfl rfl rfl (by decide +kernel) ⟨Nat.le_of_ble_eq_true rfl, Nat.le_of_ble_eq_true rfl⟩) ⟨pu_blind, va_recv hK hPc (ci := 2) (q0 := 0) rfl rfl, pu_pre hK hPc⟩ rfl rfl hl.1 rfl (lv_room (Nat.le_of_ble_eq_true rfl)) dX1_lay_25 ⟨Nat.le_of_ble_eq_true rfl, Nat.le_of_ble_eq_true rfl⟩) ?_
  refine lv_aload_n hx hb dX1_lay_28 rfl (lv_at hl 1 rfl) ?_
  refine lv_iload hx hb dX1_lay_29 (lv_at hl 0 rfl) ?_
  refine lv_iload_n hx hb dX1_lay_31 rfl (lv_at hl 3 rfl) ?_
  have hPc := hP.sub (ws' := sfW κ T S ad (flF bs ((cl (pl t) * S + b) * 16) x 16) sm pl r0 r1 tk vo) [0, 1, 2, 3, 4, 5] rfl
  refine pu_call (va_runV (As := [.int (nI (cl (pl t))), .int (nI b)]) (rest := [.int (nI (cl (pl t) * S + b)), .ref ((ad 2))]) ⟨hx, hb, hml, hown, hts⟩ (c_sumOf l D κ T S ad (flF bs ((cl (pl t) * S + b) * 16) x 16) sm pl r0 r1 tk vo hT hS8 (cl (pl t)) b hplt.2 hb0) (cwV 2 hts gX1_lay_X1_sumOf rfl rfl rfl (by decide +kernel) ⟨Nat.le_of_ble_eq_true rfl, Nat.le_of_ble_eq_true rfl⟩) ⟨pu_blind, va_recv hK hPc (ci := 2) (q0 := 0) rfl rfl, pu_pre hK hPc⟩ rfl rfl hl.1 rfl (lv_room (Nat.le_of_ble_eq_true rfl)) dX1_lay_32 ⟨Nat.le_of_ble_eq_true rfl, Nat.le_of_ble_eq_true rfl⟩) ?_
  refine va_iast hx hb hK hP hD hS 2 0 rfl rfl (vp_in_nI (by omega) (by omega)) dX1_lay_35 (fun H locs hP hD hS => ?_)
  rw [nI_clamp (n := cl (pl t) * S + b) (by omega)] at hP hD
  have hP : va_P D vwCl (sfW κ T S ad (flF bs ((cl (pl t) * S + b) * 16) x 16) (upd (sm) (cl (pl t) * S + b) (smA (flF bs ((cl (pl t) * S + b) * 16) x 16) S (cl (pl t)) b)) pl r0 r1 tk vo) H := hP
  have hD : va_D A (sfW κ T S ad (flF bs ((cl (pl t) * S + b) * 16) x 16) (upd (sm) (cl (pl t) * S + b) (smA (flF bs ((cl (pl t) * S + b) * 16) x 16) S (cl (pl t)) b)) pl r0 r1 tk vo) := hD
  refine lv_aload_n hx hb dX1_lay_36 rfl (lv_at hl 1 rfl) ?_
  refine va_get (D := D) (ci := 2) (v := .ref ((ad 4))) (C := RX1) (T := TX1) (N := 9) hx hb hts (by decide +kernel) hown hK hP 0 rfl rfl 5 (by decide) (hts (.fieldLink RX1 29 "TrackDisk$Surface" "usedByRow0" "[I") (by decide +kernel)) (fun _ h9 => h9) rfl dX1_lay_37 ?_
  refine lv_iload_n hx hb dX1_lay_40 rfl (lv_at hl 2 rfl) ?_
  refine lv_iconst (v := nI 1) hx hb dX1_lay_41 (by decide) ?_
  refine va_iast hx hb hK hP hD hS 4 0 rfl rfl (vp_in_nI (by omega) (by omega)) dX1_lay_42 (fun H locs hP hD hS => ?_)
  rw [nI_clamp (n := t) (by omega)] at hP hD
  have hP : va_P D vwCl (sfW κ T S ad (flF bs ((cl (pl t) * S + b) * 16) x 16) (upd (sm) (cl (pl t) * S + b) (smA (flF bs ((cl (pl t) * S + b) * 16) x 16) S (cl (pl t)) b)) pl (upd (r0) (t) (nI 1)) r1 tk vo) H := hP
  have hD : va_D A (sfW κ T S ad (flF bs ((cl (pl t) * S + b) * 16) x 16) (upd (sm) (cl (pl t) * S + b) (smA (flF bs ((cl (pl t) * S + b) * 16) x 16) S (cl (pl t)) b)) pl (upd (r0) (t) (nI 1)) r1 tk vo) := hD
  refine lv_aload_n hx hb dX1_lay_43 rfl (lv_at hl 1 rfl) ?_
  refine va_get (D := D) (ci := 2) (v := .ref ((ad 5))) (C := RX1) (T := TX1) (N := 9) hx hb hts (by decide +kernel) hown hK hP 0 rfl rfl 6 (by decide) (hts (.fieldLink RX1 32 "TrackDisk$Surface" "usedByRow1" "[I") (by decide +kernel)) (fun _ h9 => h9) rfl dX1_lay_44 ?_
  refine lv_iload_n hx hb dX1_lay_47 rfl (lv_at hl 2 rfl) ?_
  refine lv_iconst (v := nI 1) hx hb dX1_lay_48 (by decide) ?_
  refine va_iast hx hb hK hP hD hS 5 0 rfl rfl (vp_in_nI (by omega) (by omega)) dX1_lay_49 (fun H locs hP hD hS => ?_)
  rw [nI_clamp (n := t) (by omega)] at hP hD
  have hP : va_P D vwCl (sfW κ T S ad (flF bs ((cl (pl t) * S + b) * 16) x 16) (upd (sm) (cl (pl t) * S + b) (smA (flF bs ((cl (pl t) * S + b) * 16) x 16) S (cl (pl t)) b)) pl (upd (r0) (t) (nI 1)) (upd (r1) (t) (nI 1)) tk vo) H := hP
  have hD : va_D A (sfW κ T S ad (flF bs ((cl (pl t) * S + b) * 16) x 16) (upd (sm) (cl (pl t) * S + b) (smA (flF bs ((cl (pl t) * S + b) * 16) x 16) S (cl (pl t)) b)) pl (upd (r0) (t) (nI 1)) (upd (r1) (t) (nI 1)) tk vo) := hD
  have hP9 : va_P D vwCl (sfW κ T S ad (flF bs ((cl (pl t) * S + b) * 16) x 16) (upd sm (cl (pl t) * S + b) (smA (flF bs ((cl (pl t) * S + b) * 16) x 16) S (cl (pl t)) b)) pl (upd r0 t (nI 1)) (upd r1 t (nI 1)) tk vo) H := hP
  have hD9 : va_D A (sfW κ T S ad (flF bs ((cl (pl t) * S + b) * 16) x 16) (upd sm (cl (pl t) * S + b) (smA (flF bs ((cl (pl t) * S + b) * 16) x 16) S (cl (pl t)) b)) pl (upd r0 t (nI 1)) (upd r1 t (nI 1)) tk vo) := hD
  exact W.vret hx hb hr (fun t ht _ => ⟨⟨rfl, by rw [ht]; exact hP9, hD9⟩, hS.F ht⟩) hS.2.2 dX1_lay_50 hlocks

set_option maxHeartbeats 4000000 in
set_option maxRecDepth 100000 in
/-- layTorn(track, sector, first, tear) -/
theorem c_layTorn (l : Launch) (D : va_G) (κ : Nat → ClassId) (sz : Nat) (T S : Nat) (ad : Nat → Nat) (bs sm pl r0 r1 : Nat → Int32) (tk vo : Int32) (hT : T ≤ 12) (hS8 : S ≤ 8) (hpl : ∀ t, t < T → vp_in (pl t) (T + 2)) (t b : Nat) (ht : t < T) (hb0 : b < S) (x : Int32) (n : Nat) (hn : n ≤ 16) : Met l yX1_layTorn wsX1_layTorn ({ frames := 3, cells := 0, slots := 0, locals := 70 }) (va_Pc [.ref ((ad 0)), .int (nI t), .int (nI b), .int x, .int (nI n)] (mu_B D κ (sfW κ T S ad bs sm pl r0 r1 tk vo) sz)) (mu_Q D none (sfW κ T S ad (flF bs ((cl (pl t) * S + b) * 16) x n) sm pl (upd r0 t (nI 1)) r1 tk vo) (va_A (sfW κ T S ad bs sm pl r0 r1 tk vo) sz)) 0 0 (va_A (sfW κ T S ad bs sm pl r0 r1 tk vo) sz) := by
  refine Met.ofW (cc := cX1_layTorn) (maxL := 5) (ret := none) (by decide) rfl ?_
  intro p e s m args below meth c s₁ B hml hv
  obtain ⟨rfl, hsz, hP, hK, hD0⟩ := hv
  have hx := B.exec
  have hb := B.bytes
  have hr := B.returns
  have hts := atoms_spec (ws := wsX1_layTorn) B.pre
  have hown : s.vm.findClass RX1 = some m.cls := findClass_of_methodNamed B.named
  have hlocks := B.notSynchronized
  subst hsz
  have hD := hD0.self (sz := s.heap.size)
  generalize hAe : va_A (sfW κ T S ad bs sm pl r0 r1 tk vo) s.heap.size = A at hD ⊢
  have hA : ∀ q : Nat, s.heap.size ≤ q → A q := fun q h => by rw [← hAe]; exact Or.inr h
  refine W.gen (P := fun H locs => va_P D vwCl (sfW κ T S ad bs sm pl r0 r1 tk vo) H ∧ va_S A s.heap H locs) (fun H locs h => ?_) ⟨hP, va_S.rf⟩
  clear hP
  obtain ⟨hP, hS⟩ := h
  have hl := lv_entry ([.ref ((ad 0)), .int (nI t), .int (nI b), .int x, .int (nI n)]) (n := 5) (Nat.le_of_ble_eq_true rfl)
  rw [lg_entry_eq]
  generalize (lg_sl ([.ref ((ad 0)), .int (nI t), .int (nI b), .int x, .int (nI n)]) ++ List.replicate (5 - (lg_sl ([.ref ((ad 0)), .int (nI t), .int (nI b), .int x, .int (nI n)])).length) Slot.unset).toArray = ls at hl ⊢
  have hl : lv_has ls 5 [(0, .ref ((ad 0))), (1, .int (nI t)), (2, .int (nI b)), (3, .int x), (4, .int (nI n))] := hl
  have hmx := sf_max hT hS8
  have hplt := cl_nI (hpl t ht) (by omega)
  refine lv_aload_n hx hb dX1_layTorn_0 rfl (lv_at hl 0 rfl) ?_
  refine lv_iload_n hx hb dX1_layTorn_1 rfl (lv_at hl 1 rfl) ?_
  refine lv_iload_n hx hb dX1_layTorn_2 rfl (lv_at hl 2 rfl) ?_
  refine lv_iload_n hx hb dX1_layTorn_3 rfl (lv_at hl 3 rfl) ?_
  refine lv_iload hx hb dX1_layTorn_4 (lv_at hl 4 rfl) ?_
  have hPc := hP.sub (ws' := sfW κ T S ad bs sm pl r0 r1 tk vo) [0, 1, 2, 3, 4, 5] rfl
  have hDc := hD.sub (ws' := sfW κ T S ad bs sm pl r0 r1 tk vo) [0, 1, 2, 3, 4, 5] (by decide) rfl
  refine mu_call (wc := sfW κ T S ad bs sm pl r0 r1 tk vo) (wc' := sfW κ T S ad (flF bs ((cl (pl t) * S + b) * 16) x n) sm pl r0 r1 tk vo) (ws' := sfW κ T S ad (flF bs ((cl (pl t) * S + b) * 16) x n) sm pl r0 r1 tk vo) (wr := (([] : List Nat).filterMap fun i => (sfW κ T S ad bs sm pl r0 r1 tk vo)[i]?)) (va_runV (As := [.int (nI t), .int (nI b), .int x, .int (nI n)]) (rest := []) ⟨hx, hb, hml, hown, hts⟩ (c_fill l D κ H.size T S ad bs sm pl r0 r1 tk vo hT hS8 hpl t b ht hb0 x n hn) (cwV 4 hts gX1_layTorn_X1_fill rfl rfl rfl (by decide +kernel) ⟨Nat.le_of_ble_eq_true rfl, Nat.le_of_ble_eq_true rfl⟩) ⟨mu_blind, va_recv hK hPc (ci := 2) (q0 := 0) rfl rfl, mu_pre hK hPc hDc⟩ rfl rfl hl.1 rfl (lv_room (Nat.le_of_ble_eq_true rfl)) dX1_layTorn_6 ⟨Nat.le_of_ble_eq_true rfl, Nat.le_of_ble_eq_true rfl⟩) hP hD hS hA [0, 1, 2, 3, 4, 5] [] [0, 1, 2, 3, 4, 5] rfl rfl (by decide) (by decide) rfl rfl (by decide) (fun H locs hP hD hS => ?_)
  refine W.eq (g2 := F0 m 9 ls []) rfl ?_
  refine lv_aload_n hx hb dX1_layTorn_9 rfl (lv_at hl 0 rfl) ?_
  refine va_get (D := D) (ci := 2) (v := .ref ((ad 4))) (C := RX1) (T := TX1) (N := 9) hx hb hts (by decide +kernel) hown hK hP 0 rfl rfl 5 (by decide) (hts (.fieldLink RX1 29 "TrackDisk$Surface" "usedByRow0" "[I") (by decide +kernel)) (fun _ h9 => h9) rfl dX1_layTorn_10 ?_
  refine lv_iload_n hx hb dX1_layTorn_13 rfl (lv_at hl 1 rfl) ?_
  refine lv_iconst (v := nI 1) hx hb dX1_layTorn_14 (by decide) ?_
  refine va_iast hx hb hK hP hD hS 4 0 rfl rfl (vp_in_nI (by omega) (by omega)) dX1_layTorn_15 (fun H locs hP hD hS => ?_)
  rw [nI_clamp (n := t) (by omega)] at hP hD
  have hP : va_P D vwCl (sfW κ T S ad (flF bs ((cl (pl t) * S + b) * 16) x n) sm pl (upd (r0) (t) (nI 1)) r1 tk vo) H := hP
  have hD : va_D A (sfW κ T S ad (flF bs ((cl (pl t) * S + b) * 16) x n) sm pl (upd (r0) (t) (nI 1)) r1 tk vo) := hD
  have hP9 : va_P D vwCl (sfW κ T S ad (flF bs ((cl (pl t) * S + b) * 16) x n) sm pl (upd r0 t (nI 1)) r1 tk vo) H := hP
  have hD9 : va_D A (sfW κ T S ad (flF bs ((cl (pl t) * S + b) * 16) x n) sm pl (upd r0 t (nI 1)) r1 tk vo) := hD
  exact W.vret hx hb hr (fun t ht _ => ⟨⟨rfl, by rw [ht]; exact hP9, hD9⟩, hS.F ht⟩) hS.2.2 dX1_layTorn_16 hlocks

set_option maxHeartbeats 4000000 in
set_option maxRecDepth 100000 in
/-- isWrong(track, sector) -/
theorem c_isWrong (l : Launch) (D : va_G) (κ : Nat → ClassId) (T S : Nat) (ad : Nat → Nat) (bs sm pl r0 r1 : Nat → Int32) (tk vo : Int32) (hT : T ≤ 12) (hS8 : S ≤ 8) (hpl : ∀ t, t < T → vp_in (pl t) (T + 2)) (t b : Nat) (ht : t < T) (hb0 : b < S) : Met l yX1_isWrong wsX1_isWrong ({ frames := 2, cells := 0, slots := 0, locals := 48 }) (va_Pc [.ref ((ad 0)), .int (nI t), .int (nI b)] (pu_B D κ (sfW κ T S ad bs sm pl r0 r1 tk vo))) (pu_Q (.int (bI (iwF bs sm pl S t b)))) 0 0 pu_N := by
  refine Met.ofW (cc := cX1_isWrong) (maxL := 4) (ret := (some .boolean)) (by decide) rfl ?_
  intro p e s m args below meth c s₁ B hml hv
  obtain ⟨rfl, hP, hK⟩ := hv
  have hx := B.exec
  have hb := B.bytes
  have hr := B.returns
  have hts := atoms_spec (ws := wsX1_isWrong) B.pre
  have hown : s.vm.findClass RX1 = some m.cls := findClass_of_methodNamed B.named
  have hlocks := B.notSynchronized
  have hl := lv_entry ([.ref ((ad 0)), .int (nI t), .int (nI b)]) (n := 4) (Nat.le_of_ble_eq_true rfl)
  rw [lg_entry_eq]
  generalize (lg_sl ([.ref ((ad 0)), .int (nI t), .int (nI b)]) ++ List.replicate (4 - (lg_sl ([.ref ((ad 0)), .int (nI t), .int (nI b)])).length) Slot.unset).toArray = ls at hl ⊢
  have hl : lv_has ls 4 [(0, .ref ((ad 0))), (1, .int (nI t)), (2, .int (nI b))] := hl
  have hmx := sf_max hT hS8
  have hplt := cl_nI (hpl t ht) (by omega)
  have hsl := sf_slt hplt.2 hb0
  refine lv_aload_n hx hb dX1_isWrong_0 rfl (lv_at hl 0 rfl) ?_
  refine va_get (D := D) (ci := 2) (v := .ref ((ad 3))) (C := RX1) (T := TX1) (N := 9) hx hb hts (by decide +kernel) hown hK hP 0 rfl rfl 4 (by decide) (hts (.fieldLink RX1 26 "TrackDisk$Surface" "place" "[I") (by decide +kernel)) (fun _ h9 => h9) rfl dX1_isWrong_1 ?_
  refine lv_iload_n hx hb dX1_isWrong_4 rfl (lv_at hl 1 rfl) ?_
  refine va_iald hx hb hK hP 3 0 rfl rfl (vp_in_nI (by omega) (by omega)) dX1_isWrong_5 ?_
  refine tp_i (y := nI (cl (pl t))) (by rw [nI_clamp (by omega)]; exact hplt.1) ?_
  refine lv_istore_n (lv' := [(3, .int (nI (cl (pl t)))), (0, .ref ((ad 0))), (1, .int (nI t)), (2, .int (nI b))]) hx hb dX1_isWrong_6 rfl hl (by decide) rfl (fun ls hl => ?_)
  refine lv_aload_n hx hb dX1_isWrong_7 rfl (lv_at hl 1 rfl) ?_
  refine va_get (D := D) (ci := 2) (v := .ref ((ad 2))) (C := RX1) (T := TX1) (N := 9) hx hb hts (by decide +kernel) hown hK hP 0 rfl rfl 3 (by decide) (hts (.fieldLink RX1 22 "TrackDisk$Surface" "sums" "[I") (by decide +kernel)) (fun _ h9 => h9) rfl dX1_isWrong_8 ?_
  refine lv_aload_n hx hb dX1_isWrong_11 rfl (lv_at hl 1 rfl) ?_
  refine lv_iload_n hx hb dX1_isWrong_12 rfl (lv_at hl 0 rfl) ?_
  refine lv_iload_n hx hb dX1_isWrong_13 rfl (lv_at hl 3 rfl) ?_
  have hPc := hP.sub (ws' := sfW κ T S ad bs sm pl r0 r1 tk vo) [0, 1, 2, 3, 4, 5] rfl
  refine pu_call (va_runV (As := [.int (nI (cl (pl t))), .int (nI b)]) (rest := [.ref ((ad 2))]) ⟨hx, hb, hml, hown, hts⟩ (c_slot l D κ T S ad bs sm pl r0 r1 tk vo (cl (pl t)) b) (cwV 2 hts gX1_isWrong_X1_slot rfl rfl rfl (by decide +kernel) ⟨Nat.le_of_ble_eq_true rfl, Nat.le_of_ble_eq_true rfl⟩) ⟨pu_blind, va_recv hK hPc (ci := 2) (q0 := 0) rfl rfl, pu_pre hK hPc⟩ rfl rfl hl.1 rfl (lv_room (Nat.le_of_ble_eq_true rfl)) dX1_isWrong_14 ⟨Nat.le_of_ble_eq_true rfl, Nat.le_of_ble_eq_true rfl⟩) ?_
  refine va_iald hx hb hK hP 2 0 rfl rfl (vp_in_nI (by omega) (by omega)) dX1_isWrong_17 ?_
  refine tp_i (y := sm (cl (pl t) * S + b)) (by rw [nI_clamp (by omega)]) ?_
  refine lv_aload_n hx hb dX1_isWrong_18 rfl (lv_at hl 1 rfl) ?_
  refine lv_iload_n hx hb dX1_isWrong_19 rfl (lv_at hl 0 rfl) ?_
  refine lv_iload_n hx hb dX1_isWrong_20 rfl (lv_at hl 3 rfl) ?_
  have hPc := hP.sub (ws' := sfW κ T S ad bs sm pl r0 r1 tk vo) [0, 1, 2, 3, 4, 5] rfl
  refine pu_call (va_runV (As := [.int (nI (cl (pl t))), .int (nI b)]) (rest := [.int (sm (cl (pl t) * S + b))]) ⟨hx, hb, hml, hown, hts⟩ (c_sumOf l D κ T S ad bs sm pl r0 r1 tk vo hT hS8 (cl (pl t)) b hplt.2 hb0) (cwV 2 hts gX1_isWrong_X1_sumOf rfl rfl rfl (by decide +kernel) ⟨Nat.le_of_ble_eq_true rfl, Nat.le_of_ble_eq_true rfl⟩) ⟨pu_blind, va_recv hK hPc (ci := 2) (q0 := 0) rfl rfl, pu_pre hK hPc⟩ rfl rfl hl.1 rfl (lv_room (Nat.le_of_ble_eq_true rfl)) dX1_isWrong_21 ⟨Nat.le_of_ble_eq_true rfl, Nat.le_of_ble_eq_true rfl⟩) ?_
  refine lv_icmp_eq (tgt := 31) hx hb dX1_isWrong_24 (by decide) (fun c_24 => ?_) (fun c_24 => ?_)
  · skip
    refine lv_iconst (v := nI 0) hx hb dX1_isWrong_31 (by decide) ?_
    refine tp_i (y := bI (iwF bs sm pl S t b)) (bI_f (by simp only [iwF, decide_eq_false_iff_not, Decidable.not_not]; exact c_24)) ?_
    exact pu_zret hx hb hr (by cases iwF bs sm pl S t b <;> rfl) hlocks dX1_isWrong_32
  · skip
    refine lv_iconst (v := nI 1) hx hb dX1_isWrong_27 (by decide) ?_
    refine lv_goto (tgt := 32) hx hb dX1_isWrong_28 (by decide) ?_
    refine tp_i (y := bI (iwF bs sm pl S t b)) (bI_t (by simp only [iwF, decide_eq_true_eq]; exact c_24)) ?_
    exact pu_zret hx hb hr (by cases iwF bs sm pl S t b <;> rfl) hlocks dX1_isWrong_32

set_option maxHeartbeats 4000000 in
set_option maxRecDepth 100000 in
/-- wrongSectors() -/
theorem c_wrongSectors (l : Launch) (D : va_G) (κ : Nat → ClassId) (T S : Nat) (ad : Nat → Nat) (bs sm pl r0 r1 : Nat → Int32) (tk vo : Int32) (hT : T ≤ 12) (hS8 : S ≤ 8) (hpl : ∀ t, t < T → vp_in (pl t) (T + 2))  : Met l yX1_wrongSectors wsX1_wrongSectors ({ frames := 3, cells := 0, slots := 0, locals := 71 }) (va_Pc [.ref ((ad 0))] (pu_B D κ (sfW κ T S ad bs sm pl r0 r1 tk vo))) (pu_Q (.int (nI (cn2 (iwF bs sm pl S) S T)))) 0 0 pu_N := by
  refine Met.ofW (cc := cX1_wrongSectors) (maxL := 4) (ret := (some .int)) (by decide) rfl ?_
  intro p e s m args below meth c s₁ B hml hv
  obtain ⟨rfl, hP, hK⟩ := hv
  have hx := B.exec
  have hb := B.bytes
  have hr := B.returns
  have hts := atoms_spec (ws := wsX1_wrongSectors) B.pre
  have hown : s.vm.findClass RX1 = some m.cls := findClass_of_methodNamed B.named
  have hlocks := B.notSynchronized
  have hl := lv_entry ([.ref ((ad 0))]) (n := 4) (Nat.le_of_ble_eq_true rfl)
  rw [lg_entry_eq]
  generalize (lg_sl ([.ref ((ad 0))]) ++ List.replicate (4 - (lg_sl ([.ref ((ad 0))])).length) Slot.unset).toArray = ls at hl ⊢
  have hl : lv_has ls 4 [(0, .ref ((ad 0)))] := hl
  have hmx := sf_max hT hS8
  refine lv_iconst (v := nI 0) hx hb dX1_wrongSectors_0 (by decide) ?_
  refine lv_istore_n (lv' := [(1, .int (nI 0)), (0, .ref ((ad 0)))]) hx hb dX1_wrongSectors_1 rfl hl (by decide) rfl (fun ls hl => ?_)
  refine lv_iconst (v := nI 0) hx hb dX1_wrongSectors_2 (by decide) ?_
  refine lv_istore_n (lv' := [(2, .int (nI 0)), (1, .int (nI 0)), (0, .ref ((ad 0)))]) hx hb dX1_wrongSectors_3 rfl hl (by decide) rfl (fun ls hl => ?_)
  refine W.loopP (N := T) (I := fun t ls => lv_has ls 4 [(2, .int (nI t)), (1, .int (nI (cn2 (iwF bs sm pl S) S t))), (0, .ref ((ad 0)))]) 0 (by omega) (fun t ls ht hl iht => ?_) (fun ls hl => ?_) (lv_sub hl [0, 1, 2] rfl)
  · skip
    refine lv_iload_n hx hb dX1_wrongSectors_4 rfl (lv_at hl 0 rfl) ?_
    refine lv_aload_n hx hb dX1_wrongSectors_5 rfl (lv_at hl 2 rfl) ?_
    refine va_get (D := D) (ci := 2) (v := .int (nI T)) (C := RX1) (T := TX1) (N := 9) hx hb hts (by decide +kernel) hown hK hP 0 rfl rfl 0 (by decide) (hts (.fieldLink RX1 9 "TrackDisk$Surface" "tracks" "I") (by decide +kernel)) (fun _ h9 => h9) rfl dX1_wrongSectors_6 ?_
    refine lv_icmp_ge (tgt := 46) hx hb dX1_wrongSectors_9 (by decide) (fun c_9 => ?_) (fun c_9 => ?_)
    · exact absurd c_9 (nI_ge ht (by omega))
    · skip
      refine lv_iconst (v := nI 0) hx hb dX1_wrongSectors_12 (by decide) ?_
      refine lv_istore_n (lv' := [(3, .int (nI 0)), (2, .int (nI t)), (1, .int (nI (cn2 (iwF bs sm pl S) S t))), (0, .ref ((ad 0)))]) hx hb dX1_wrongSectors_13 rfl hl (by decide) rfl (fun ls hl => ?_)
      refine W.loopP (N := S) (I := fun k ls => lv_has ls 4 [(3, .int (nI k)), (2, .int (nI t)), (1, .int (nI (cn2 (iwF bs sm pl S) S t + cnt (iwF bs sm pl S t) k))), (0, .ref ((ad 0)))]) 0 (by omega) (fun k ls hk hl ihk => ?_) (fun ls hl => ?_) (lv_sub hl [0, 1, 2, 3] rfl)
      · skip
        refine lv_iload_n hx hb dX1_wrongSectors_14 rfl (lv_at hl 0 rfl) ?_
        refine lv_aload_n hx hb dX1_wrongSectors_15 rfl (lv_at hl 3 rfl) ?_
        refine va_get (D := D) (ci := 2) (v := .int (nI S)) (C := RX1) (T := TX1) (N := 9) hx hb hts (by decide +kernel) hown hK hP 0 rfl rfl 1 (by decide) (hts (.fieldLink RX1 15 "TrackDisk$Surface" "sectors" "I") (by decide +kernel)) (fun _ h9 => h9) rfl dX1_wrongSectors_16 ?_
        refine lv_icmp_ge (tgt := 40) hx hb dX1_wrongSectors_19 (by decide) (fun c_19 => ?_) (fun c_19 => ?_)
        · exact absurd c_19 (nI_ge hk (by omega))
        · skip
          refine lv_aload_n hx hb dX1_wrongSectors_22 rfl (lv_at hl 3 rfl) ?_
          refine lv_iload_n hx hb dX1_wrongSectors_23 rfl (lv_at hl 1 rfl) ?_
          refine lv_iload_n hx hb dX1_wrongSectors_24 rfl (lv_at hl 0 rfl) ?_
          have hPc := hP.sub (ws' := sfW κ T S ad bs sm pl r0 r1 tk vo) [0, 1, 2, 3, 4, 5] rfl
          refine pu_call (va_runV (As := [.int (nI t), .int (nI k)]) (rest := []) ⟨hx, hb, hml, hown, hts⟩ (c_isWrong l D κ T S ad bs sm pl r0 r1 tk vo hT hS8 hpl t k ht hk) (cwV 2 hts gX1_wrongSectors_X1_isWrong rfl rfl rfl (by decide +kernel) ⟨Nat.le_of_ble_eq_true rfl, Nat.le_of_ble_eq_true rfl⟩) ⟨pu_blind, va_recv hK hPc (ci := 2) (q0 := 0) rfl rfl, pu_pre hK hPc⟩ rfl rfl hl.1 rfl (lv_room (Nat.le_of_ble_eq_true rfl)) dX1_wrongSectors_25 ⟨Nat.le_of_ble_eq_true rfl, Nat.le_of_ble_eq_true rfl⟩) ?_
          refine lv_if_eq (tgt := 34) hx hb dX1_wrongSectors_28 (by decide) (fun c_28 => ?_) (fun c_28 => ?_)
          · skip
            rw [show cnt (iwF bs sm pl S t) k = cnt (iwF bs sm pl S t) (k + 1) from (cnt_f (bI_eq c_28)).symm] at hl
            refine lv_iinc (v := nI (k + 1)) (lv' := [(3, .int (nI (k + 1))), (2, .int (nI t)), (1, .int (nI (cn2 (iwF bs sm pl S) S t + cnt (iwF bs sm pl S t) (k + 1)))), (0, .ref ((ad 0)))]) hx hb dX1_wrongSectors_34 hl (k := 0) rfl (by exact nI_1 _) (by decide) rfl (fun ls hl => ?_)
            refine lv_goto (tgt := 14) hx hb dX1_wrongSectors_37 (by decide) ?_
            exact ihk ls (lv_sub hl [0, 1, 2, 3] rfl)
          · skip
            refine lv_iinc (v := nI (cn2 (iwF bs sm pl S) S t + cnt (iwF bs sm pl S t) (k + 1))) (lv' := [(1, .int (nI (cn2 (iwF bs sm pl S) S t + cnt (iwF bs sm pl S t) (k + 1)))), (3, .int (nI k)), (2, .int (nI t)), (0, .ref ((ad 0)))]) hx hb dX1_wrongSectors_31 hl (k := 2) rfl (by rw [cnt_t (bI_ne c_28), ← Nat.add_assoc]; exact nI_1 _) (by decide) rfl (fun ls hl => ?_)
            refine lv_iinc (v := nI (k + 1)) (lv' := [(3, .int (nI (k + 1))), (1, .int (nI (cn2 (iwF bs sm pl S) S t + cnt (iwF bs sm pl S t) (k + 1)))), (2, .int (nI t)), (0, .ref ((ad 0)))]) hx hb dX1_wrongSectors_34 hl (k := 1) rfl (by exact nI_1 _) (by decide) rfl (fun ls hl => ?_)
            refine lv_goto (tgt := 14) hx hb dX1_wrongSectors_37 (by decide) ?_
            exact ihk ls (lv_sub hl [0, 2, 1, 3] rfl)
      · skip
        refine lv_iload_n hx hb dX1_wrongSectors_14 rfl (lv_at hl 0 rfl) ?_
        refine lv_aload_n hx hb dX1_wrongSectors_15 rfl (lv_at hl 3 rfl) ?_
        refine va_get (D := D) (ci := 2) (v := .int (nI S)) (C := RX1) (T := TX1) (N := 9) hx hb hts (by decide +kernel) hown hK hP 0 rfl rfl 1 (by decide) (hts (.fieldLink RX1 15 "TrackDisk$Surface" "sectors" "I") (by decide +kernel)) (fun _ h9 => h9) rfl dX1_wrongSectors_16 ?_
        refine lv_icmp_ge (tgt := 40) hx hb dX1_wrongSectors_19 (by decide) (fun c_19 => ?_) (fun c_19 => ?_)
        · skip
          refine lv_iinc (v := nI (t + 1)) (lv' := [(2, .int (nI (t + 1))), (3, .int (nI S)), (1, .int (nI (cn2 (iwF bs sm pl S) S t + cnt (iwF bs sm pl S t) S))), (0, .ref ((ad 0)))]) hx hb dX1_wrongSectors_40 hl (k := 1) rfl (by exact nI_1 _) (by decide) rfl (fun ls hl => ?_)
          refine lv_goto (tgt := 4) hx hb dX1_wrongSectors_43 (by decide) ?_
          exact iht ls (lv_sub hl [0, 2, 3] rfl)
        · exact absurd (nI_le (Nat.le_refl _) (by omega)) c_19
  · skip
    refine lv_iload_n hx hb dX1_wrongSectors_4 rfl (lv_at hl 0 rfl) ?_
    refine lv_aload_n hx hb dX1_wrongSectors_5 rfl (lv_at hl 2 rfl) ?_
    refine va_get (D := D) (ci := 2) (v := .int (nI T)) (C := RX1) (T := TX1) (N := 9) hx hb hts (by decide +kernel) hown hK hP 0 rfl rfl 0 (by decide) (hts (.fieldLink RX1 9 "TrackDisk$Surface" "tracks" "I") (by decide +kernel)) (fun _ h9 => h9) rfl dX1_wrongSectors_6 ?_
    refine lv_icmp_ge (tgt := 46) hx hb dX1_wrongSectors_9 (by decide) (fun c_9 => ?_) (fun c_9 => ?_)
    · skip
      refine lv_iload_n hx hb dX1_wrongSectors_46 rfl (lv_at hl 1 rfl) ?_
      exact pu_iret hx hb hr hlocks dX1_wrongSectors_47
    · exact absurd (nI_le (Nat.le_refl _) (by omega)) c_9
end
section
/-! Surface, second part -/
theorem sf_tlt {T S p k : Nat} (hp : p < T + 2) (hk : k < S * 16) : (p * S + 0) * 16 + k < (T + 2) * S * 16 := by
  have h1 : (p + 1) * S ≤ (T + 2) * S := Nat.mul_le_mul_right S (by omega)
  rw [Nat.succ_mul] at h1
  omega
theorem sf_tle {T S p : Nat} (hp : p < T + 2) : (p * S + 0) * 16 + S * 16 ≤ (T + 2) * S * 16 := by
  have h1 : (p + 1) * S ≤ (T + 2) * S := Nat.mul_le_mul_right S (by omega)
  rw [Nat.succ_mul] at h1
  omega
theorem nz_t {f : Nat → Int32} {a k n : Nat} (hk : k < n) (h : ¬ f (a + k) = 0) : nzF f a n = true := by
  induction n with
  | zero => omega
  | succ n ih =>
    rcases Nat.lt_or_ge k n with q | q
    · simp [nzF, ih q]
    · have : k = n := by omega
      subst this
      simp [nzF, h]
/-- whether a track holds more than zeros -/
def usF (bs pl : Nat → Int32) (S t : Nat) : Bool := nzF bs ((cl (pl t) * S + 0) * 16) (S * 16)
/-- the first wrong one, as track * 8 + sector, or -1 -/
def fwS (f : Nat → Nat → Bool) (T S : Nat) (r : Int32) : Prop := (r = -1 ∧ ∀ t s, t < T → s < S → f t s = false) ∨ ∃ t s, t < T ∧ s < S ∧ f t s = true ∧ (∀ t' s', t' < T → s' < S → t' * 8 + s' < t * 8 + s → f t' s' = false) ∧ r = nI (t * 8 + s)
theorem fwS_u {f : Nat → Nat → Bool} {T S : Nat} {x y : Int32} (hx : fwS f T S x) (hy : fwS f T S y) : x = y := by
  rcases hx with ⟨ex, ax⟩ | ⟨t, s, h1, h2, h3, h4, ex⟩ <;> rcases hy with ⟨ey, ay⟩ | ⟨t', s', g1, g2, g3, g4, ey⟩
  · rw [ex, ey]
  · rw [ax t' s' g1 g2] at g3; cases g3
  · rw [ay t s h1 h2] at h3; cases h3
  · rcases Nat.lt_trichotomy (t * 8 + s) (t' * 8 + s') with q | q | q
    · rw [g4 t s h1 h2 q] at h3; cases h3
    · rw [ex, ey, q]
    · rw [h4 t' s' g1 g2 q] at g3; cases g3
theorem fw_out {f : Nat → Nat → Bool} {S t : Nat} (h : ∀ t' s', t' < t → s' < S → f t' s' = false) (g : ∀ s', s' < S → f t s' = false) : ∀ t' s', t' < t + 1 → s' < S → f t' s' = false := by
  intro t' s' h1 h2
  rcases Nat.lt_or_ge t' t with q | q
  · exact h t' s' q h2
  · have : t' = t := by omega
    subst this
    exact g s' h2
theorem fw_at {f : Nat → Nat → Bool} {T S t k : Nat} (hS : S ≤ 8) (ht : t < T) (hk : k < S) (h : ∀ t' s', t' < t → s' < S → f t' s' = false) (g : ∀ s', s' < k → f t s' = false) (e : f t k = true) : fwS f T S (nI (t * 8 + k)) := by
  refine Or.inr ⟨t, k, ht, hk, e, fun t' s' h1 h2 h3 => ?_, rfl⟩
  rcases Nat.lt_or_ge t' t with q | q
  · exact h t' s' q h2
  · have : t' = t := by omega
    subst this
    exact g s' (by omega)
/-- mending: where the rows differ -/
def dfF (r0 r1 : Nat → Int32) (t : Nat) : Bool := decide (¬ r0 t = r1 t)
def mdR (u : Nat → Bool) (r0 r1 x : Nat → Int32) (n : Nat) : Nat → Int32 := fun j => if j < n ∧ ¬ r0 j = r1 j then bI (u j) else x j
theorem mdR_0 {u : Nat → Bool} {r0 r1 x : Nat → Int32} : mdR u r0 r1 x 0 = x := by funext j; simp [mdR]
theorem mdR_at {u : Nat → Bool} {r0 r1 x : Nat → Int32} {n : Nat} : mdR u r0 r1 x n n = x n := by simp [mdR]
theorem mdR_s {u : Nat → Bool} {r0 r1 x : Nat → Int32} {n : Nat} (h : r0 n = r1 n) : mdR u r0 r1 x n = mdR u r0 r1 x (n + 1) := by
  funext j
  by_cases q : j = n
  · subst q; simp [mdR, h]
  · simp only [mdR, show (j < n + 1) = (j < n) from propext ⟨fun _ => by omega, fun _ => by omega⟩]
theorem mdR_u {u : Nat → Bool} {r0 r1 x : Nat → Int32} {n : Nat} {v : Int32} (h : ¬ r0 n = r1 n) (hv : v = bI (u n)) : upd (mdR u r0 r1 x n) n v = mdR u r0 r1 x (n + 1) := by
  funext j
  by_cases q : j = n
  · subst q; rw [pk_us]; simp [mdR, h, hv]
  · rw [pk_un q]; simp only [mdR, show (j < n + 1) = (j < n) from propext ⟨fun _ => by omega, fun _ => by omega⟩]
def isF (pl : Nat → Int32) (T t : Nat) : Bool := decide (T ≤ cl (pl t))
/-- whether two rows differ in one of n places from a on -/
def dnF (f g : Nat → Int32) (a : Nat) : Nat → Bool
  | 0 => false
  | n + 1 => dnF f g a n || decide (¬ f (a + n) = g (a + n))
theorem dn_t {f g : Nat → Int32} {a k n : Nat} (hk : k < n) (h : ¬ f (a + k) = g (a + k)) : dnF f g a n = true := by
  induction n with
  | zero => omega
  | succ n ih =>
    rcases Nat.lt_or_ge k n with q | q
    · simp [dnF, ih q]
    · have : k = n := by omega
      subst this
      simp [dnF, h]
theorem sf_qlt {T S q k : Nat} (hq : q < (T + 2) * S) (hk : k < 16) : q * 16 + k < (T + 2) * S * 16 := by omega

set_option maxHeartbeats 4000000 in
set_option maxRecDepth 100000 in
/-- firstWrong() -/
theorem c_firstWrong (l : Launch) (D : va_G) (κ : Nat → ClassId) (T S : Nat) (ad : Nat → Nat) (bs sm pl r0 r1 : Nat → Int32) (tk vo : Int32) (hT : T ≤ 12) (hS8 : S ≤ 8) (hpl : ∀ t, t < T → vp_in (pl t) (T + 2)) (r : Int32) (hfw : fwS (iwF bs sm pl S) T S r) : Met l yX1_firstWrong wsX1_firstWrong ({ frames := 3, cells := 0, slots := 0, locals := 71 }) (va_Pc [.ref ((ad 0))] (pu_B D κ (sfW κ T S ad bs sm pl r0 r1 tk vo))) (pu_Q (.int (r))) 0 0 pu_N := by
  refine Met.ofW (cc := cX1_firstWrong) (maxL := 3) (ret := (some .int)) (by decide) rfl ?_
  intro p e s m args below meth c s₁ B hml hv
  obtain ⟨rfl, hP, hK⟩ := hv
  have hx := B.exec
  have hb := B.bytes
  have hr := B.returns
  have hts := atoms_spec (ws := wsX1_firstWrong) B.pre
  have hown : s.vm.findClass RX1 = some m.cls := findClass_of_methodNamed B.named
  have hlocks := B.notSynchronized
  have hl := lv_entry ([.ref ((ad 0))]) (n := 3) (Nat.le_of_ble_eq_true rfl)
  rw [lg_entry_eq]
  generalize (lg_sl ([.ref ((ad 0))]) ++ List.replicate (3 - (lg_sl ([.ref ((ad 0))])).length) Slot.unset).toArray = ls at hl ⊢
  have hl : lv_has ls 3 [(0, .ref ((ad 0)))] := hl
  have hmx := sf_max hT hS8
  refine lv_iconst (v := nI 0) hx hb dX1_firstWrong_0 (by decide) ?_
  refine lv_istore_n (lv' := [(1, .int (nI 0)), (0, .ref ((ad 0)))]) hx hb dX1_firstWrong_1 rfl hl (by decide) rfl (fun ls hl => ?_)
  refine W.loopP (N := T) (I := fun t ls => lv_has ls 3 [(1, .int (nI t)), (0, .ref ((ad 0)))] ∧ (∀ t' s', t' < t → s' < S → iwF bs sm pl S t' s' = false)) 0 (by omega) (fun t ls ht hI iht => ?_) (fun ls hI => ?_) ⟨lv_sub hl [0, 1] rfl, fun _ _ h => absurd h (Nat.not_lt_zero _)⟩
  · skip
    clear hl
    obtain ⟨hl, hJt⟩ := hI
    refine lv_iload_n hx hb dX1_firstWrong_2 rfl (lv_at hl 0 rfl) ?_
    refine lv_aload_n hx hb dX1_firstWrong_3 rfl (lv_at hl 1 rfl) ?_
    refine va_get (D := D) (ci := 2) (v := .int (nI T)) (C := RX1) (T := TX1) (N := 9) hx hb hts (by decide +kernel) hown hK hP 0 rfl rfl 0 (by decide) (hts (.fieldLink RX1 9 "TrackDisk$Surface" "tracks" "I") (by decide +kernel)) (fun _ h9 => h9) rfl dX1_firstWrong_4 ?_
    refine lv_icmp_ge (tgt := 48) hx hb dX1_firstWrong_7 (by decide) (fun c_7 => ?_) (fun c_7 => ?_)
    · exact absurd c_7 (nI_ge ht (by omega))
    · skip
      refine lv_iconst (v := nI 0) hx hb dX1_firstWrong_10 (by decide) ?_
      refine lv_istore_n (lv' := [(2, .int (nI 0)), (1, .int (nI t)), (0, .ref ((ad 0)))]) hx hb dX1_firstWrong_11 rfl hl (by decide) rfl (fun ls hl => ?_)
      refine W.loopP (N := S) (I := fun k ls => lv_has ls 3 [(2, .int (nI k)), (1, .int (nI t)), (0, .ref ((ad 0)))] ∧ (∀ s', s' < k → iwF bs sm pl S t s' = false)) 0 (by omega) (fun k ls hk hI ihk => ?_) (fun ls hI => ?_) ⟨lv_sub hl [0, 1, 2] rfl, fun _ h => absurd h (Nat.not_lt_zero _)⟩
      · skip
        clear hl
        obtain ⟨hl, hJk⟩ := hI
        refine lv_iload_n hx hb dX1_firstWrong_12 rfl (lv_at hl 0 rfl) ?_
        refine lv_aload_n hx hb dX1_firstWrong_13 rfl (lv_at hl 2 rfl) ?_
        refine va_get (D := D) (ci := 2) (v := .int (nI S)) (C := RX1) (T := TX1) (N := 9) hx hb hts (by decide +kernel) hown hK hP 0 rfl rfl 1 (by decide) (hts (.fieldLink RX1 15 "TrackDisk$Surface" "sectors" "I") (by decide +kernel)) (fun _ h9 => h9) rfl dX1_firstWrong_14 ?_
        refine lv_icmp_ge (tgt := 42) hx hb dX1_firstWrong_17 (by decide) (fun c_17 => ?_) (fun c_17 => ?_)
        · exact absurd c_17 (nI_ge hk (by omega))
        · skip
          refine lv_aload_n hx hb dX1_firstWrong_20 rfl (lv_at hl 2 rfl) ?_
          refine lv_iload_n hx hb dX1_firstWrong_21 rfl (lv_at hl 1 rfl) ?_
          refine lv_iload_n hx hb dX1_firstWrong_22 rfl (lv_at hl 0 rfl) ?_
          have hPc := hP.sub (ws' := sfW κ T S ad bs sm pl r0 r1 tk vo) [0, 1, 2, 3, 4, 5] rfl
          refine pu_call (va_runV (As := [.int (nI t), .int (nI k)]) (rest := []) ⟨hx, hb, hml, hown, hts⟩ (c_isWrong l D κ T S ad bs sm pl r0 r1 tk vo hT hS8 hpl t k ht hk) (cwV 2 hts gX1_firstWrong_X1_isWrong rfl rfl rfl (by decide +kernel) ⟨Nat.le_of_ble_eq_true rfl, Nat.le_of_ble_eq_true rfl⟩) ⟨pu_blind, va_recv hK hPc (ci := 2) (q0 := 0) rfl rfl, pu_pre hK hPc⟩ rfl rfl hl.1 rfl (lv_room (Nat.le_of_ble_eq_true rfl)) dX1_firstWrong_23 ⟨Nat.le_of_ble_eq_true rfl, Nat.le_of_ble_eq_true rfl⟩) ?_
          refine lv_if_eq (tgt := 36) hx hb dX1_firstWrong_26 (by decide) (fun c_26 => ?_) (fun c_26 => ?_)
          · skip
            refine lv_iinc (v := nI (k + 1)) (lv' := [(2, .int (nI (k + 1))), (1, .int (nI t)), (0, .ref ((ad 0)))]) hx hb dX1_firstWrong_36 hl (k := 0) rfl (by exact nI_1 _) (by decide) rfl (fun ls hl => ?_)
            refine lv_goto (tgt := 12) hx hb dX1_firstWrong_39 (by decide) ?_
            exact ihk ls ⟨lv_sub hl [0, 1, 2] rfl, lt_s hJk (bI_eq c_26)⟩
          · skip
            refine lv_iload_n hx hb dX1_firstWrong_29 rfl (lv_at hl 1 rfl) ?_
            refine lv_bipush (v := nI 8) hx hb dX1_firstWrong_30 (by decide) ?_
            refine lv_imul hx hb dX1_firstWrong_32 ?_
            refine tp_i (y := nI (t * 8)) (by exact pk_mul _ _) ?_
            refine lv_iload_n hx hb dX1_firstWrong_33 rfl (lv_at hl 0 rfl) ?_
            refine lv_iadd hx hb dX1_firstWrong_34 ?_
            refine tp_i (y := nI ((t * 8) + k)) (by exact nI_add _ _) ?_
            refine tp_i (y := r) (fwS_u (fw_at hS8 ht hk hJt hJk (bI_ne c_26)) hfw) ?_
            exact pu_iret hx hb hr hlocks dX1_firstWrong_35
      · skip
        clear hl
        obtain ⟨hl, hJk⟩ := hI
        refine lv_iload_n hx hb dX1_firstWrong_12 rfl (lv_at hl 0 rfl) ?_
        refine lv_aload_n hx hb dX1_firstWrong_13 rfl (lv_at hl 2 rfl) ?_
        refine va_get (D := D) (ci := 2) (v := .int (nI S)) (C := RX1) (T := TX1) (N := 9) hx hb hts (by decide +kernel) hown hK hP 0 rfl rfl 1 (by decide) (hts (.fieldLink RX1 15 "TrackDisk$Surface" "sectors" "I") (by decide +kernel)) (fun _ h9 => h9) rfl dX1_firstWrong_14 ?_
        refine lv_icmp_ge (tgt := 42) hx hb dX1_firstWrong_17 (by decide) (fun c_17 => ?_) (fun c_17 => ?_)
        · skip
          refine lv_iinc (v := nI (t + 1)) (lv' := [(1, .int (nI (t + 1))), (2, .int (nI S)), (0, .ref ((ad 0)))]) hx hb dX1_firstWrong_42 hl (k := 1) rfl (by exact nI_1 _) (by decide) rfl (fun ls hl => ?_)
          refine lv_goto (tgt := 2) hx hb dX1_firstWrong_45 (by decide) ?_
          exact iht ls ⟨lv_sub hl [0, 2] rfl, fw_out hJt hJk⟩
        · exact absurd (nI_le (Nat.le_refl _) (by omega)) c_17
  · skip
    clear hl
    obtain ⟨hl, hJt⟩ := hI
    refine lv_iload_n hx hb dX1_firstWrong_2 rfl (lv_at hl 0 rfl) ?_
    refine lv_aload_n hx hb dX1_firstWrong_3 rfl (lv_at hl 1 rfl) ?_
    refine va_get (D := D) (ci := 2) (v := .int (nI T)) (C := RX1) (T := TX1) (N := 9) hx hb hts (by decide +kernel) hown hK hP 0 rfl rfl 0 (by decide) (hts (.fieldLink RX1 9 "TrackDisk$Surface" "tracks" "I") (by decide +kernel)) (fun _ h9 => h9) rfl dX1_firstWrong_4 ?_
    refine lv_icmp_ge (tgt := 48) hx hb dX1_firstWrong_7 (by decide) (fun c_7 => ?_) (fun c_7 => ?_)
    · skip
      refine lv_iconst (v := (-1)) hx hb dX1_firstWrong_48 (by decide) ?_
      refine tp_i (y := r) (fwS_u (Or.inl ⟨rfl, hJt⟩) hfw) ?_
      exact pu_iret hx hb hr hlocks dX1_firstWrong_49
    · exact absurd (nI_le (Nat.le_refl _) (by omega)) c_7

set_option maxHeartbeats 4000000 in
set_option maxRecDepth 100000 in
/-- holdsMoreThanZeros(track) -/
theorem c_holds (l : Launch) (D : va_G) (κ : Nat → ClassId) (T S : Nat) (ad : Nat → Nat) (bs sm pl r0 r1 : Nat → Int32) (tk vo : Int32) (hT : T ≤ 12) (hS8 : S ≤ 8) (hpl : ∀ t, t < T → vp_in (pl t) (T + 2)) (t : Nat) (ht : t < T) : Met l yX1_holdsMoreThanZeros wsX1_holdsMoreThanZeros ({ frames := 2, cells := 0, slots := 0, locals := 44 }) (va_Pc [.ref ((ad 0)), .int (nI t)] (pu_B D κ (sfW κ T S ad bs sm pl r0 r1 tk vo))) (pu_Q (.int (bI (usF bs pl S t)))) 0 0 pu_N := by
  refine Met.ofW (cc := cX1_holdsMoreThanZeros) (maxL := 4) (ret := (some .boolean)) (by decide) rfl ?_
  intro p e s m args below meth c s₁ B hml hv
  obtain ⟨rfl, hP, hK⟩ := hv
  have hx := B.exec
  have hb := B.bytes
  have hr := B.returns
  have hts := atoms_spec (ws := wsX1_holdsMoreThanZeros) B.pre
  have hown : s.vm.findClass RX1 = some m.cls := findClass_of_methodNamed B.named
  have hlocks := B.notSynchronized
  have hl := lv_entry ([.ref ((ad 0)), .int (nI t)]) (n := 4) (Nat.le_of_ble_eq_true rfl)
  rw [lg_entry_eq]
  generalize (lg_sl ([.ref ((ad 0)), .int (nI t)]) ++ List.replicate (4 - (lg_sl ([.ref ((ad 0)), .int (nI t)])).length) Slot.unset).toArray = ls at hl ⊢
  have hl : lv_has ls 4 [(0, .ref ((ad 0))), (1, .int (nI t))] := hl
  have hmx := sf_max hT hS8
  have hplt := cl_nI (hpl t ht) (by omega)
  refine lv_aload_n hx hb dX1_holdsMoreThanZeros_0 rfl (lv_at hl 0 rfl) ?_
  refine lv_iload_n hx hb dX1_holdsMoreThanZeros_1 rfl (lv_at hl 1 rfl) ?_
  refine lv_iconst (v := nI 0) hx hb dX1_holdsMoreThanZeros_2 (by decide) ?_
  have hPc := hP.sub (ws' := sfW κ T S ad bs sm pl r0 r1 tk vo) [0, 1, 2, 3, 4, 5] rfl
  refine pu_call (va_runV (As := [.int (nI t), .int (nI 0)]) (rest := []) ⟨hx, hb, hml, hown, hts⟩ (c_firstByte l D κ T S ad bs sm pl r0 r1 tk vo hT hS8 hpl t 0 ht) (cwV 2 hts gX1_holdsMoreThanZeros_X1_firstByte rfl rfl rfl (by decide +kernel) ⟨Nat.le_of_ble_eq_true rfl, Nat.le_of_ble_eq_true rfl⟩) ⟨pu_blind, va_recv hK hPc (ci := 2) (q0 := 0) rfl rfl, pu_pre hK hPc⟩ rfl rfl hl.1 rfl (lv_room (Nat.le_of_ble_eq_true rfl)) dX1_holdsMoreThanZeros_3 ⟨Nat.le_of_ble_eq_true rfl, Nat.le_of_ble_eq_true rfl⟩) ?_
  refine lv_istore_n (lv' := [(2, .int (nI ((cl (pl t) * S + 0) * 16))), (0, .ref ((ad 0))), (1, .int (nI t))]) hx hb dX1_holdsMoreThanZeros_6 rfl hl (by decide) rfl (fun ls hl => ?_)
  refine lv_iconst (v := nI 0) hx hb dX1_holdsMoreThanZeros_7 (by decide) ?_
  refine lv_istore_n (lv' := [(3, .int (nI 0)), (2, .int (nI ((cl (pl t) * S + 0) * 16))), (0, .ref ((ad 0))), (1, .int (nI t))]) hx hb dX1_holdsMoreThanZeros_8 rfl hl (by decide) rfl (fun ls hl => ?_)
  refine W.loopP (N := S * 16) (I := fun k ls => lv_has ls 4 [(3, .int (nI k)), (2, .int (nI ((cl (pl t) * S + 0) * 16))), (0, .ref ((ad 0))), (1, .int (nI t))] ∧ nzF bs ((cl (pl t) * S + 0) * 16) k = false) 0 (by omega) (fun k ls hk hI ihk => ?_) (fun ls hI => ?_) ⟨lv_sub hl [0, 1, 2, 3] rfl, rfl⟩
  · skip
    clear hl
    obtain ⟨hl, hJk⟩ := hI
    have hlt := sf_tlt hplt.2 hk
    refine lv_iload_n hx hb dX1_holdsMoreThanZeros_9 rfl (lv_at hl 0 rfl) ?_
    refine lv_aload_n hx hb dX1_holdsMoreThanZeros_10 rfl (lv_at hl 2 rfl) ?_
    refine va_get (D := D) (ci := 2) (v := .int (nI S)) (C := RX1) (T := TX1) (N := 9) hx hb hts (by decide +kernel) hown hK hP 0 rfl rfl 1 (by decide) (hts (.fieldLink RX1 15 "TrackDisk$Surface" "sectors" "I") (by decide +kernel)) (fun _ h9 => h9) rfl dX1_holdsMoreThanZeros_11 ?_
    refine lv_bipush (v := nI 16) hx hb dX1_holdsMoreThanZeros_14 (by decide) ?_
    refine lv_imul hx hb dX1_holdsMoreThanZeros_16 ?_
    refine tp_i (y := nI (S * 16)) (by exact pk_mul _ _) ?_
    refine lv_icmp_ge (tgt := 39) hx hb dX1_holdsMoreThanZeros_17 (by decide) (fun c_17 => ?_) (fun c_17 => ?_)
    · exact absurd c_17 (nI_ge hk (by omega))
    · skip
      refine lv_aload_n hx hb dX1_holdsMoreThanZeros_20 rfl (lv_at hl 2 rfl) ?_
      refine va_get (D := D) (ci := 2) (v := .ref ((ad 1))) (C := RX1) (T := TX1) (N := 9) hx hb hts (by decide +kernel) hown hK hP 0 rfl rfl 2 (by decide) (hts (.fieldLink RX1 18 "TrackDisk$Surface" "bytes" "[B") (by decide +kernel)) (fun _ h9 => h9) rfl dX1_holdsMoreThanZeros_21 ?_
      refine lv_iload_n hx hb dX1_holdsMoreThanZeros_24 rfl (lv_at hl 1 rfl) ?_
      refine lv_iload_n hx hb dX1_holdsMoreThanZeros_25 rfl (lv_at hl 0 rfl) ?_
      refine lv_iadd hx hb dX1_holdsMoreThanZeros_26 ?_
      refine tp_i (y := nI (((cl (pl t) * S + 0) * 16) + k)) (by exact nI_add _ _) ?_
      refine va_bald hx hb hK hP 1 1 rfl rfl (vp_in_nI (by omega) (by omega)) dX1_holdsMoreThanZeros_27 ?_
      refine tp_i (y := bs (((cl (pl t) * S + 0) * 16) + k)) (by rw [nI_clamp (by omega)]) ?_
      refine lv_if_eq (tgt := 33) hx hb dX1_holdsMoreThanZeros_28 (by decide) (fun c_28 => ?_) (fun c_28 => ?_)
      · skip
        refine lv_iinc (v := nI (k + 1)) (lv' := [(3, .int (nI (k + 1))), (2, .int (nI ((cl (pl t) * S + 0) * 16))), (0, .ref ((ad 0))), (1, .int (nI t))]) hx hb dX1_holdsMoreThanZeros_33 hl (k := 0) rfl (by exact nI_1 _) (by decide) rfl (fun ls hl => ?_)
        refine lv_goto (tgt := 9) hx hb dX1_holdsMoreThanZeros_36 (by decide) ?_
        exact ihk ls ⟨lv_sub hl [0, 1, 2, 3] rfl, by simp only [nzF, hJk, Bool.false_or, decide_eq_false_iff_not, Decidable.not_not]; exact c_28⟩
      · skip
        refine lv_iconst (v := nI 1) hx hb dX1_holdsMoreThanZeros_31 (by decide) ?_
        refine tp_i (y := bI (usF bs pl S t)) (bI_t (nz_t hk c_28)) ?_
        exact pu_zret hx hb hr (by cases usF bs pl S t <;> rfl) hlocks dX1_holdsMoreThanZeros_32
  · skip
    clear hl
    obtain ⟨hl, hJk⟩ := hI
    refine lv_iload_n hx hb dX1_holdsMoreThanZeros_9 rfl (lv_at hl 0 rfl) ?_
    refine lv_aload_n hx hb dX1_holdsMoreThanZeros_10 rfl (lv_at hl 2 rfl) ?_
    refine va_get (D := D) (ci := 2) (v := .int (nI S)) (C := RX1) (T := TX1) (N := 9) hx hb hts (by decide +kernel) hown hK hP 0 rfl rfl 1 (by decide) (hts (.fieldLink RX1 15 "TrackDisk$Surface" "sectors" "I") (by decide +kernel)) (fun _ h9 => h9) rfl dX1_holdsMoreThanZeros_11 ?_
    refine lv_bipush (v := nI 16) hx hb dX1_holdsMoreThanZeros_14 (by decide) ?_
    refine lv_imul hx hb dX1_holdsMoreThanZeros_16 ?_
    refine tp_i (y := nI (S * 16)) (by exact pk_mul _ _) ?_
    refine lv_icmp_ge (tgt := 39) hx hb dX1_holdsMoreThanZeros_17 (by decide) (fun c_17 => ?_) (fun c_17 => ?_)
    · skip
      refine lv_iconst (v := nI 0) hx hb dX1_holdsMoreThanZeros_39 (by decide) ?_
      refine tp_i (y := bI (usF bs pl S t)) (bI_f hJk) ?_
      exact pu_zret hx hb hr (by cases usF bs pl S t <;> rfl) hlocks dX1_holdsMoreThanZeros_40
    · exact absurd (nI_le (Nat.le_refl _) (by omega)) c_17

set_option maxHeartbeats 4000000 in
set_option maxRecDepth 100000 in
/-- mendRows() -/
theorem c_mendRows (l : Launch) (D : va_G) (κ : Nat → ClassId) (sz : Nat) (T S : Nat) (ad : Nat → Nat) (bs sm pl r0 r1 : Nat → Int32) (tk vo : Int32) (hT : T ≤ 12) (hS8 : S ≤ 8) (hpl : ∀ t, t < T → vp_in (pl t) (T + 2))  : Met l yX1_mendRows wsX1_mendRows ({ frames := 3, cells := 0, slots := 0, locals := 67 }) (va_Pc [.ref ((ad 0))] (mu_B D κ (sfW κ T S ad bs sm pl r0 r1 tk vo) sz)) (mu_Q D (some (.int (nI (cnt (dfF r0 r1) T)))) (sfW κ T S ad bs sm pl (mdR (usF bs pl S) r0 r1 r0 T) (mdR (usF bs pl S) r0 r1 r1 T) tk vo) (va_A (sfW κ T S ad bs sm pl r0 r1 tk vo) sz)) 0 0 (va_A (sfW κ T S ad bs sm pl r0 r1 tk vo) sz) := by
  refine Met.ofW (cc := cX1_mendRows) (maxL := 4) (ret := (some .int)) (by decide) rfl ?_
  intro p e s m args below meth c s₁ B hml hv
  obtain ⟨rfl, hsz, hP, hK, hD0⟩ := hv
  have hx := B.exec
  have hb := B.bytes
  have hr := B.returns
  have hts := atoms_spec (ws := wsX1_mendRows) B.pre
  have hown : s.vm.findClass RX1 = some m.cls := findClass_of_methodNamed B.named
  have hlocks := B.notSynchronized
  subst hsz
  have hD := hD0.self (sz := s.heap.size)
  generalize hAe : va_A (sfW κ T S ad bs sm pl r0 r1 tk vo) s.heap.size = A at hD ⊢
  have hA : ∀ q : Nat, s.heap.size ≤ q → A q := fun q h => by rw [← hAe]; exact Or.inr h
  refine W.gen (P := fun H locs => va_P D vwCl (sfW κ T S ad bs sm pl r0 r1 tk vo) H ∧ va_S A s.heap H locs) (fun H locs h => ?_) ⟨hP, va_S.rf⟩
  clear hP
  obtain ⟨hP, hS⟩ := h
  have hl := lv_entry ([.ref ((ad 0))]) (n := 4) (Nat.le_of_ble_eq_true rfl)
  rw [lg_entry_eq]
  generalize (lg_sl ([.ref ((ad 0))]) ++ List.replicate (4 - (lg_sl ([.ref ((ad 0))])).length) Slot.unset).toArray = ls at hl ⊢
  have hl : lv_has ls 4 [(0, .ref ((ad 0)))] := hl
  have hmx := sf_max hT hS8
  refine lv_iconst (v := nI 0) hx hb dX1_mendRows_0 (by decide) ?_
  refine lv_istore_n (lv' := [(1, .int (nI 0)), (0, .ref ((ad 0)))]) hx hb dX1_mendRows_1 rfl hl (by decide) rfl (fun ls hl => ?_)
  refine lv_iconst (v := nI 0) hx hb dX1_mendRows_2 (by decide) ?_
  refine lv_istore_n (lv' := [(2, .int (nI 0)), (1, .int (nI 0)), (0, .ref ((ad 0)))]) hx hb dX1_mendRows_3 rfl hl (by decide) rfl (fun ls hl => ?_)
  refine W.loop (N := T) (I := fun t ls H locs => lv_has ls 4 [(2, .int (nI t)), (1, .int (nI (cnt (dfF r0 r1) t))), (0, .ref ((ad 0)))] ∧ va_P D vwCl (sfW κ T S ad bs sm pl (mdR (usF bs pl S) r0 r1 r0 t) (mdR (usF bs pl S) r0 r1 r1 t) tk vo) H ∧ va_D A (sfW κ T S ad bs sm pl (mdR (usF bs pl S) r0 r1 r0 t) (mdR (usF bs pl S) r0 r1 r1 t) tk vo) ∧ va_S A s.heap H locs) 0 (by omega) (fun t ls H locs ht hI iht => ?_) (fun ls H locs hI => ?_) ⟨lv_sub hl [0, 1, 2] rfl, hP, hD, hS⟩
  · skip
    clear hl hP hD hS
    obtain ⟨hl, hP, hD, hS⟩ := hI
    refine lv_iload_n hx hb dX1_mendRows_4 rfl (lv_at hl 0 rfl) ?_
    refine lv_aload_n hx hb dX1_mendRows_5 rfl (lv_at hl 2 rfl) ?_
    refine va_get (D := D) (ci := 2) (v := .int (nI T)) (C := RX1) (T := TX1) (N := 9) hx hb hts (by decide +kernel) hown hK hP 0 rfl rfl 0 (by decide) (hts (.fieldLink RX1 9 "TrackDisk$Surface" "tracks" "I") (by decide +kernel)) (fun _ h9 => h9) rfl dX1_mendRows_6 ?_
    refine lv_icmp_ge (tgt := 64) hx hb dX1_mendRows_9 (by decide) (fun c_9 => ?_) (fun c_9 => ?_)
    · exact absurd c_9 (nI_ge ht (by omega))
    · skip
      refine lv_aload_n hx hb dX1_mendRows_12 rfl (lv_at hl 2 rfl) ?_
      refine va_get (D := D) (ci := 2) (v := .ref ((ad 4))) (C := RX1) (T := TX1) (N := 9) hx hb hts (by decide +kernel) hown hK hP 0 rfl rfl 5 (by decide) (hts (.fieldLink RX1 29 "TrackDisk$Surface" "usedByRow0" "[I") (by decide +kernel)) (fun _ h9 => h9) rfl dX1_mendRows_13 ?_
      refine lv_iload_n hx hb dX1_mendRows_16 rfl (lv_at hl 0 rfl) ?_
      refine va_iald hx hb hK hP 4 0 rfl rfl (vp_in_nI (by omega) (by omega)) dX1_mendRows_17 ?_
      refine tp_i (y := r0 t) (by rw [nI_clamp (by omega)]; exact mdR_at) ?_
      refine lv_aload_n hx hb dX1_mendRows_18 rfl (lv_at hl 2 rfl) ?_
      refine va_get (D := D) (ci := 2) (v := .ref ((ad 5))) (C := RX1) (T := TX1) (N := 9) hx hb hts (by decide +kernel) hown hK hP 0 rfl rfl 6 (by decide) (hts (.fieldLink RX1 32 "TrackDisk$Surface" "usedByRow1" "[I") (by decide +kernel)) (fun _ h9 => h9) rfl dX1_mendRows_19 ?_
      refine lv_iload_n hx hb dX1_mendRows_22 rfl (lv_at hl 0 rfl) ?_
      refine va_iald hx hb hK hP 5 0 rfl rfl (vp_in_nI (by omega) (by omega)) dX1_mendRows_23 ?_
      refine tp_i (y := r1 t) (by rw [nI_clamp (by omega)]; exact mdR_at) ?_
      refine lv_icmp_eq (tgt := 58) hx hb dX1_mendRows_24 (by decide) (fun c_24 => ?_) (fun c_24 => ?_)
      · skip
        rw [show mdR (usF bs pl S) r0 r1 r0 t = mdR (usF bs pl S) r0 r1 r0 (t + 1) from mdR_s c_24, show mdR (usF bs pl S) r0 r1 r1 t = mdR (usF bs pl S) r0 r1 r1 (t + 1) from mdR_s c_24] at hP hD
        rw [show cnt (dfF r0 r1) t = cnt (dfF r0 r1) (t + 1) from (cnt_f (by simp only [dfF, decide_eq_false_iff_not, Decidable.not_not]; exact c_24)).symm] at hl
        refine lv_iinc (v := nI (t + 1)) (lv' := [(2, .int (nI (t + 1))), (1, .int (nI (cnt (dfF r0 r1) (t + 1)))), (0, .ref ((ad 0)))]) hx hb dX1_mendRows_58 hl (k := 0) rfl (by exact nI_1 _) (by decide) rfl (fun ls hl => ?_)
        refine lv_goto (tgt := 4) hx hb dX1_mendRows_61 (by decide) ?_
        exact iht ls H locs ⟨lv_sub hl [0, 1, 2] rfl, hP, hD, hS⟩
      · skip
        refine lv_aload_n hx hb dX1_mendRows_27 rfl (lv_at hl 2 rfl) ?_
        refine lv_iload_n hx hb dX1_mendRows_28 rfl (lv_at hl 0 rfl) ?_
        have hPc := hP.sub (ws' := sfW κ T S ad bs sm pl (mdR (usF bs pl S) r0 r1 r0 t) (mdR (usF bs pl S) r0 r1 r1 t) tk vo) [0, 1, 2, 3, 4, 5] rfl
        refine pu_call (va_runV (As := [.int (nI t)]) (rest := []) ⟨hx, hb, hml, hown, hts⟩ (c_holds l D κ T S ad bs sm pl (mdR (usF bs pl S) r0 r1 r0 t) (mdR (usF bs pl S) r0 r1 r1 t) tk vo hT hS8 hpl t ht) (cwV 1 hts gX1_mendRows_X1_holdsMoreThanZeros rfl rfl rfl (by decide +kernel) ⟨Nat.le_of_ble_eq_true rfl, Nat.le_of_ble_eq_true rfl⟩) ⟨pu_blind, va_recv hK hPc (ci := 2) (q0 := 0) rfl rfl, pu_pre hK hPc⟩ rfl rfl hl.1 rfl (lv_room (Nat.le_of_ble_eq_true rfl)) dX1_mendRows_29 ⟨Nat.le_of_ble_eq_true rfl, Nat.le_of_ble_eq_true rfl⟩) ?_
        refine lv_if_eq (tgt := 39) hx hb dX1_mendRows_32 (by decide) (fun c_32 => ?_) (fun c_32 => ?_)
        · skip
          refine lv_iconst (v := nI 0) hx hb dX1_mendRows_39 (by decide) ?_
          refine lv_istore_n (lv' := [(3, .int (nI 0)), (2, .int (nI t)), (1, .int (nI (cnt (dfF r0 r1) t))), (0, .ref ((ad 0)))]) hx hb dX1_mendRows_40 rfl hl (by decide) rfl (fun ls hl => ?_)
          refine lv_aload_n hx hb dX1_mendRows_41 rfl (lv_at hl 3 rfl) ?_
          refine va_get (D := D) (ci := 2) (v := .ref ((ad 4))) (C := RX1) (T := TX1) (N := 9) hx hb hts (by decide +kernel) hown hK hP 0 rfl rfl 5 (by decide) (hts (.fieldLink RX1 29 "TrackDisk$Surface" "usedByRow0" "[I") (by decide +kernel)) (fun _ h9 => h9) rfl dX1_mendRows_42 ?_
          refine lv_iload_n hx hb dX1_mendRows_45 rfl (lv_at hl 1 rfl) ?_
          refine lv_iload_n hx hb dX1_mendRows_46 rfl (lv_at hl 0 rfl) ?_
          refine va_iast hx hb hK hP hD hS 4 0 rfl rfl (vp_in_nI (by omega) (by omega)) dX1_mendRows_47 (fun H locs hP hD hS => ?_)
          rw [show upd (mdR (usF bs pl S) r0 r1 r0 t) (nI t).toNatClampNeg (nI 0) = mdR (usF bs pl S) r0 r1 r0 (t + 1) from by rw [nI_clamp (by omega)]; first | exact mdR_u c_24 (bI_f (bI_eq c_32)) | exact mdR_u c_24 (bI_t (bI_ne c_32))] at hP hD
          have hP : va_P D vwCl (sfW κ T S ad bs sm pl (mdR (usF bs pl S) r0 r1 r0 (t + 1)) (mdR (usF bs pl S) r0 r1 r1 t) tk vo) H := hP
          have hD : va_D A (sfW κ T S ad bs sm pl (mdR (usF bs pl S) r0 r1 r0 (t + 1)) (mdR (usF bs pl S) r0 r1 r1 t) tk vo) := hD
          refine lv_aload_n hx hb dX1_mendRows_48 rfl (lv_at hl 3 rfl) ?_
          refine va_get (D := D) (ci := 2) (v := .ref ((ad 5))) (C := RX1) (T := TX1) (N := 9) hx hb hts (by decide +kernel) hown hK hP 0 rfl rfl 6 (by decide) (hts (.fieldLink RX1 32 "TrackDisk$Surface" "usedByRow1" "[I") (by decide +kernel)) (fun _ h9 => h9) rfl dX1_mendRows_49 ?_
          refine lv_iload_n hx hb dX1_mendRows_52 rfl (lv_at hl 1 rfl) ?_
          refine lv_iload_n hx hb dX1_mendRows_53 rfl (lv_at hl 0 rfl) ?_
          refine va_iast hx hb hK hP hD hS 5 0 rfl rfl (vp_in_nI (by omega) (by omega)) dX1_mendRows_54 (fun H locs hP hD hS => ?_)
          rw [show upd (mdR (usF bs pl S) r0 r1 r1 t) (nI t).toNatClampNeg (nI 0) = mdR (usF bs pl S) r0 r1 r1 (t + 1) from by rw [nI_clamp (by omega)]; first | exact mdR_u c_24 (bI_f (bI_eq c_32)) | exact mdR_u c_24 (bI_t (bI_ne c_32))] at hP hD
          have hP : va_P D vwCl (sfW κ T S ad bs sm pl (mdR (usF bs pl S) r0 r1 r0 (t + 1)) (mdR (usF bs pl S) r0 r1 r1 (t + 1)) tk vo) H := hP
          have hD : va_D A (sfW κ T S ad bs sm pl (mdR (usF bs pl S) r0 r1 r0 (t + 1)) (mdR (usF bs pl S) r0 r1 r1 (t + 1)) tk vo) := hD
          refine lv_iinc (v := nI (cnt (dfF r0 r1) (t + 1))) (lv' := [(1, .int (nI (cnt (dfF r0 r1) (t + 1)))), (3, .int (nI 0)), (2, .int (nI t)), (0, .ref ((ad 0)))]) hx hb dX1_mendRows_55 hl (k := 2) rfl (by rw [cnt_t (by simp only [dfF, decide_eq_true_eq]; exact c_24)]; exact nI_1 _) (by decide) rfl (fun ls hl => ?_)
          refine lv_iinc (v := nI (t + 1)) (lv' := [(2, .int (nI (t + 1))), (1, .int (nI (cnt (dfF r0 r1) (t + 1)))), (3, .int (nI 0)), (0, .ref ((ad 0)))]) hx hb dX1_mendRows_58 hl (k := 2) rfl (by exact nI_1 _) (by decide) rfl (fun ls hl => ?_)
          refine lv_goto (tgt := 4) hx hb dX1_mendRows_61 (by decide) ?_
          exact iht ls H locs ⟨lv_sub hl [0, 1, 3] rfl, hP, hD, hS⟩
        · skip
          refine lv_iconst (v := nI 1) hx hb dX1_mendRows_35 (by decide) ?_
          refine lv_goto (tgt := 40) hx hb dX1_mendRows_36 (by decide) ?_
          refine lv_istore_n (lv' := [(3, .int (nI 1)), (2, .int (nI t)), (1, .int (nI (cnt (dfF r0 r1) t))), (0, .ref ((ad 0)))]) hx hb dX1_mendRows_40 rfl hl (by decide) rfl (fun ls hl => ?_)
          refine lv_aload_n hx hb dX1_mendRows_41 rfl (lv_at hl 3 rfl) ?_
          refine va_get (D := D) (ci := 2) (v := .ref ((ad 4))) (C := RX1) (T := TX1) (N := 9) hx hb hts (by decide +kernel) hown hK hP 0 rfl rfl 5 (by decide) (hts (.fieldLink RX1 29 "TrackDisk$Surface" "usedByRow0" "[I") (by decide +kernel)) (fun _ h9 => h9) rfl dX1_mendRows_42 ?_
          refine lv_iload_n hx hb dX1_mendRows_45 rfl (lv_at hl 1 rfl) ?_
          refine lv_iload_n hx hb dX1_mendRows_46 rfl (lv_at hl 0 rfl) ?_
          refine va_iast hx hb hK hP hD hS 4 0 rfl rfl (vp_in_nI (by omega) (by omega)) dX1_mendRows_47 (fun H locs hP hD hS => ?_)
          rw [show upd (mdR (usF bs pl S) r0 r1 r0 t) (nI t).toNatClampNeg (nI 1) = mdR (usF bs pl S) r0 r1 r0 (t + 1) from by rw [nI_clamp (by omega)]; first | exact mdR_u c_24 (bI_f (bI_eq c_32)) | exact mdR_u c_24 (bI_t (bI_ne c_32))] at hP hD
          have hP : va_P D vwCl (sfW κ T S ad bs sm pl (mdR (usF bs pl S) r0 r1 r0 (t + 1)) (mdR (usF bs pl S) r0 r1 r1 t) tk vo) H := hP
          have hD : va_D A (sfW κ T S ad bs sm pl (mdR (usF bs pl S) r0 r1 r0 (t + 1)) (mdR (usF bs pl S) r0 r1 r1 t) tk vo) := hD
          refine lv_aload_n hx hb dX1_mendRows_48 rfl (lv_at hl 3 rfl) ?_
          refine va_get (D := D) (ci := 2) (v := .ref ((ad 5))) (C := RX1) (T := TX1) (N := 9) hx hb hts (by decide +kernel) hown hK hP 0 rfl rfl 6 (by decide) (hts (.fieldLink RX1 32 "TrackDisk$Surface" "usedByRow1" "[I") (by decide +kernel)) (fun _ h9 => h9) rfl dX1_mendRows_49 ?_
          refine lv_iload_n hx hb dX1_mendRows_52 rfl (lv_at hl 1 rfl) ?_
          refine lv_iload_n hx hb dX1_mendRows_53 rfl (lv_at hl 0 rfl) ?_
          refine va_iast hx hb hK hP hD hS 5 0 rfl rfl (vp_in_nI (by omega) (by omega)) dX1_mendRows_54 (fun H locs hP hD hS => ?_)
          rw [show upd (mdR (usF bs pl S) r0 r1 r1 t) (nI t).toNatClampNeg (nI 1) = mdR (usF bs pl S) r0 r1 r1 (t + 1) from by rw [nI_clamp (by omega)]; first | exact mdR_u c_24 (bI_f (bI_eq c_32)) | exact mdR_u c_24 (bI_t (bI_ne c_32))] at hP hD
          have hP : va_P D vwCl (sfW κ T S ad bs sm pl (mdR (usF bs pl S) r0 r1 r0 (t + 1)) (mdR (usF bs pl S) r0 r1 r1 (t + 1)) tk vo) H := hP
          have hD : va_D A (sfW κ T S ad bs sm pl (mdR (usF bs pl S) r0 r1 r0 (t + 1)) (mdR (usF bs pl S) r0 r1 r1 (t + 1)) tk vo) := hD
          refine lv_iinc (v := nI (cnt (dfF r0 r1) (t + 1))) (lv' := [(1, .int (nI (cnt (dfF r0 r1) (t + 1)))), (3, .int (nI 1)), (2, .int (nI t)), (0, .ref ((ad 0)))]) hx hb dX1_mendRows_55 hl (k := 2) rfl (by rw [cnt_t (by simp only [dfF, decide_eq_true_eq]; exact c_24)]; exact nI_1 _) (by decide) rfl (fun ls hl => ?_)
          refine lv_iinc (v := nI (t + 1)) (lv' := [(2, .int (nI (t + 1))), (1, .int (nI (cnt (dfF r0 r1) (t + 1)))), (3, .int (nI 1)), (0, .ref ((ad 0)))]) hx hb dX1_mendRows_58 hl (k := 2) rfl (by exact nI_1 _) (by decide) rfl (fun ls hl => ?_)
          refine lv_goto (tgt := 4) hx hb dX1_mendRows_61 (by decide) ?_
          exact iht ls H locs ⟨lv_sub hl [0, 1, 3] rfl, hP, hD, hS⟩
  · skip
    clear hl hP hD hS
    obtain ⟨hl, hP, hD, hS⟩ := hI
    refine lv_iload_n hx hb dX1_mendRows_4 rfl (lv_at hl 0 rfl) ?_
    refine lv_aload_n hx hb dX1_mendRows_5 rfl (lv_at hl 2 rfl) ?_
    refine va_get (D := D) (ci := 2) (v := .int (nI T)) (C := RX1) (T := TX1) (N := 9) hx hb hts (by decide +kernel) hown hK hP 0 rfl rfl 0 (by decide) (hts (.fieldLink RX1 9 "TrackDisk$Surface" "tracks" "I") (by decide +kernel)) (fun _ h9 => h9) rfl dX1_mendRows_6 ?_
    refine lv_icmp_ge (tgt := 64) hx hb dX1_mendRows_9 (by decide) (fun c_9 => ?_) (fun c_9 => ?_)
    · skip
      refine lv_iload_n hx hb dX1_mendRows_64 rfl (lv_at hl 1 rfl) ?_
      have hP9 : va_P D vwCl (sfW κ T S ad bs sm pl (mdR (usF bs pl S) r0 r1 r0 T) (mdR (usF bs pl S) r0 r1 r1 T) tk vo) H := hP
      have hD9 : va_D A (sfW κ T S ad bs sm pl (mdR (usF bs pl S) r0 r1 r0 T) (mdR (usF bs pl S) r0 r1 r1 T) tk vo) := hD
      exact W.iret hx hb hr (fun t ht _ => ⟨⟨rfl, by rw [ht]; exact hP9, hD9⟩, hS.F ht⟩) hS.2.2 dX1_mendRows_65 hlocks
    · exact absurd (nI_le (Nat.le_refl _) (by omega)) c_9

set_option maxHeartbeats 4000000 in
set_option maxRecDepth 100000 in
/-- setSums(at) -/
theorem c_setSums (l : Launch) (D : va_G) (κ : Nat → ClassId) (sz : Nat) (T S : Nat) (ad : Nat → Nat) (bs sm pl r0 r1 : Nat → Int32) (tk vo : Int32) (hT : T ≤ 12) (hS8 : S ≤ 8) (a : Nat) (ha : a < T + 2) : Met l yX1_setSums wsX1_setSums ({ frames := 2, cells := 0, slots := 0, locals := 48 }) (va_Pc [.ref ((ad 0)), .int (nI a)] (mu_B D κ (sfW κ T S ad bs sm pl r0 r1 tk vo) sz)) (mu_Q D none (sfW κ T S ad bs (ssF bs sm S a S) pl r0 r1 tk vo) (va_A (sfW κ T S ad bs sm pl r0 r1 tk vo) sz)) 0 0 (va_A (sfW κ T S ad bs sm pl r0 r1 tk vo) sz) := by
  refine Met.ofW (cc := cX1_setSums) (maxL := 3) (ret := none) (by decide) rfl ?_
  intro p e s m args below meth c s₁ B hml hv
  obtain ⟨rfl, hsz, hP, hK, hD0⟩ := hv
  have hx := B.exec
  have hb := B.bytes
  have hr := B.returns
  have hts := atoms_spec (ws := wsX1_setSums) B.pre
  have hown : s.vm.findClass RX1 = some m.cls := findClass_of_methodNamed B.named
  have hlocks := B.notSynchronized
  subst hsz
  have hD := hD0.self (sz := s.heap.size)
  generalize hAe : va_A (sfW κ T S ad bs sm pl r0 r1 tk vo) s.heap.size = A at hD ⊢
  have hA : ∀ q : Nat, s.heap.size ≤ q → A q := fun q h => by rw [← hAe]; exact Or.inr h
  refine W.gen (P := fun H locs => va_P D vwCl (sfW κ T S ad bs sm pl r0 r1 tk vo) H ∧ va_S A s.heap H locs) (fun H locs h => ?_) ⟨hP, va_S.rf⟩
  clear hP
  obtain ⟨hP, hS⟩ := h
  have hl := lv_entry ([.ref ((ad 0)), .int (nI a)]) (n := 3) (Nat.le_of_ble_eq_true rfl)
  rw [lg_entry_eq]
  generalize (lg_sl ([.ref ((ad 0)), .int (nI a)]) ++ List.replicate (3 - (lg_sl ([.ref ((ad 0)), .int (nI a)])).length) Slot.unset).toArray = ls at hl ⊢
  have hl : lv_has ls 3 [(0, .ref ((ad 0))), (1, .int (nI a))] := hl
  have hmx := sf_max hT hS8
  refine lv_iconst (v := nI 0) hx hb dX1_setSums_0 (by decide) ?_
  refine lv_istore_n (lv' := [(2, .int (nI 0)), (0, .ref ((ad 0))), (1, .int (nI a))]) hx hb dX1_setSums_1 rfl hl (by decide) rfl (fun ls hl => ?_)
  refine W.loop (N := S) (I := fun k ls H locs => lv_has ls 3 [(2, .int (nI k)), (0, .ref ((ad 0))), (1, .int (nI a))] ∧ va_P D vwCl (sfW κ T S ad bs (ssF bs sm S a k) pl r0 r1 tk vo) H ∧ va_D A (sfW κ T S ad bs (ssF bs sm S a k) pl r0 r1 tk vo) ∧ va_S A s.heap H locs) 0 (by omega) (fun k ls H locs hk hI ihk => ?_) (fun ls H locs hI => ?_) ⟨lv_sub hl [0, 1, 2] rfl, hP, hD, hS⟩
  · skip
    clear hl hP hD hS
    obtain ⟨hl, hP, hD, hS⟩ := hI
    have hsl := sf_slt ha hk
    refine lv_iload_n hx hb dX1_setSums_2 rfl (lv_at hl 0 rfl) ?_
    refine lv_aload_n hx hb dX1_setSums_3 rfl (lv_at hl 1 rfl) ?_
    refine va_get (D := D) (ci := 2) (v := .int (nI S)) (C := RX1) (T := TX1) (N := 9) hx hb hts (by decide +kernel) hown hK hP 0 rfl rfl 1 (by decide) (hts (.fieldLink RX1 15 "TrackDisk$Surface" "sectors" "I") (by decide +kernel)) (fun _ h9 => h9) rfl dX1_setSums_4 ?_
    refine lv_icmp_ge (tgt := 33) hx hb dX1_setSums_7 (by decide) (fun c_7 => ?_) (fun c_7 => ?_)
    · exact absurd c_7 (nI_ge hk (by omega))
    · skip
      refine lv_aload_n hx hb dX1_setSums_10 rfl (lv_at hl 1 rfl) ?_
      refine va_get (D := D) (ci := 2) (v := .ref ((ad 2))) (C := RX1) (T := TX1) (N := 9) hx hb hts (by decide +kernel) hown hK hP 0 rfl rfl 3 (by decide) (hts (.fieldLink RX1 22 "TrackDisk$Surface" "sums" "[I") (by decide +kernel)) (fun _ h9 => h9) rfl dX1_setSums_11 ?_
      refine lv_aload_n hx hb dX1_setSums_14 rfl (lv_at hl 1 rfl) ?_
      refine lv_iload_n hx hb dX1_setSums_15 rfl (lv_at hl 2 rfl) ?_
      refine lv_iload_n hx hb dX1_setSums_16 rfl (lv_at hl 0 rfl) ?_
      have hPc := hP.sub (ws' := sfW κ T S ad bs (ssF bs sm S a k) pl r0 r1 tk vo) [0, 1, 2, 3, 4, 5] rfl
      refine pu_call (va_runV (As := [.int (nI a), .int (nI k)]) (rest := [.ref ((ad 2))]) ⟨hx, hb, hml, hown, hts⟩ (c_slot l D κ T S ad bs (ssF bs sm S a k) pl r0 r1 tk vo a k) (cwV 2 hts gX1_setSums_X1_slot rfl rfl rfl (by decide +kernel) ⟨Nat.le_of_ble_eq_true rfl, Nat.le_of_ble_eq_true rfl⟩) ⟨pu_blind, va_recv hK hPc (ci := 2) (q0 := 0) rfl rfl, pu_pre hK hPc⟩ rfl rfl hl.1 rfl (lv_room (Nat.le_of_ble_eq_true rfl)) dX1_setSums_17 ⟨Nat.le_of_ble_eq_true rfl, Nat.le_of_ble_eq_true rfl⟩) ?_
      refine lv_aload_n hx hb dX1_setSums_20 rfl (lv_at hl 1 rfl) ?_
      refine lv_iload_n hx hb dX1_setSums_21 rfl (lv_at hl 2 rfl) ?_
      refine lv_iload_n hx hb dX1_setSums_22 rfl (lv_at hl 0 rfl) ?_
      have hPc := hP.sub (ws' := sfW κ T S ad bs (ssF bs sm S a k) pl r0 r1 tk vo) [0, 1, 2, 3, 4, 5] rfl
      refine pu_call (va_runV (As := [.int (nI a), .int (nI k)]) (rest := [.int (nI (a * S + k)), .ref ((ad 2))]) ⟨hx, hb, hml, hown, hts⟩ (c_sumOf l D κ T S ad bs (ssF bs sm S a k) pl r0 r1 tk vo hT hS8 a k ha hk) (cwV 2 hts gX1_setSums_X1_sumOf rfl rfl rfl (by decide +kernel) ⟨Nat.le_of_ble_eq_true rfl, Nat.le_of_ble_eq_true rfl⟩) ⟨pu_blind, va_recv hK hPc (ci := 2) (q0 := 0) rfl rfl, pu_pre hK hPc⟩ rfl rfl hl.1 rfl (lv_room (Nat.le_of_ble_eq_true rfl)) dX1_setSums_23 ⟨Nat.le_of_ble_eq_true rfl, Nat.le_of_ble_eq_true rfl⟩) ?_
      refine va_iast hx hb hK hP hD hS 2 0 rfl rfl (vp_in_nI (by omega) (by omega)) dX1_setSums_26 (fun H locs hP hD hS => ?_)
      rw [nI_clamp (n := a * S + k) (by omega)] at hP hD
      have hP : va_P D vwCl (sfW κ T S ad bs (upd (ssF bs sm S a k) (a * S + k) (smA bs S a k)) pl r0 r1 tk vo) H := hP
      have hD : va_D A (sfW κ T S ad bs (upd (ssF bs sm S a k) (a * S + k) (smA bs S a k)) pl r0 r1 tk vo) := hD
      refine lv_iinc (v := nI (k + 1)) (lv' := [(2, .int (nI (k + 1))), (0, .ref ((ad 0))), (1, .int (nI a))]) hx hb dX1_setSums_27 hl (k := 0) rfl (by exact nI_1 _) (by decide) rfl (fun ls hl => ?_)
      refine lv_goto (tgt := 2) hx hb dX1_setSums_30 (by decide) ?_
      exact ihk ls H locs ⟨lv_sub hl [0, 1, 2] rfl, hP, hD, hS⟩
  · skip
    clear hl hP hD hS
    obtain ⟨hl, hP, hD, hS⟩ := hI
    refine lv_iload_n hx hb dX1_setSums_2 rfl (lv_at hl 0 rfl) ?_
    refine lv_aload_n hx hb dX1_setSums_3 rfl (lv_at hl 1 rfl) ?_
    refine va_get (D := D) (ci := 2) (v := .int (nI S)) (C := RX1) (T := TX1) (N := 9) hx hb hts (by decide +kernel) hown hK hP 0 rfl rfl 1 (by decide) (hts (.fieldLink RX1 15 "TrackDisk$Surface" "sectors" "I") (by decide +kernel)) (fun _ h9 => h9) rfl dX1_setSums_4 ?_
    refine lv_icmp_ge (tgt := 33) hx hb dX1_setSums_7 (by decide) (fun c_7 => ?_) (fun c_7 => ?_)
    · skip
      have hP9 : va_P D vwCl (sfW κ T S ad bs (ssF bs sm S a S) pl r0 r1 tk vo) H := hP
      have hD9 : va_D A (sfW κ T S ad bs (ssF bs sm S a S) pl r0 r1 tk vo) := hD
      exact W.vret hx hb hr (fun t ht _ => ⟨⟨rfl, by rw [ht]; exact hP9, hD9⟩, hS.F ht⟩) hS.2.2 dX1_setSums_33 hlocks
    · exact absurd (nI_le (Nat.le_refl _) (by omega)) c_7

set_option maxHeartbeats 4000000 in
set_option maxRecDepth 100000 in
/-- isSent(track) -/
theorem c_isSent (l : Launch) (D : va_G) (κ : Nat → ClassId) (T S : Nat) (ad : Nat → Nat) (bs sm pl r0 r1 : Nat → Int32) (tk vo : Int32) (hT : T ≤ 12) (hS8 : S ≤ 8) (hpl : ∀ t, t < T → vp_in (pl t) (T + 2)) (t : Nat) (ht : t < T) : Met l yX1_isSent wsX1_isSent ({ frames := 0, cells := 0, slots := 0, locals := 0 }) (va_Pc [.ref ((ad 0)), .int (nI t)] (pu_B D κ (sfW κ T S ad bs sm pl r0 r1 tk vo))) (pu_Q (.int (bI (isF pl T t)))) 0 0 pu_N := by
  refine Met.ofW (cc := cX1_isSent) (maxL := 2) (ret := (some .boolean)) (by decide) rfl ?_
  intro p e s m args below meth c s₁ B hml hv
  obtain ⟨rfl, hP, hK⟩ := hv
  have hx := B.exec
  have hb := B.bytes
  have hr := B.returns
  have hts := atoms_spec (ws := wsX1_isSent) B.pre
  have hown : s.vm.findClass RX1 = some m.cls := findClass_of_methodNamed B.named
  have hlocks := B.notSynchronized
  have hl := lv_entry ([.ref ((ad 0)), .int (nI t)]) (n := 2) (Nat.le_of_ble_eq_true rfl)
  rw [lg_entry_eq]
  generalize (lg_sl ([.ref ((ad 0)), .int (nI t)]) ++ List.replicate (2 - (lg_sl ([.ref ((ad 0)), .int (nI t)])).length) Slot.unset).toArray = ls at hl ⊢
  have hl : lv_has ls 2 [(0, .ref ((ad 0))), (1, .int (nI t))] := hl
  have hmx := sf_max hT hS8
  have hplt := cl_nI (hpl t ht) (by omega)
  refine lv_aload_n hx hb dX1_isSent_0 rfl (lv_at hl 0 rfl) ?_
  refine va_get (D := D) (ci := 2) (v := .ref ((ad 3))) (C := RX1) (T := TX1) (N := 9) hx hb hts (by decide +kernel) hown hK hP 0 rfl rfl 4 (by decide) (hts (.fieldLink RX1 26 "TrackDisk$Surface" "place" "[I") (by decide +kernel)) (fun _ h9 => h9) rfl dX1_isSent_1 ?_
  refine lv_iload_n hx hb dX1_isSent_4 rfl (lv_at hl 1 rfl) ?_
  refine va_iald hx hb hK hP 3 0 rfl rfl (vp_in_nI (by omega) (by omega)) dX1_isSent_5 ?_
  refine tp_i (y := nI (cl (pl t))) (by rw [nI_clamp (by omega)]; exact hplt.1) ?_
  refine lv_aload_n hx hb dX1_isSent_6 rfl (lv_at hl 0 rfl) ?_
  refine va_get (D := D) (ci := 2) (v := .int (nI T)) (C := RX1) (T := TX1) (N := 9) hx hb hts (by decide +kernel) hown hK hP 0 rfl rfl 0 (by decide) (hts (.fieldLink RX1 9 "TrackDisk$Surface" "tracks" "I") (by decide +kernel)) (fun _ h9 => h9) rfl dX1_isSent_7 ?_
  refine lv_icmp_lt (tgt := 17) hx hb dX1_isSent_10 (by decide) (fun c_10 => ?_) (fun c_10 => ?_)
  · skip
    refine lv_iconst (v := nI 0) hx hb dX1_isSent_17 (by decide) ?_
    refine tp_i (y := bI (isF pl T t)) (bI_f (by simp only [isF, decide_eq_false_iff_not]; exact Nat.not_le.mpr ((nI_ltI (by omega) (by omega)).mp c_10))) ?_
    exact pu_zret hx hb hr (by cases isF pl T t <;> rfl) hlocks dX1_isSent_18
  · skip
    refine lv_iconst (v := nI 1) hx hb dX1_isSent_13 (by decide) ?_
    refine lv_goto (tgt := 18) hx hb dX1_isSent_14 (by decide) ?_
    refine tp_i (y := bI (isF pl T t)) (bI_t (by simp only [isF, decide_eq_true_eq]; exact Nat.not_lt.mp (fun q => c_10 (nI_lt q (by omega))))) ?_
    exact pu_zret hx hb hr (by cases isF pl T t <;> rfl) hlocks dX1_isSent_18

set_option maxHeartbeats 4000000 in
set_option maxRecDepth 100000 in
/-- send(track) -/
theorem c_send (l : Launch) (D : va_G) (κ : Nat → ClassId) (sz : Nat) (T S : Nat) (ad : Nat → Nat) (bs sm pl r0 r1 : Nat → Int32) (k0 : Nat) (vo : Int32) (hT : T ≤ 12) (hS8 : S ≤ 8) (hpl : ∀ t, t < T → vp_in (pl t) (T + 2)) (t : Nat) (ht : t < T) (hk0 : k0 < 2) (hft : sb_Fit bs) : Met l yX1_send wsX1_send ({ frames := 3, cells := 0, slots := 0, locals := 70 }) (va_Pc [.ref ((ad 0)), .int (nI t)] (mu_B D κ (sfW κ T S ad bs sm pl r0 r1 (nI k0) vo) sz)) (mu_Q D (some (.int (nI (T + k0)))) (sfW κ T S ad (va_cpy bs bs ((cl (pl t) * S + 0) * 16) (((T + k0) * S + 0) * 16) (S * 16)) (ssF (va_cpy bs bs ((cl (pl t) * S + 0) * 16) (((T + k0) * S + 0) * 16) (S * 16)) sm S (T + k0) S) (upd pl t (nI (T + k0))) r0 r1 (nI (k0 + 1)) vo) (va_A (sfW κ T S ad bs sm pl r0 r1 (nI k0) vo) sz)) 0 0 (va_A (sfW κ T S ad bs sm pl r0 r1 (nI k0) vo) sz) := by
  refine Met.ofW (cc := cX1_send) (maxL := 3) (ret := (some .int)) (by decide) rfl ?_
  intro p e s m args below meth c s₁ B hml hv
  obtain ⟨rfl, hsz, hP, hK, hD0⟩ := hv
  have hx := B.exec
  have hb := B.bytes
  have hr := B.returns
  have hts := atoms_spec (ws := wsX1_send) B.pre
  have hown : s.vm.findClass RX1 = some m.cls := findClass_of_methodNamed B.named
  have hlocks := B.notSynchronized
  subst hsz
  have hD := hD0.self (sz := s.heap.size)
  generalize hAe : va_A (sfW κ T S ad bs sm pl r0 r1 (nI k0) vo) s.heap.size = A at hD ⊢
  have hA : ∀ q : Nat, s.heap.size ≤ q → A q := fun q h => by rw [← hAe]; exact Or.inr h
  refine W.gen (P := fun H locs => va_P D vwCl (sfW κ T S ad bs sm pl r0 r1 (nI k0) vo) H ∧ va_S A s.heap H locs) (fun H locs h => ?_) ⟨hP, va_S.rf⟩
  clear hP
  obtain ⟨hP, hS⟩ := h
  have hl := lv_entry ([.ref ((ad 0)), .int (nI t)]) (n := 3) (Nat.le_of_ble_eq_true rfl)
  rw [lg_entry_eq]
  generalize (lg_sl ([.ref ((ad 0)), .int (nI t)]) ++ List.replicate (3 - (lg_sl ([.ref ((ad 0)), .int (nI t)])).length) Slot.unset).toArray = ls at hl ⊢
  have hl : lv_has ls 3 [(0, .ref ((ad 0))), (1, .int (nI t))] := hl
  have hmx := sf_max hT hS8
  have hplt := cl_nI (hpl t ht) (by omega)
  have htl := sf_tle (S := S) hplt.2
  have htk := sf_tle (S := S) (show T + k0 < T + 2 by omega)
  refine lv_aload_n hx hb dX1_send_0 rfl (lv_at hl 0 rfl) ?_
  refine va_get (D := D) (ci := 2) (v := .int (nI T)) (C := RX1) (T := TX1) (N := 9) hx hb hts (by decide +kernel) hown hK hP 0 rfl rfl 0 (by decide) (hts (.fieldLink RX1 9 "TrackDisk$Surface" "tracks" "I") (by decide +kernel)) (fun _ h9 => h9) rfl dX1_send_1 ?_
  refine lv_aload_n hx hb dX1_send_4 rfl (lv_at hl 0 rfl) ?_
  refine va_get (D := D) (ci := 2) (v := .int ((nI k0))) (C := RX1) (T := TX1) (N := 9) hx hb hts (by decide +kernel) hown hK hP 0 rfl rfl 7 (by decide) (hts (.fieldLink RX1 35 "TrackDisk$Surface" "taken" "I") (by decide +kernel)) (fun _ h9 => h9) rfl dX1_send_5 ?_
  refine lv_iadd hx hb dX1_send_8 ?_
  refine tp_i (y := nI (T + k0)) (by exact nI_add _ _) ?_
  refine lv_istore_n (lv' := [(2, .int (nI (T + k0))), (0, .ref ((ad 0))), (1, .int (nI t))]) hx hb dX1_send_9 rfl hl (by decide) rfl (fun ls hl => ?_)
  refine lv_aload_n hx hb dX1_send_10 rfl (lv_at hl 1 rfl) ?_
  refine va_get (D := D) (ci := 2) (v := .ref ((ad 1))) (C := RX1) (T := TX1) (N := 9) hx hb hts (by decide +kernel) hown hK hP 0 rfl rfl 2 (by decide) (hts (.fieldLink RX1 18 "TrackDisk$Surface" "bytes" "[B") (by decide +kernel)) (fun _ h9 => h9) rfl dX1_send_11 ?_
  refine lv_aload_n hx hb dX1_send_14 rfl (lv_at hl 1 rfl) ?_
  refine lv_iload_n hx hb dX1_send_15 rfl (lv_at hl 2 rfl) ?_
  refine lv_iconst (v := nI 0) hx hb dX1_send_16 (by decide) ?_
  have hPc := hP.sub (ws' := sfW κ T S ad bs sm pl r0 r1 (nI k0) vo) [0, 1, 2, 3, 4, 5] rfl
  refine pu_call (va_runV (As := [.int (nI t), .int (nI 0)]) (rest := [.ref ((ad 1))]) ⟨hx, hb, hml, hown, hts⟩ (c_firstByte l D κ T S ad bs sm pl r0 r1 (nI k0) vo hT hS8 hpl t 0 ht) (cwV 2 hts gX1_send_X1_firstByte rfl rfl rfl (by decide +kernel) ⟨Nat.le_of_ble_eq_true rfl, Nat.le_of_ble_eq_true rfl⟩) ⟨pu_blind, va_recv hK hPc (ci := 2) (q0 := 0) rfl rfl, pu_pre hK hPc⟩ rfl rfl hl.1 rfl (lv_room (Nat.le_of_ble_eq_true rfl)) dX1_send_17 ⟨Nat.le_of_ble_eq_true rfl, Nat.le_of_ble_eq_true rfl⟩) ?_
  refine lv_aload_n hx hb dX1_send_20 rfl (lv_at hl 1 rfl) ?_
  refine va_get (D := D) (ci := 2) (v := .ref ((ad 1))) (C := RX1) (T := TX1) (N := 9) hx hb hts (by decide +kernel) hown hK hP 0 rfl rfl 2 (by decide) (hts (.fieldLink RX1 18 "TrackDisk$Surface" "bytes" "[B") (by decide +kernel)) (fun _ h9 => h9) rfl dX1_send_21 ?_
  refine lv_aload_n hx hb dX1_send_24 rfl (lv_at hl 1 rfl) ?_
  refine lv_iload_n hx hb dX1_send_25 rfl (lv_at hl 0 rfl) ?_
  refine lv_iconst (v := nI 0) hx hb dX1_send_26 (by decide) ?_
  have hPc := hP.sub (ws' := sfW κ T S ad bs sm pl r0 r1 (nI k0) vo) [0, 1, 2, 3, 4, 5] rfl
  refine pu_call (va_runV (As := [.int (nI (T + k0)), .int (nI 0)]) (rest := [.ref ((ad 1)), .int (nI ((cl (pl t) * S + 0) * 16)), .ref ((ad 1))]) ⟨hx, hb, hml, hown, hts⟩ (c_slot l D κ T S ad bs sm pl r0 r1 (nI k0) vo (T + k0) 0) (cwV 2 hts gX1_send_X1_slot rfl rfl rfl (by decide +kernel) ⟨Nat.le_of_ble_eq_true rfl, Nat.le_of_ble_eq_true rfl⟩) ⟨pu_blind, va_recv hK hPc (ci := 2) (q0 := 0) rfl rfl, pu_pre hK hPc⟩ rfl rfl hl.1 rfl (lv_room (Nat.le_of_ble_eq_true rfl)) dX1_send_27 ⟨Nat.le_of_ble_eq_true rfl, Nat.le_of_ble_eq_true rfl⟩) ?_
  refine lv_bipush (v := nI 16) hx hb dX1_send_30 (by decide) ?_
  refine lv_imul hx hb dX1_send_32 ?_
  refine tp_i (y := nI (((T + k0) * S + 0) * 16)) (by exact pk_mul _ _) ?_
  refine lv_aload_n hx hb dX1_send_33 rfl (lv_at hl 1 rfl) ?_
  refine va_get (D := D) (ci := 2) (v := .int (nI S)) (C := RX1) (T := TX1) (N := 9) hx hb hts (by decide +kernel) hown hK hP 0 rfl rfl 1 (by decide) (hts (.fieldLink RX1 15 "TrackDisk$Surface" "sectors" "I") (by decide +kernel)) (fun _ h9 => h9) rfl dX1_send_34 ?_
  refine lv_bipush (v := nI 16) hx hb dX1_send_37 (by decide) ?_
  refine lv_imul hx hb dX1_send_39 ?_
  refine tp_i (y := nI (S * 16)) (by exact pk_mul _ _) ?_
  refine va_copyi (ty := .byte) hx hb (by rw [hml]; exact hl.1.symm) hown (hts (.methodLink RX1 67 arraycopyName) (by decide +kernel)) (hts (.native arraycopyName) (by decide +kernel)) (hts (.static arraycopyName) (by decide +kernel)) (hts (.initialized "java/lang/System") (by decide +kernel)) hK hP hD hS 1 1 1 1 rfl rfl rfl rfl rfl (nI_pos (by omega)) (nI_pos (by omega)) (nI_pos (by omega)) (by rw [nI_clamp (by omega), nI_clamp (by omega)]; exact sf_tle hplt.2) (by rw [nI_clamp (by omega), nI_clamp (by omega)]; exact sf_tle (by omega)) (fun i _ => hft _) (Nat.le_of_ble_eq_true rfl) (Nat.le_of_ble_eq_true rfl) dX1_send_40 (fun H locs hP hD hS => ?_)
  rw [show va_cpy bs bs (nI ((cl (pl t) * S + 0) * 16)).toNatClampNeg (nI (((T + k0) * S + 0) * 16)).toNatClampNeg (nI (S * 16)).toNatClampNeg = va_cpy bs bs ((cl (pl t) * S + 0) * 16) (((T + k0) * S + 0) * 16) (S * 16) from by rw [nI_clamp (n := ((cl (pl t) * S + 0) * 16)) (by omega), nI_clamp (n := (S * 16)) (by omega), nI_clamp (n := (((T + k0) * S + 0) * 16)) (by omega)]] at hP hD
  have hP : va_P D vwCl (sfW κ T S ad (va_cpy bs bs ((cl (pl t) * S + 0) * 16) (((T + k0) * S + 0) * 16) (S * 16)) sm pl r0 r1 (nI k0) vo) H := hP
  have hD : va_D A (sfW κ T S ad (va_cpy bs bs ((cl (pl t) * S + 0) * 16) (((T + k0) * S + 0) * 16) (S * 16)) sm pl r0 r1 (nI k0) vo) := hD
  refine lv_aload_n hx hb dX1_send_43 rfl (lv_at hl 1 rfl) ?_
  refine lv_iload_n hx hb dX1_send_44 rfl (lv_at hl 0 rfl) ?_
  have hPc := hP.sub (ws' := sfW κ T S ad (va_cpy bs bs ((cl (pl t) * S + 0) * 16) (((T + k0) * S + 0) * 16) (S * 16)) sm pl r0 r1 (nI k0) vo) [0, 1, 2, 3, 4, 5] rfl
  have hDc := hD.sub (ws' := sfW κ T S ad (va_cpy bs bs ((cl (pl t) * S + 0) * 16) (((T + k0) * S + 0) * 16) (S * 16)) sm pl r0 r1 (nI k0) vo) [0, 1, 2, 3, 4, 5] (by decide) rfl
  refine mu_call (wc := sfW κ T S ad (va_cpy bs bs ((cl (pl t) * S + 0) * 16) (((T + k0) * S + 0) * 16) (S * 16)) sm pl r0 r1 (nI k0) vo) (wc' := sfW κ T S ad (va_cpy bs bs ((cl (pl t) * S + 0) * 16) (((T + k0) * S + 0) * 16) (S * 16)) (ssF (va_cpy bs bs ((cl (pl t) * S + 0) * 16) (((T + k0) * S + 0) * 16) (S * 16)) sm S (T + k0) S) pl r0 r1 (nI k0) vo) (ws' := sfW κ T S ad (va_cpy bs bs ((cl (pl t) * S + 0) * 16) (((T + k0) * S + 0) * 16) (S * 16)) (ssF (va_cpy bs bs ((cl (pl t) * S + 0) * 16) (((T + k0) * S + 0) * 16) (S * 16)) sm S (T + k0) S) pl r0 r1 (nI k0) vo) (wr := (([] : List Nat).filterMap fun i => (sfW κ T S ad (va_cpy bs bs ((cl (pl t) * S + 0) * 16) (((T + k0) * S + 0) * 16) (S * 16)) sm pl r0 r1 (nI k0) vo)[i]?)) (va_runV (As := [.int (nI (T + k0))]) (rest := []) ⟨hx, hb, hml, hown, hts⟩ (c_setSums l D κ H.size T S ad (va_cpy bs bs ((cl (pl t) * S + 0) * 16) (((T + k0) * S + 0) * 16) (S * 16)) sm pl r0 r1 (nI k0) vo hT hS8 (T + k0) (by omega)) (cwV 1 hts gX1_send_X1_setSums rfl rfl rfl (by decide +kernel) ⟨Nat.le_of_ble_eq_true rfl, Nat.le_of_ble_eq_true rfl⟩) ⟨mu_blind, va_recv hK hPc (ci := 2) (q0 := 0) rfl rfl, mu_pre hK hPc hDc⟩ rfl rfl hl.1 rfl (lv_room (Nat.le_of_ble_eq_true rfl)) dX1_send_45 ⟨Nat.le_of_ble_eq_true rfl, Nat.le_of_ble_eq_true rfl⟩) hP hD hS hA [0, 1, 2, 3, 4, 5] [] [0, 1, 2, 3, 4, 5] rfl rfl (by decide) (by decide) rfl rfl (by decide) (fun H locs hP hD hS => ?_)
  refine W.eq (g2 := F0 m 48 ls []) rfl ?_
  refine lv_aload_n hx hb dX1_send_48 rfl (lv_at hl 1 rfl) ?_
  refine va_get (D := D) (ci := 2) (v := .ref ((ad 3))) (C := RX1) (T := TX1) (N := 9) hx hb hts (by decide +kernel) hown hK hP 0 rfl rfl 4 (by decide) (hts (.fieldLink RX1 26 "TrackDisk$Surface" "place" "[I") (by decide +kernel)) (fun _ h9 => h9) rfl dX1_send_49 ?_
  refine lv_iload_n hx hb dX1_send_52 rfl (lv_at hl 2 rfl) ?_
  refine lv_iload_n hx hb dX1_send_53 rfl (lv_at hl 0 rfl) ?_
  refine va_iast hx hb hK hP hD hS 3 0 rfl rfl (vp_in_nI (by omega) (by omega)) dX1_send_54 (fun H locs hP hD hS => ?_)
  rw [nI_clamp (n := t) (by omega)] at hP hD
  have hP : va_P D vwCl (sfW κ T S ad (va_cpy bs bs ((cl (pl t) * S + 0) * 16) (((T + k0) * S + 0) * 16) (S * 16)) (ssF (va_cpy bs bs ((cl (pl t) * S + 0) * 16) (((T + k0) * S + 0) * 16) (S * 16)) sm S (T + k0) S) (upd (pl) (t) (nI (T + k0))) r0 r1 (nI k0) vo) H := hP
  have hD : va_D A (sfW κ T S ad (va_cpy bs bs ((cl (pl t) * S + 0) * 16) (((T + k0) * S + 0) * 16) (S * 16)) (ssF (va_cpy bs bs ((cl (pl t) * S + 0) * 16) (((T + k0) * S + 0) * 16) (S * 16)) sm S (T + k0) S) (upd (pl) (t) (nI (T + k0))) r0 r1 (nI k0) vo) := hD
  refine lv_aload_n hx hb dX1_send_55 rfl (lv_at hl 1 rfl) ?_
  refine lv_dup hx hb dX1_send_56 rfl ?_
  refine va_get (D := D) (ci := 2) (v := .int ((nI k0))) (C := RX1) (T := TX1) (N := 9) hx hb hts (by decide +kernel) hown hK hP 0 rfl rfl 7 (by decide) (hts (.fieldLink RX1 35 "TrackDisk$Surface" "taken" "I") (by decide +kernel)) (fun _ h9 => h9) rfl dX1_send_57 ?_
  refine lv_iconst (v := nI 1) hx hb dX1_send_60 (by decide) ?_
  refine lv_iadd hx hb dX1_send_61 ?_
  refine tp_i (y := nI (k0 + 1)) (by exact nI_add _ _) ?_
  refine va_put (D := D) (ci := 2) (v := .int (nI (k0 + 1))) (ty := .int) (C := RX1) (T := TX1) (N := 9) hx hb hts (by decide +kernel) tyX1 tyX1_ok nmX1 hown hK hP hD hS 0 rfl rfl 7 (by decide) (hts (.fieldLink RX1 35 "TrackDisk$Surface" "taken" "I") (by decide +kernel)) (fun _ h9 => h9) rfl (by decide +kernel) rfl rfl (Nat.le_of_ble_eq_true rfl) dX1_send_62 (fun H locs hP hD hS => ?_)
  have hP : va_P D vwCl (sfW κ T S ad (va_cpy bs bs ((cl (pl t) * S + 0) * 16) (((T + k0) * S + 0) * 16) (S * 16)) (ssF (va_cpy bs bs ((cl (pl t) * S + 0) * 16) (((T + k0) * S + 0) * 16) (S * 16)) sm S (T + k0) S) (upd (pl) (t) (nI (T + k0))) r0 r1 (nI (k0 + 1)) vo) H := hP
  have hD : va_D A (sfW κ T S ad (va_cpy bs bs ((cl (pl t) * S + 0) * 16) (((T + k0) * S + 0) * 16) (S * 16)) (ssF (va_cpy bs bs ((cl (pl t) * S + 0) * 16) (((T + k0) * S + 0) * 16) (S * 16)) sm S (T + k0) S) (upd (pl) (t) (nI (T + k0))) r0 r1 (nI (k0 + 1)) vo) := hD
  refine lv_iload_n hx hb dX1_send_65 rfl (lv_at hl 0 rfl) ?_
  have hP9 : va_P D vwCl (sfW κ T S ad (va_cpy bs bs ((cl (pl t) * S + 0) * 16) (((T + k0) * S + 0) * 16) (S * 16)) (ssF (va_cpy bs bs ((cl (pl t) * S + 0) * 16) (((T + k0) * S + 0) * 16) (S * 16)) sm S (T + k0) S) (upd pl t (nI (T + k0))) r0 r1 (nI (k0 + 1)) vo) H := hP
  have hD9 : va_D A (sfW κ T S ad (va_cpy bs bs ((cl (pl t) * S + 0) * 16) (((T + k0) * S + 0) * 16) (S * 16)) (ssF (va_cpy bs bs ((cl (pl t) * S + 0) * 16) (((T + k0) * S + 0) * 16) (S * 16)) sm S (T + k0) S) (upd pl t (nI (T + k0))) r0 r1 (nI (k0 + 1)) vo) := hD
  exact W.iret hx hb hr (fun t ht _ => ⟨⟨rfl, by rw [ht]; exact hP9, hD9⟩, hS.F ht⟩) hS.2.2 dX1_send_66 hlocks

set_option maxHeartbeats 4000000 in
set_option maxRecDepth 100000 in
/-- takeOver(other) -/
theorem c_takeOver (l : Launch) (D : va_G) (κ : Nat → ClassId) (sz : Nat) (T S : Nat) (ad : Nat → Nat) (bs sm pl r0 r1 : Nat → Int32) (tk vo : Int32) (bad : Nat → Nat) (bbs bsm bpl br0 br1 : Nat → Int32) (btk bvo : Int32) (hT : T ≤ 12) (hS8 : S ≤ 8) (hft : sb_Fit bbs) : Met l yX1_takeOver wsX1_takeOver ({ frames := 1, cells := 0, slots := 0, locals := 60 }) (va_Pc [.ref ((ad 0)), .ref ((bad 0))] (mu_B D κ (sfW κ T S ad bs sm pl r0 r1 tk vo ++ sfW κ T S bad bbs bsm bpl br0 br1 btk bvo) sz)) (mu_Q D none (sfW κ T S ad (va_cpy bbs bs 0 0 ((T + 2) * S * 16)) (va_cpy bsm sm 0 0 ((T + 2) * S)) (va_cpy bpl pl 0 0 T) (va_cpy br0 r0 0 0 T) (va_cpy br1 r1 0 0 T) btk bvo ++ sfW κ T S bad bbs bsm bpl br0 br1 btk bvo) (va_A (sfW κ T S ad bs sm pl r0 r1 tk vo ++ sfW κ T S bad bbs bsm bpl br0 br1 btk bvo) sz)) 0 0 (va_A (sfW κ T S ad bs sm pl r0 r1 tk vo ++ sfW κ T S bad bbs bsm bpl br0 br1 btk bvo) sz) := by
  refine Met.ofW (cc := cX1_takeOver) (maxL := 2) (ret := none) (by decide) rfl ?_
  intro p e s m args below meth c s₁ B hml hv
  obtain ⟨rfl, hsz, hP, hK, hD0⟩ := hv
  have hx := B.exec
  have hb := B.bytes
  have hr := B.returns
  have hts := atoms_spec (ws := wsX1_takeOver) B.pre
  have hown : s.vm.findClass RX1 = some m.cls := findClass_of_methodNamed B.named
  have hlocks := B.notSynchronized
  subst hsz
  have hD := hD0.self (sz := s.heap.size)
  generalize hAe : va_A (sfW κ T S ad bs sm pl r0 r1 tk vo ++ sfW κ T S bad bbs bsm bpl br0 br1 btk bvo) s.heap.size = A at hD ⊢
  have hA : ∀ q : Nat, s.heap.size ≤ q → A q := fun q h => by rw [← hAe]; exact Or.inr h
  refine W.gen (P := fun H locs => va_P D vwCl (sfW κ T S ad bs sm pl r0 r1 tk vo ++ sfW κ T S bad bbs bsm bpl br0 br1 btk bvo) H ∧ va_S A s.heap H locs) (fun H locs h => ?_) ⟨hP, va_S.rf⟩
  clear hP
  obtain ⟨hP, hS⟩ := h
  have hl := lv_entry ([.ref ((ad 0)), .ref ((bad 0))]) (n := 2) (Nat.le_of_ble_eq_true rfl)
  rw [lg_entry_eq]
  generalize (lg_sl ([.ref ((ad 0)), .ref ((bad 0))]) ++ List.replicate (2 - (lg_sl ([.ref ((ad 0)), .ref ((bad 0))])).length) Slot.unset).toArray = ls at hl ⊢
  have hl : lv_has ls 2 [(0, .ref ((ad 0))), (1, .ref ((bad 0)))] := hl
  have hmx := sf_max hT hS8
  refine lv_aload_n hx hb dX1_takeOver_0 rfl (lv_at hl 1 rfl) ?_
  refine va_get (D := D) (ci := 2) (v := .ref ((bad 1))) (C := RX1) (T := TX1) (N := 9) hx hb hts (by decide +kernel) hown hK hP 6 rfl rfl 2 (by decide) (hts (.fieldLink RX1 18 "TrackDisk$Surface" "bytes" "[B") (by decide +kernel)) (fun _ h9 => h9) rfl dX1_takeOver_1 ?_
  refine lv_iconst (v := nI 0) hx hb dX1_takeOver_4 (by decide) ?_
  refine lv_aload_n hx hb dX1_takeOver_5 rfl (lv_at hl 0 rfl) ?_
  refine va_get (D := D) (ci := 2) (v := .ref ((ad 1))) (C := RX1) (T := TX1) (N := 9) hx hb hts (by decide +kernel) hown hK hP 0 rfl rfl 2 (by decide) (hts (.fieldLink RX1 18 "TrackDisk$Surface" "bytes" "[B") (by decide +kernel)) (fun _ h9 => h9) rfl dX1_takeOver_6 ?_
  refine lv_iconst (v := nI 0) hx hb dX1_takeOver_9 (by decide) ?_
  refine lv_aload_n hx hb dX1_takeOver_10 rfl (lv_at hl 0 rfl) ?_
  refine va_get (D := D) (ci := 2) (v := .ref ((ad 1))) (C := RX1) (T := TX1) (N := 9) hx hb hts (by decide +kernel) hown hK hP 0 rfl rfl 2 (by decide) (hts (.fieldLink RX1 18 "TrackDisk$Surface" "bytes" "[B") (by decide +kernel)) (fun _ h9 => h9) rfl dX1_takeOver_11 ?_
  refine va_alen (v := nI ((T + 2) * S * 16)) hx hb hK hP 1 1 rfl rfl rfl dX1_takeOver_14 ?_
  refine va_copyi (ty := .byte) hx hb (by rw [hml]; exact hl.1.symm) hown (hts (.methodLink RX1 67 arraycopyName) (by decide +kernel)) (hts (.native arraycopyName) (by decide +kernel)) (hts (.static arraycopyName) (by decide +kernel)) (hts (.initialized "java/lang/System") (by decide +kernel)) hK hP hD hS 7 1 1 1 rfl rfl rfl rfl rfl (nI_pos (by omega)) (nI_pos (by omega)) (nI_pos (by omega)) (by rw [nI_clamp (by omega), nI_clamp (by omega)]; omega) (by rw [nI_clamp (by omega), nI_clamp (by omega)]; omega) (fun i _ => hft _) (Nat.le_of_ble_eq_true rfl) (Nat.le_of_ble_eq_true rfl) dX1_takeOver_15 (fun H locs hP hD hS => ?_)
  rw [show va_cpy bbs bs (nI 0).toNatClampNeg (nI 0).toNatClampNeg (nI ((T + 2) * S * 16)).toNatClampNeg = va_cpy bbs bs 0 0 ((T + 2) * S * 16) from by rw [nI_clamp (n := 0) (by omega), nI_clamp (n := ((T + 2) * S * 16)) (by omega)]] at hP hD
  have hP : va_P D vwCl (sfW κ T S ad (va_cpy bbs bs 0 0 ((T + 2) * S * 16)) sm pl r0 r1 tk vo ++ sfW κ T S bad bbs bsm bpl br0 br1 btk bvo) H := hP
  have hD : va_D A (sfW κ T S ad (va_cpy bbs bs 0 0 ((T + 2) * S * 16)) sm pl r0 r1 tk vo ++ sfW κ T S bad bbs bsm bpl br0 br1 btk bvo) := hD
  refine lv_aload_n hx hb dX1_takeOver_18 rfl (lv_at hl 1 rfl) ?_
  refine va_get (D := D) (ci := 2) (v := .ref ((bad 2))) (C := RX1) (T := TX1) (N := 9) hx hb hts (by decide +kernel) hown hK hP 6 rfl rfl 3 (by decide) (hts (.fieldLink RX1 22 "TrackDisk$Surface" "sums" "[I") (by decide +kernel)) (fun _ h9 => h9) rfl dX1_takeOver_19 ?_
  refine lv_iconst (v := nI 0) hx hb dX1_takeOver_22 (by decide) ?_
  refine lv_aload_n hx hb dX1_takeOver_23 rfl (lv_at hl 0 rfl) ?_
  refine va_get (D := D) (ci := 2) (v := .ref ((ad 2))) (C := RX1) (T := TX1) (N := 9) hx hb hts (by decide +kernel) hown hK hP 0 rfl rfl 3 (by decide) (hts (.fieldLink RX1 22 "TrackDisk$Surface" "sums" "[I") (by decide +kernel)) (fun _ h9 => h9) rfl dX1_takeOver_24 ?_
  refine lv_iconst (v := nI 0) hx hb dX1_takeOver_27 (by decide) ?_
  refine lv_aload_n hx hb dX1_takeOver_28 rfl (lv_at hl 0 rfl) ?_
  refine va_get (D := D) (ci := 2) (v := .ref ((ad 2))) (C := RX1) (T := TX1) (N := 9) hx hb hts (by decide +kernel) hown hK hP 0 rfl rfl 3 (by decide) (hts (.fieldLink RX1 22 "TrackDisk$Surface" "sums" "[I") (by decide +kernel)) (fun _ h9 => h9) rfl dX1_takeOver_29 ?_
  refine va_alen (v := nI ((T + 2) * S)) hx hb hK hP 2 0 rfl rfl rfl dX1_takeOver_32 ?_
  refine va_copyi (ty := .int) hx hb (by rw [hml]; exact hl.1.symm) hown (hts (.methodLink RX1 67 arraycopyName) (by decide +kernel)) (hts (.native arraycopyName) (by decide +kernel)) (hts (.static arraycopyName) (by decide +kernel)) (hts (.initialized "java/lang/System") (by decide +kernel)) hK hP hD hS 8 2 0 0 rfl rfl rfl rfl rfl (nI_pos (by omega)) (nI_pos (by omega)) (nI_pos (by omega)) (by rw [nI_clamp (by omega), nI_clamp (by omega)]; omega) (by rw [nI_clamp (by omega), nI_clamp (by omega)]; omega) (fun i _ => rfl) (Nat.le_of_ble_eq_true rfl) (Nat.le_of_ble_eq_true rfl) dX1_takeOver_33 (fun H locs hP hD hS => ?_)
  rw [show va_cpy bsm sm (nI 0).toNatClampNeg (nI 0).toNatClampNeg (nI ((T + 2) * S)).toNatClampNeg = va_cpy bsm sm 0 0 ((T + 2) * S) from by rw [nI_clamp (n := 0) (by omega), nI_clamp (n := ((T + 2) * S)) (by omega)]] at hP hD
  have hP : va_P D vwCl (sfW κ T S ad (va_cpy bbs bs 0 0 ((T + 2) * S * 16)) (va_cpy bsm sm 0 0 ((T + 2) * S)) pl r0 r1 tk vo ++ sfW κ T S bad bbs bsm bpl br0 br1 btk bvo) H := hP
  have hD : va_D A (sfW κ T S ad (va_cpy bbs bs 0 0 ((T + 2) * S * 16)) (va_cpy bsm sm 0 0 ((T + 2) * S)) pl r0 r1 tk vo ++ sfW κ T S bad bbs bsm bpl br0 br1 btk bvo) := hD
  refine lv_aload_n hx hb dX1_takeOver_36 rfl (lv_at hl 1 rfl) ?_
  refine va_get (D := D) (ci := 2) (v := .ref ((bad 3))) (C := RX1) (T := TX1) (N := 9) hx hb hts (by decide +kernel) hown hK hP 6 rfl rfl 4 (by decide) (hts (.fieldLink RX1 26 "TrackDisk$Surface" "place" "[I") (by decide +kernel)) (fun _ h9 => h9) rfl dX1_takeOver_37 ?_
  refine lv_iconst (v := nI 0) hx hb dX1_takeOver_40 (by decide) ?_
  refine lv_aload_n hx hb dX1_takeOver_41 rfl (lv_at hl 0 rfl) ?_
  refine va_get (D := D) (ci := 2) (v := .ref ((ad 3))) (C := RX1) (T := TX1) (N := 9) hx hb hts (by decide +kernel) hown hK hP 0 rfl rfl 4 (by decide) (hts (.fieldLink RX1 26 "TrackDisk$Surface" "place" "[I") (by decide +kernel)) (fun _ h9 => h9) rfl dX1_takeOver_42 ?_
  refine lv_iconst (v := nI 0) hx hb dX1_takeOver_45 (by decide) ?_
  refine lv_aload_n hx hb dX1_takeOver_46 rfl (lv_at hl 0 rfl) ?_
  refine va_get (D := D) (ci := 2) (v := .ref ((ad 3))) (C := RX1) (T := TX1) (N := 9) hx hb hts (by decide +kernel) hown hK hP 0 rfl rfl 4 (by decide) (hts (.fieldLink RX1 26 "TrackDisk$Surface" "place" "[I") (by decide +kernel)) (fun _ h9 => h9) rfl dX1_takeOver_47 ?_
  refine va_alen (v := nI (T)) hx hb hK hP 3 0 rfl rfl rfl dX1_takeOver_50 ?_
  refine va_copyi (ty := .int) hx hb (by rw [hml]; exact hl.1.symm) hown (hts (.methodLink RX1 67 arraycopyName) (by decide +kernel)) (hts (.native arraycopyName) (by decide +kernel)) (hts (.static arraycopyName) (by decide +kernel)) (hts (.initialized "java/lang/System") (by decide +kernel)) hK hP hD hS 9 3 0 0 rfl rfl rfl rfl rfl (nI_pos (by omega)) (nI_pos (by omega)) (nI_pos (by omega)) (by rw [nI_clamp (by omega), nI_clamp (by omega)]; omega) (by rw [nI_clamp (by omega), nI_clamp (by omega)]; omega) (fun i _ => rfl) (Nat.le_of_ble_eq_true rfl) (Nat.le_of_ble_eq_true rfl) dX1_takeOver_51 (fun H locs hP hD hS => ?_)
  rw [show va_cpy bpl pl (nI 0).toNatClampNeg (nI 0).toNatClampNeg (nI (T)).toNatClampNeg = va_cpy bpl pl 0 0 (T) from by rw [nI_clamp (n := 0) (by omega), nI_clamp (n := (T)) (by omega)]] at hP hD
  have hP : va_P D vwCl (sfW κ T S ad (va_cpy bbs bs 0 0 ((T + 2) * S * 16)) (va_cpy bsm sm 0 0 ((T + 2) * S)) (va_cpy bpl pl 0 0 (T)) r0 r1 tk vo ++ sfW κ T S bad bbs bsm bpl br0 br1 btk bvo) H := hP
  have hD : va_D A (sfW κ T S ad (va_cpy bbs bs 0 0 ((T + 2) * S * 16)) (va_cpy bsm sm 0 0 ((T + 2) * S)) (va_cpy bpl pl 0 0 (T)) r0 r1 tk vo ++ sfW κ T S bad bbs bsm bpl br0 br1 btk bvo) := hD
  refine lv_aload_n hx hb dX1_takeOver_54 rfl (lv_at hl 1 rfl) ?_
  refine va_get (D := D) (ci := 2) (v := .ref ((bad 4))) (C := RX1) (T := TX1) (N := 9) hx hb hts (by decide +kernel) hown hK hP 6 rfl rfl 5 (by decide) (hts (.fieldLink RX1 29 "TrackDisk$Surface" "usedByRow0" "[I") (by decide +kernel)) (fun _ h9 => h9) rfl dX1_takeOver_55 ?_
  refine lv_iconst (v := nI 0) hx hb dX1_takeOver_58 (by decide) ?_
  refine lv_aload_n hx hb dX1_takeOver_59 rfl (lv_at hl 0 rfl) ?_
  refine va_get (D := D) (ci := 2) (v := .ref ((ad 4))) (C := RX1) (T := TX1) (N := 9) hx hb hts (by decide +kernel) hown hK hP 0 rfl rfl 5 (by decide) (hts (.fieldLink RX1 29 "TrackDisk$Surface" "usedByRow0" "[I") (by decide +kernel)) (fun _ h9 => h9) rfl dX1_takeOver_60 ?_
  refine lv_iconst (v := nI 0) hx hb dX1_takeOver_63 (by decide) ?_
  refine lv_aload_n hx hb dX1_takeOver_64 rfl (lv_at hl 0 rfl) ?_
  refine va_get (D := D) (ci := 2) (v := .ref ((ad 4))) (C := RX1) (T := TX1) (N := 9) hx hb hts (by decide +kernel) hown hK hP 0 rfl rfl 5 (by decide) (hts (.fieldLink RX1 29 "TrackDisk$Surface" "usedByRow0" "[I") (by decide +kernel)) (fun _ h9 => h9) rfl dX1_takeOver_65 ?_
  refine va_alen (v := nI (T)) hx hb hK hP 4 0 rfl rfl rfl dX1_takeOver_68 ?_
  refine va_copyi (ty := .int) hx hb (by rw [hml]; exact hl.1.symm) hown (hts (.methodLink RX1 67 arraycopyName) (by decide +kernel)) (hts (.native arraycopyName) (by decide +kernel)) (hts (.static arraycopyName) (by decide +kernel)) (hts (.initialized "java/lang/System") (by decide +kernel)) hK hP hD hS 10 4 0 0 rfl rfl rfl rfl rfl (nI_pos (by omega)) (nI_pos (by omega)) (nI_pos (by omega)) (by rw [nI_clamp (by omega), nI_clamp (by omega)]; omega) (by rw [nI_clamp (by omega), nI_clamp (by omega)]; omega) (fun i _ => rfl) (Nat.le_of_ble_eq_true rfl) (Nat.le_of_ble_eq_true rfl) dX1_takeOver_69 (fun H locs hP hD hS => ?_)
  rw [show va_cpy br0 r0 (nI 0).toNatClampNeg (nI 0).toNatClampNeg (nI (T)).toNatClampNeg = va_cpy br0 r0 0 0 (T) from by rw [nI_clamp (n := 0) (by omega), nI_clamp (n := (T)) (by omega)]] at hP hD
  have hP : va_P D vwCl (sfW κ T S ad (va_cpy bbs bs 0 0 ((T + 2) * S * 16)) (va_cpy bsm sm 0 0 ((T + 2) * S)) (va_cpy bpl pl 0 0 (T)) (va_cpy br0 r0 0 0 (T)) r1 tk vo ++ sfW κ T S bad bbs bsm bpl br0 br1 btk bvo) H := hP
  have hD : va_D A (sfW κ T S ad (va_cpy bbs bs 0 0 ((T + 2) * S * 16)) (va_cpy bsm sm 0 0 ((T + 2) * S)) (va_cpy bpl pl 0 0 (T)) (va_cpy br0 r0 0 0 (T)) r1 tk vo ++ sfW κ T S bad bbs bsm bpl br0 br1 btk bvo) := hD
  refine lv_aload_n hx hb dX1_takeOver_72 rfl (lv_at hl 1 rfl) ?_
  refine va_get (D := D) (ci := 2) (v := .ref ((bad 5))) (C := RX1) (T := TX1) (N := 9) hx hb hts (by decide +kernel) hown hK hP 6 rfl rfl 6 (by decide) (hts (.fieldLink RX1 32 "TrackDisk$Surface" "usedByRow1" "[I") (by decide +kernel)) (fun _ h9 => h9) rfl dX1_takeOver_73 ?_
  refine lv_iconst (v := nI 0) hx hb dX1_takeOver_76 (by decide) ?_
  refine lv_aload_n hx hb dX1_takeOver_77 rfl (lv_at hl 0 rfl) ?_
  refine va_get (D := D) (ci := 2) (v := .ref ((ad 5))) (C := RX1) (T := TX1) (N := 9) hx hb hts (by decide +kernel) hown hK hP 0 rfl rfl 6 (by decide) (hts (.fieldLink RX1 32 "TrackDisk$Surface" "usedByRow1" "[I") (by decide +kernel)) (fun _ h9 => h9) rfl dX1_takeOver_78 ?_
  refine lv_iconst (v := nI 0) hx hb dX1_takeOver_81 (by decide) ?_
  refine lv_aload_n hx hb dX1_takeOver_82 rfl (lv_at hl 0 rfl) ?_
  refine va_get (D := D) (ci := 2) (v := .ref ((ad 5))) (C := RX1) (T := TX1) (N := 9) hx hb hts (by decide +kernel) hown hK hP 0 rfl rfl 6 (by decide) (hts (.fieldLink RX1 32 "TrackDisk$Surface" "usedByRow1" "[I") (by decide +kernel)) (fun _ h9 => h9) rfl dX1_takeOver_83 ?_
  refine va_alen (v := nI (T)) hx hb hK hP 5 0 rfl rfl rfl dX1_takeOver_86 ?_
  refine va_copyi (ty := .int) hx hb (by rw [hml]; exact hl.1.symm) hown (hts (.methodLink RX1 67 arraycopyName) (by decide +kernel)) (hts (.native arraycopyName) (by decide +kernel)) (hts (.static arraycopyName) (by decide +kernel)) (hts (.initialized "java/lang/System") (by decide +kernel)) hK hP hD hS 11 5 0 0 rfl rfl rfl rfl rfl (nI_pos (by omega)) (nI_pos (by omega)) (nI_pos (by omega)) (by rw [nI_clamp (by omega), nI_clamp (by omega)]; omega) (by rw [nI_clamp (by omega), nI_clamp (by omega)]; omega) (fun i _ => rfl) (Nat.le_of_ble_eq_true rfl) (Nat.le_of_ble_eq_true rfl) dX1_takeOver_87 (fun H locs hP hD hS => ?_)
  rw [show va_cpy br1 r1 (nI 0).toNatClampNeg (nI 0).toNatClampNeg (nI (T)).toNatClampNeg = va_cpy br1 r1 0 0 (T) from by rw [nI_clamp (n := 0) (by omega), nI_clamp (n := (T)) (by omega)]] at hP hD
  have hP : va_P D vwCl (sfW κ T S ad (va_cpy bbs bs 0 0 ((T + 2) * S * 16)) (va_cpy bsm sm 0 0 ((T + 2) * S)) (va_cpy bpl pl 0 0 (T)) (va_cpy br0 r0 0 0 (T)) (va_cpy br1 r1 0 0 (T)) tk vo ++ sfW κ T S bad bbs bsm bpl br0 br1 btk bvo) H := hP
  have hD : va_D A (sfW κ T S ad (va_cpy bbs bs 0 0 ((T + 2) * S * 16)) (va_cpy bsm sm 0 0 ((T + 2) * S)) (va_cpy bpl pl 0 0 (T)) (va_cpy br0 r0 0 0 (T)) (va_cpy br1 r1 0 0 (T)) tk vo ++ sfW κ T S bad bbs bsm bpl br0 br1 btk bvo) := hD
  refine lv_aload_n hx hb dX1_takeOver_90 rfl (lv_at hl 0 rfl) ?_
  refine lv_aload_n hx hb dX1_takeOver_91 rfl (lv_at hl 1 rfl) ?_
  refine va_get (D := D) (ci := 2) (v := .int btk) (C := RX1) (T := TX1) (N := 9) hx hb hts (by decide +kernel) hown hK hP 6 rfl rfl 7 (by decide) (hts (.fieldLink RX1 35 "TrackDisk$Surface" "taken" "I") (by decide +kernel)) (fun _ h9 => h9) rfl dX1_takeOver_92 ?_
  refine va_put (D := D) (ci := 2) (v := .int btk) (ty := .int) (C := RX1) (T := TX1) (N := 9) hx hb hts (by decide +kernel) tyX1 tyX1_ok nmX1 hown hK hP hD hS 0 rfl rfl 7 (by decide) (hts (.fieldLink RX1 35 "TrackDisk$Surface" "taken" "I") (by decide +kernel)) (fun _ h9 => h9) rfl (by decide +kernel) rfl rfl (Nat.le_of_ble_eq_true rfl) dX1_takeOver_95 (fun H locs hP hD hS => ?_)
  have hP : va_P D vwCl (sfW κ T S ad (va_cpy bbs bs 0 0 ((T + 2) * S * 16)) (va_cpy bsm sm 0 0 ((T + 2) * S)) (va_cpy bpl pl 0 0 (T)) (va_cpy br0 r0 0 0 (T)) (va_cpy br1 r1 0 0 (T)) btk vo ++ sfW κ T S bad bbs bsm bpl br0 br1 btk bvo) H := hP
  have hD : va_D A (sfW κ T S ad (va_cpy bbs bs 0 0 ((T + 2) * S * 16)) (va_cpy bsm sm 0 0 ((T + 2) * S)) (va_cpy bpl pl 0 0 (T)) (va_cpy br0 r0 0 0 (T)) (va_cpy br1 r1 0 0 (T)) btk vo ++ sfW κ T S bad bbs bsm bpl br0 br1 btk bvo) := hD
  refine lv_aload_n hx hb dX1_takeOver_98 rfl (lv_at hl 0 rfl) ?_
  refine lv_aload_n hx hb dX1_takeOver_99 rfl (lv_at hl 1 rfl) ?_
  refine va_get (D := D) (ci := 2) (v := .int bvo) (C := RX1) (T := TX1) (N := 9) hx hb hts (by decide +kernel) hown hK hP 6 rfl rfl 8 (by decide) (hts (.fieldLink RX1 38 "TrackDisk$Surface" "volume" "I") (by decide +kernel)) (fun _ h9 => h9) rfl dX1_takeOver_100 ?_
  refine va_put (D := D) (ci := 2) (v := .int bvo) (ty := .int) (C := RX1) (T := TX1) (N := 9) hx hb hts (by decide +kernel) tyX1 tyX1_ok nmX1 hown hK hP hD hS 0 rfl rfl 8 (by decide) (hts (.fieldLink RX1 38 "TrackDisk$Surface" "volume" "I") (by decide +kernel)) (fun _ h9 => h9) rfl (by decide +kernel) rfl rfl (Nat.le_of_ble_eq_true rfl) dX1_takeOver_103 (fun H locs hP hD hS => ?_)
  have hP : va_P D vwCl (sfW κ T S ad (va_cpy bbs bs 0 0 ((T + 2) * S * 16)) (va_cpy bsm sm 0 0 ((T + 2) * S)) (va_cpy bpl pl 0 0 (T)) (va_cpy br0 r0 0 0 (T)) (va_cpy br1 r1 0 0 (T)) btk bvo ++ sfW κ T S bad bbs bsm bpl br0 br1 btk bvo) H := hP
  have hD : va_D A (sfW κ T S ad (va_cpy bbs bs 0 0 ((T + 2) * S * 16)) (va_cpy bsm sm 0 0 ((T + 2) * S)) (va_cpy bpl pl 0 0 (T)) (va_cpy br0 r0 0 0 (T)) (va_cpy br1 r1 0 0 (T)) btk bvo ++ sfW κ T S bad bbs bsm bpl br0 br1 btk bvo) := hD
  have hP9 : va_P D vwCl (sfW κ T S ad (va_cpy bbs bs 0 0 ((T + 2) * S * 16)) (va_cpy bsm sm 0 0 ((T + 2) * S)) (va_cpy bpl pl 0 0 T) (va_cpy br0 r0 0 0 T) (va_cpy br1 r1 0 0 T) btk bvo ++ sfW κ T S bad bbs bsm bpl br0 br1 btk bvo) H := hP
  have hD9 : va_D A (sfW κ T S ad (va_cpy bbs bs 0 0 ((T + 2) * S * 16)) (va_cpy bsm sm 0 0 ((T + 2) * S)) (va_cpy bpl pl 0 0 T) (va_cpy br0 r0 0 0 T) (va_cpy br1 r1 0 0 T) btk bvo ++ sfW κ T S bad bbs bsm bpl br0 br1 btk bvo) := hD
  exact W.vret hx hb hr (fun t ht _ => ⟨⟨rfl, by rw [ht]; exact hP9, hD9⟩, hS.F ht⟩) hS.2.2 dX1_takeOver_106 hlocks

set_option maxHeartbeats 4000000 in
set_option maxRecDepth 100000 in
/-- differsAt(other, slot) -/
theorem c_differsAt (l : Launch) (D : va_G) (κ : Nat → ClassId) (T S : Nat) (ad : Nat → Nat) (bs sm pl r0 r1 : Nat → Int32) (tk vo : Int32) (bad : Nat → Nat) (bbs bsm bpl br0 br1 : Nat → Int32) (btk bvo : Int32) (hT : T ≤ 12) (hS8 : S ≤ 8) (q : Nat) (hq : q < (T + 2) * S) : Met l yX1_differsAt wsX1_differsAt ({ frames := 0, cells := 0, slots := 0, locals := 0 }) (va_Pc [.ref ((ad 0)), .ref ((bad 0)), .int (nI q)] (pu_B D κ (sfW κ T S ad bs sm pl r0 r1 tk vo ++ sfW κ T S bad bbs bsm bpl br0 br1 btk bvo))) (pu_Q (.int (bI (dnF bs bbs (q * 16) 16)))) 0 0 pu_N := by
  refine Met.ofW (cc := cX1_differsAt) (maxL := 5) (ret := (some .boolean)) (by decide) rfl ?_
  intro p e s m args below meth c s₁ B hml hv
  obtain ⟨rfl, hP, hK⟩ := hv
  have hx := B.exec
  have hb := B.bytes
  have hr := B.returns
  have hts := atoms_spec (ws := wsX1_differsAt) B.pre
  have hown : s.vm.findClass RX1 = some m.cls := findClass_of_methodNamed B.named
  have hlocks := B.notSynchronized
  have hl := lv_entry ([.ref ((ad 0)), .ref ((bad 0)), .int (nI q)]) (n := 5) (Nat.le_of_ble_eq_true rfl)
  rw [lg_entry_eq]
  generalize (lg_sl ([.ref ((ad 0)), .ref ((bad 0)), .int (nI q)]) ++ List.replicate (5 - (lg_sl ([.ref ((ad 0)), .ref ((bad 0)), .int (nI q)])).length) Slot.unset).toArray = ls at hl ⊢
  have hl : lv_has ls 5 [(0, .ref ((ad 0))), (1, .ref ((bad 0))), (2, .int (nI q))] := hl
  have hmx := sf_max hT hS8
  refine lv_iload_n hx hb dX1_differsAt_0 rfl (lv_at hl 2 rfl) ?_
  refine lv_bipush (v := nI 16) hx hb dX1_differsAt_1 (by decide) ?_
  refine lv_imul hx hb dX1_differsAt_3 ?_
  refine tp_i (y := nI (q * 16)) (by exact pk_mul _ _) ?_
  refine lv_istore_n (lv' := [(3, .int (nI (q * 16))), (0, .ref ((ad 0))), (1, .ref ((bad 0))), (2, .int (nI q))]) hx hb dX1_differsAt_4 rfl hl (by decide) rfl (fun ls hl => ?_)
  refine lv_iconst (v := nI 0) hx hb dX1_differsAt_5 (by decide) ?_
  refine lv_istore (lv' := [(4, .int (nI 0)), (3, .int (nI (q * 16))), (0, .ref ((ad 0))), (1, .ref ((bad 0))), (2, .int (nI q))]) hx hb dX1_differsAt_6 hl (by decide) rfl (fun ls hl => ?_)
  refine W.loopP (N := 16) (I := fun k ls => lv_has ls 5 [(4, .int (nI k)), (3, .int (nI (q * 16))), (0, .ref ((ad 0))), (1, .ref ((bad 0))), (2, .int (nI q))] ∧ dnF bs bbs (q * 16) k = false) 0 (by omega) (fun k ls hk hI ihk => ?_) (fun ls hI => ?_) ⟨lv_sub hl [0, 1, 2, 3, 4] rfl, rfl⟩
  · skip
    clear hl
    obtain ⟨hl, hJk⟩ := hI
    have hlt := sf_qlt hq hk
    refine lv_iload hx hb dX1_differsAt_8 (lv_at hl 0 rfl) ?_
    refine lv_bipush (v := nI 16) hx hb dX1_differsAt_10 (by decide) ?_
    refine lv_icmp_ge (tgt := 44) hx hb dX1_differsAt_12 (by decide) (fun c_12 => ?_) (fun c_12 => ?_)
    · exact absurd c_12 (nI_ge hk (by omega))
    · skip
      refine lv_aload_n hx hb dX1_differsAt_15 rfl (lv_at hl 2 rfl) ?_
      refine va_get (D := D) (ci := 2) (v := .ref ((ad 1))) (C := RX1) (T := TX1) (N := 9) hx hb hts (by decide +kernel) hown hK hP 0 rfl rfl 2 (by decide) (hts (.fieldLink RX1 18 "TrackDisk$Surface" "bytes" "[B") (by decide +kernel)) (fun _ h9 => h9) rfl dX1_differsAt_16 ?_
      refine lv_iload_n hx hb dX1_differsAt_19 rfl (lv_at hl 1 rfl) ?_
      refine lv_iload hx hb dX1_differsAt_20 (lv_at hl 0 rfl) ?_
      refine lv_iadd hx hb dX1_differsAt_22 ?_
      refine tp_i (y := nI ((q * 16) + k)) (by exact nI_add _ _) ?_
      refine va_bald hx hb hK hP 1 1 rfl rfl (vp_in_nI (by omega) (by omega)) dX1_differsAt_23 ?_
      refine tp_i (y := bs ((q * 16) + k)) (by rw [nI_clamp (by omega)]) ?_
      refine lv_aload_n hx hb dX1_differsAt_24 rfl (lv_at hl 3 rfl) ?_
      refine va_get (D := D) (ci := 2) (v := .ref ((bad 1))) (C := RX1) (T := TX1) (N := 9) hx hb hts (by decide +kernel) hown hK hP 6 rfl rfl 2 (by decide) (hts (.fieldLink RX1 18 "TrackDisk$Surface" "bytes" "[B") (by decide +kernel)) (fun _ h9 => h9) rfl dX1_differsAt_25 ?_
      refine lv_iload_n hx hb dX1_differsAt_28 rfl (lv_at hl 1 rfl) ?_
      refine lv_iload hx hb dX1_differsAt_29 (lv_at hl 0 rfl) ?_
      refine lv_iadd hx hb dX1_differsAt_31 ?_
      refine tp_i (y := nI ((q * 16) + k)) (by exact nI_add _ _) ?_
      refine va_bald hx hb hK hP 7 1 rfl rfl (vp_in_nI (by omega) (by omega)) dX1_differsAt_32 ?_
      refine tp_i (y := bbs ((q * 16) + k)) (by rw [nI_clamp (by omega)]) ?_
      refine lv_icmp_eq (tgt := 38) hx hb dX1_differsAt_33 (by decide) (fun c_33 => ?_) (fun c_33 => ?_)
      · skip
        refine lv_iinc (v := nI (k + 1)) (lv' := [(4, .int (nI (k + 1))), (3, .int (nI (q * 16))), (0, .ref ((ad 0))), (1, .ref ((bad 0))), (2, .int (nI q))]) hx hb dX1_differsAt_38 hl (k := 0) rfl (by exact nI_1 _) (by decide) rfl (fun ls hl => ?_)
        refine lv_goto (tgt := 8) hx hb dX1_differsAt_41 (by decide) ?_
        exact ihk ls ⟨lv_sub hl [0, 1, 2, 3, 4] rfl, by simp only [dnF, hJk, Bool.false_or, decide_eq_false_iff_not, Decidable.not_not]; exact c_33⟩
      · skip
        refine lv_iconst (v := nI 1) hx hb dX1_differsAt_36 (by decide) ?_
        refine tp_i (y := bI (dnF bs bbs (q * 16) 16)) (bI_t (dn_t hk c_33)) ?_
        exact pu_zret hx hb hr (by cases dnF bs bbs (q * 16) 16 <;> rfl) hlocks dX1_differsAt_37
  · skip
    clear hl
    obtain ⟨hl, hJk⟩ := hI
    refine lv_iload hx hb dX1_differsAt_8 (lv_at hl 0 rfl) ?_
    refine lv_bipush (v := nI 16) hx hb dX1_differsAt_10 (by decide) ?_
    refine lv_icmp_ge (tgt := 44) hx hb dX1_differsAt_12 (by decide) (fun c_12 => ?_) (fun c_12 => ?_)
    · skip
      refine lv_iconst (v := nI 0) hx hb dX1_differsAt_44 (by decide) ?_
      refine tp_i (y := bI (dnF bs bbs (q * 16) 16)) (bI_f hJk) ?_
      exact pu_zret hx hb hr (by cases dnF bs bbs (q * 16) 16 <;> rfl) hlocks dX1_differsAt_45
    · exact absurd (nI_le (Nat.le_refl _) (by omega)) c_12

set_option maxHeartbeats 4000000 in
set_option maxRecDepth 100000 in
/-- differingSectors(other) -/
theorem c_differing (l : Launch) (D : va_G) (κ : Nat → ClassId) (T S : Nat) (ad : Nat → Nat) (bs sm pl r0 r1 : Nat → Int32) (tk vo : Int32) (bad : Nat → Nat) (bbs bsm bpl br0 br1 : Nat → Int32) (btk bvo : Int32) (hT : T ≤ 12) (hS8 : S ≤ 8)  : Met l yX1_differingSectors wsX1_differingSectors ({ frames := 1, cells := 0, slots := 0, locals := 24 }) (va_Pc [.ref ((ad 0)), .ref ((bad 0))] (pu_B D κ (sfW κ T S ad bs sm pl r0 r1 tk vo ++ sfW κ T S bad bbs bsm bpl br0 br1 btk bvo))) (pu_Q (.int (nI (cnt (fun q => dnF bs bbs (q * 16) 16) ((T + 2) * S))))) 0 0 pu_N := by
  refine Met.ofW (cc := cX1_differingSectors) (maxL := 4) (ret := (some .int)) (by decide) rfl ?_
  intro p e s m args below meth c s₁ B hml hv
  obtain ⟨rfl, hP, hK⟩ := hv
  have hx := B.exec
  have hb := B.bytes
  have hr := B.returns
  have hts := atoms_spec (ws := wsX1_differingSectors) B.pre
  have hown : s.vm.findClass RX1 = some m.cls := findClass_of_methodNamed B.named
  have hlocks := B.notSynchronized
  have hl := lv_entry ([.ref ((ad 0)), .ref ((bad 0))]) (n := 4) (Nat.le_of_ble_eq_true rfl)
  rw [lg_entry_eq]
  generalize (lg_sl ([.ref ((ad 0)), .ref ((bad 0))]) ++ List.replicate (4 - (lg_sl ([.ref ((ad 0)), .ref ((bad 0))])).length) Slot.unset).toArray = ls at hl ⊢
  have hl : lv_has ls 4 [(0, .ref ((ad 0))), (1, .ref ((bad 0)))] := hl
  have hmx := sf_max hT hS8
  refine lv_iconst (v := nI 0) hx hb dX1_differingSectors_0 (by decide) ?_
  refine lv_istore_n (lv' := [(2, .int (nI 0)), (0, .ref ((ad 0))), (1, .ref ((bad 0)))]) hx hb dX1_differingSectors_1 rfl hl (by decide) rfl (fun ls hl => ?_)
  refine lv_iconst (v := nI 0) hx hb dX1_differingSectors_2 (by decide) ?_
  refine lv_istore_n (lv' := [(3, .int (nI 0)), (2, .int (nI 0)), (0, .ref ((ad 0))), (1, .ref ((bad 0)))]) hx hb dX1_differingSectors_3 rfl hl (by decide) rfl (fun ls hl => ?_)
  refine W.loopP (N := ((T + 2) * S)) (I := fun k ls => lv_has ls 4 [(3, .int (nI k)), (2, .int (nI (cnt (fun q => dnF bs bbs (q * 16) 16) k))), (0, .ref ((ad 0))), (1, .ref ((bad 0)))]) 0 (by omega) (fun k ls hk hl ihk => ?_) (fun ls hl => ?_) (lv_sub hl [0, 1, 2, 3] rfl)
  · skip
    refine lv_iload_n hx hb dX1_differingSectors_4 rfl (lv_at hl 0 rfl) ?_
    refine lv_aload_n hx hb dX1_differingSectors_5 rfl (lv_at hl 2 rfl) ?_
    refine va_get (D := D) (ci := 2) (v := .ref ((ad 2))) (C := RX1) (T := TX1) (N := 9) hx hb hts (by decide +kernel) hown hK hP 0 rfl rfl 3 (by decide) (hts (.fieldLink RX1 22 "TrackDisk$Surface" "sums" "[I") (by decide +kernel)) (fun _ h9 => h9) rfl dX1_differingSectors_6 ?_
    refine va_alen (v := nI ((T + 2) * S)) hx hb hK hP 2 0 rfl rfl rfl dX1_differingSectors_9 ?_
    refine lv_icmp_ge (tgt := 31) hx hb dX1_differingSectors_10 (by decide) (fun c_10 => ?_) (fun c_10 => ?_)
    · exact absurd c_10 (nI_ge hk (by omega))
    · skip
      refine lv_aload_n hx hb dX1_differingSectors_13 rfl (lv_at hl 2 rfl) ?_
      refine lv_aload_n hx hb dX1_differingSectors_14 rfl (lv_at hl 3 rfl) ?_
      refine lv_iload_n hx hb dX1_differingSectors_15 rfl (lv_at hl 0 rfl) ?_
      have hPc := hP.sub (ws' := sfW κ T S ad bs sm pl r0 r1 tk vo ++ sfW κ T S bad bbs bsm bpl br0 br1 btk bvo) [0, 1, 2, 3, 4, 5, 6, 7, 8, 9, 10, 11] rfl
      refine pu_call (va_runV (As := [.ref ((bad 0)), .int (nI k)]) (rest := []) ⟨hx, hb, hml, hown, hts⟩ (c_differsAt l D κ T S ad bs sm pl r0 r1 tk vo bad bbs bsm bpl br0 br1 btk bvo hT hS8 k hk) (cwV 2 hts gX1_differingSectors_X1_differsAt rfl rfl rfl (by decide +kernel) ⟨Nat.le_of_ble_eq_true rfl, Nat.le_of_ble_eq_true rfl⟩) ⟨pu_blind, va_recv hK hPc (ci := 2) (q0 := 0) rfl rfl, pu_pre hK hPc⟩ rfl rfl hl.1 rfl (lv_room (Nat.le_of_ble_eq_true rfl)) dX1_differingSectors_16 ⟨Nat.le_of_ble_eq_true rfl, Nat.le_of_ble_eq_true rfl⟩) ?_
      refine lv_if_eq (tgt := 25) hx hb dX1_differingSectors_19 (by decide) (fun c_19 => ?_) (fun c_19 => ?_)
      · skip
        rw [show cnt (fun q => dnF bs bbs (q * 16) 16) k = cnt (fun q => dnF bs bbs (q * 16) 16) (k + 1) from (cnt_f (f := (fun q => dnF bs bbs (q * 16) 16)) (bI_eq c_19)).symm] at hl
        refine lv_iinc (v := nI (k + 1)) (lv' := [(3, .int (nI (k + 1))), (2, .int (nI (cnt (fun q => dnF bs bbs (q * 16) 16) (k + 1)))), (0, .ref ((ad 0))), (1, .ref ((bad 0)))]) hx hb dX1_differingSectors_25 hl (k := 0) rfl (by exact nI_1 _) (by decide) rfl (fun ls hl => ?_)
        refine lv_goto (tgt := 4) hx hb dX1_differingSectors_28 (by decide) ?_
        exact ihk ls (lv_sub hl [0, 1, 2, 3] rfl)
      · skip
        refine lv_iinc (v := nI (cnt (fun q => dnF bs bbs (q * 16) 16) (k + 1))) (lv' := [(2, .int (nI (cnt (fun q => dnF bs bbs (q * 16) 16) (k + 1)))), (3, .int (nI k)), (0, .ref ((ad 0))), (1, .ref ((bad 0)))]) hx hb dX1_differingSectors_22 hl (k := 1) rfl (by rw [cnt_t (f := (fun q => dnF bs bbs (q * 16) 16)) (bI_ne c_19)]; exact nI_1 _) (by decide) rfl (fun ls hl => ?_)
        refine lv_iinc (v := nI (k + 1)) (lv' := [(3, .int (nI (k + 1))), (2, .int (nI (cnt (fun q => dnF bs bbs (q * 16) 16) (k + 1)))), (0, .ref ((ad 0))), (1, .ref ((bad 0)))]) hx hb dX1_differingSectors_25 hl (k := 1) rfl (by exact nI_1 _) (by decide) rfl (fun ls hl => ?_)
        refine lv_goto (tgt := 4) hx hb dX1_differingSectors_28 (by decide) ?_
        exact ihk ls (lv_sub hl [0, 1, 2, 3] rfl)
  · skip
    refine lv_iload_n hx hb dX1_differingSectors_4 rfl (lv_at hl 0 rfl) ?_
    refine lv_aload_n hx hb dX1_differingSectors_5 rfl (lv_at hl 2 rfl) ?_
    refine va_get (D := D) (ci := 2) (v := .ref ((ad 2))) (C := RX1) (T := TX1) (N := 9) hx hb hts (by decide +kernel) hown hK hP 0 rfl rfl 3 (by decide) (hts (.fieldLink RX1 22 "TrackDisk$Surface" "sums" "[I") (by decide +kernel)) (fun _ h9 => h9) rfl dX1_differingSectors_6 ?_
    refine va_alen (v := nI ((T + 2) * S)) hx hb hK hP 2 0 rfl rfl rfl dX1_differingSectors_9 ?_
    refine lv_icmp_ge (tgt := 31) hx hb dX1_differingSectors_10 (by decide) (fun c_10 => ?_) (fun c_10 => ?_)
    · skip
      refine lv_iload_n hx hb dX1_differingSectors_31 rfl (lv_at hl 1 rfl) ?_
      exact pu_iret hx hb hr hlocks dX1_differingSectors_32
    · exact absurd (nI_le (Nat.le_refl _) (by omega)) c_10
end
section
/-! Waiting, Reel, TrackDisk: worlds and contracts (but dumps) -/
def waW (κ : Nat → ClassId) (ad : Nat → Nat) (wt wx wb : Nat → Int32) (wn : Int32) : va_W := [(ad 0, .inr (3, [.ref (ad 1), .ref (ad 2), .ref (ad 3), .int wn])), (ad 1, .inl (κ 0, 40, .inl wt)), (ad 2, .inl (κ 0, 40, .inl wx)), (ad 3, .inl (κ 1, 40, .inl wb))]
def reW (κ : Nat → ClassId) (ad : Nat → Nat) (tp : Nat → Int32) (tn ts : Int32) : va_W := [(ad 0, .inr (1, [.ref (ad 1), .int tn, .int ts])), (ad 1, .inl (κ 0, 100, .inl tp))]
def tdW (κ : Nat → ClassId) (T S : Nat) (ad : Nat → Nat) (bs sm pl r0 r1 : Nat → Int32) (tk vo : Int32) (du : Nat → Option Nat) (nd : Int32) (wt wx wb : Nat → Int32) (wn : Int32) (tp : Nat → Int32) (tn ts dn : Int32) : va_W := [(ad 0, .inr (4, [.int (nI T), .int (nI S), .ref (ad 1), .ref (ad 7), .int nd, .ref (ad 8), .ref (ad 12), .int dn])), (ad 1, .inr (2, [.int (nI T), .int (nI S), .ref (ad 2), .ref (ad 3), .ref (ad 4), .ref (ad 5), .ref (ad 6), .int tk, .int vo])), (ad 2, .inl (κ 1, (T + 2) * S * 16, .inl bs)), (ad 3, .inl (κ 0, (T + 2) * S, .inl sm)), (ad 4, .inl (κ 0, T, .inl pl)), (ad 5, .inl (κ 0, T, .inl r0)), (ad 6, .inl (κ 0, T, .inl r1)), (ad 7, .inl (κ 2, 5, .inr (.inr (.inr (.inr du))))), (ad 8, .inr (3, [.ref (ad 9), .ref (ad 10), .ref (ad 11), .int wn])), (ad 9, .inl (κ 0, 40, .inl wt)), (ad 10, .inl (κ 0, 40, .inl wx)), (ad 11, .inl (κ 1, 40, .inl wb)), (ad 12, .inr (1, [.ref (ad 13), .int tn, .int ts])), (ad 13, .inl (κ 0, 100, .inl tp))]
theorem bI_ct {b : Bool} (h : b = true) (c : bI b = 0) : False := by rw [h] at c; exact absurd c (by decide)
theorem bI_cf {b : Bool} (h : b = false) (c : ¬ bI b = 0) : False := by rw [h] at c; exact c rfl
/-- whether x is one of 0 .. n - 1 -/
def inF (x : Int32) (n : Nat) : Bool := decide (¬ x < 0) && decide (¬ nI n ≤ x)
theorem inF_t {x : Int32} {n : Nat} (h1 : ¬ x < 0) (h2 : ¬ nI n ≤ x) : inF x n = true := by simp [inF, h1, h2]
theorem inF_f1 {x : Int32} {n : Nat} (h : x < 0) : inF x n = false := by simp [inF, h]
theorem inF_f2 {x : Int32} {n : Nat} (h : nI n ≤ x) : inF x n = false := by simp [inF, h]
theorem inF_nI {a n : Nat} (h : a < n) (hn : n < 2 ^ 31) : inF (nI a) n = true := inF_t (nI_pos (by omega)) (nI_ge h hn)
theorem inF_of {x : Int32} {n : Nat} (h : inF x n = true) (hn : n < 2 ^ 31) : ∃ a, a < n ∧ x = nI a := by
  simp only [inF, Bool.and_eq_true, decide_eq_true_eq] at h
  rcases pk_ix x hn with q | q | q
  · exact absurd q h.1
  · exact absurd q h.2
  · exact q
/-- held to lo .. hi -/
def hdF (x lo hi : Int32) : Int32 := if lo < (if x < hi then x else hi) then (if x < hi then x else hi) else lo

set_option maxHeartbeats 4000000 in
set_option maxRecDepth 100000 in
/-- append -/
theorem c_append (l : Launch) (D : va_G) (κ : Nat → ClassId) (sz : Nat) (ad : Nat → Nat) (wt wx wb : Nat → Int32) (w : Nat) (hw : w < 40) (x y z : Int32) : Met l yX2_append wsX2_append ({ frames := 0, cells := 0, slots := 0, locals := 0 }) (va_Pc [.ref ((ad 0)), .int x, .int y, .int z.toInt8.toInt32] (mu_B D κ (waW κ ad wt wx wb (nI w)) sz)) (mu_Q D none (waW κ ad (upd wt w x) (upd wx w y) (upd wb w (z.toInt8.toInt32)) (nI (w + 1))) (va_A (waW κ ad wt wx wb (nI w)) sz)) 0 0 (va_A (waW κ ad wt wx wb (nI w)) sz) := by
  refine Met.ofW (cc := cX2_append) (maxL := 4) (ret := none) (by decide) rfl ?_
  intro p e s m args below meth c s₁ B hml hv
  obtain ⟨rfl, hsz, hP, hK, hD0⟩ := hv
  have hx := B.exec
  have hb := B.bytes
  have hr := B.returns
  have hts := atoms_spec (ws := wsX2_append) B.pre
  have hown : s.vm.findClass RX2 = some m.cls := findClass_of_methodNamed B.named
  have hlocks := B.notSynchronized
  subst hsz
  have hD := hD0.self (sz := s.heap.size)
  generalize hAe : va_A (waW κ ad wt wx wb (nI w)) s.heap.size = A at hD ⊢
  have hA : ∀ q : Nat, s.heap.size ≤ q → A q := fun q h => by rw [← hAe]; exact Or.inr h
  refine W.gen (P := fun H locs => va_P D vwCl (waW κ ad wt wx wb (nI w)) H ∧ va_S A s.heap H locs) (fun H locs h => ?_) ⟨hP, va_S.rf⟩
  clear hP
  obtain ⟨hP, hS⟩ := h
  have hl := lv_entry ([.ref ((ad 0)), .int x, .int y, .int z.toInt8.toInt32]) (n := 4) (Nat.le_of_ble_eq_true rfl)
  rw [lg_entry_eq]
  generalize (lg_sl ([.ref ((ad 0)), .int x, .int y, .int z.toInt8.toInt32]) ++ List.replicate (4 - (lg_sl ([.ref ((ad 0)), .int x, .int y, .int z.toInt8.toInt32])).length) Slot.unset).toArray = ls at hl ⊢
  have hl : lv_has ls 4 [(0, .ref ((ad 0))), (1, .int x), (2, .int y), (3, .int z.toInt8.toInt32)] := hl
  refine lv_aload_n hx hb dX2_append_0 rfl (lv_at hl 0 rfl) ?_
  refine va_get (D := D) (ci := 3) (v := .int (nI w)) (C := RX2) (T := TX2) (N := 4) hx hb hts (by decide +kernel) hown hK hP 0 rfl rfl 3 (by decide) (hts (.fieldLink RX2 22 "TrackDisk$Waiting" "size" "I") (by decide +kernel)) (fun _ h9 => h9) rfl dX2_append_1 ?_
  refine lv_bipush (v := nI 40) hx hb dX2_append_4 (by decide) ?_
  refine lv_icmp_ge (tgt := 49) hx hb dX2_append_6 (by decide) (fun c_6 => ?_) (fun c_6 => ?_)
  · exact absurd c_6 (nI_ge hw (by omega))
  · skip
    refine lv_aload_n hx hb dX2_append_9 rfl (lv_at hl 0 rfl) ?_
    refine va_get (D := D) (ci := 3) (v := .ref ((ad 1))) (C := RX2) (T := TX2) (N := 4) hx hb hts (by decide +kernel) hown hK hP 0 rfl rfl 0 (by decide) (hts (.fieldLink RX2 9 "TrackDisk$Waiting" "track" "[I") (by decide +kernel)) (fun _ h9 => h9) rfl dX2_append_10 ?_
    refine lv_aload_n hx hb dX2_append_13 rfl (lv_at hl 0 rfl) ?_
    refine va_get (D := D) (ci := 3) (v := .int (nI w)) (C := RX2) (T := TX2) (N := 4) hx hb hts (by decide +kernel) hown hK hP 0 rfl rfl 3 (by decide) (hts (.fieldLink RX2 22 "TrackDisk$Waiting" "size" "I") (by decide +kernel)) (fun _ h9 => h9) rfl dX2_append_14 ?_
    refine lv_iload_n hx hb dX2_append_17 rfl (lv_at hl 1 rfl) ?_
    refine va_iast hx hb hK hP hD hS 1 0 rfl rfl (vp_in_nI (by omega) (by omega)) dX2_append_18 (fun H locs hP hD hS => ?_)
    rw [nI_clamp (n := w) (by omega)] at hP hD
    have hP : va_P D vwCl (waW κ ad (upd (wt) (w) (x)) wx wb (nI w)) H := hP
    have hD : va_D A (waW κ ad (upd (wt) (w) (x)) wx wb (nI w)) := hD
    refine lv_aload_n hx hb dX2_append_19 rfl (lv_at hl 0 rfl) ?_
    refine va_get (D := D) (ci := 3) (v := .ref ((ad 2))) (C := RX2) (T := TX2) (N := 4) hx hb hts (by decide +kernel) hown hK hP 0 rfl rfl 1 (by decide) (hts (.fieldLink RX2 15 "TrackDisk$Waiting" "sector" "[I") (by decide +kernel)) (fun _ h9 => h9) rfl dX2_append_20 ?_
    refine lv_aload_n hx hb dX2_append_23 rfl (lv_at hl 0 rfl) ?_
    refine va_get (D := D) (ci := 3) (v := .int (nI w)) (C := RX2) (T := TX2) (N := 4) hx hb hts (by decide +kernel) hown hK hP 0 rfl rfl 3 (by decide) (hts (.fieldLink RX2 22 "TrackDisk$Waiting" "size" "I") (by decide +kernel)) (fun _ h9 => h9) rfl dX2_append_24 ?_
    refine lv_iload_n hx hb dX2_append_27 rfl (lv_at hl 2 rfl) ?_
    refine va_iast hx hb hK hP hD hS 2 0 rfl rfl (vp_in_nI (by omega) (by omega)) dX2_append_28 (fun H locs hP hD hS => ?_)
    rw [nI_clamp (n := w) (by omega)] at hP hD
    have hP : va_P D vwCl (waW κ ad (upd (wt) (w) (x)) (upd (wx) (w) (y)) wb (nI w)) H := hP
    have hD : va_D A (waW κ ad (upd (wt) (w) (x)) (upd (wx) (w) (y)) wb (nI w)) := hD
    refine lv_aload_n hx hb dX2_append_29 rfl (lv_at hl 0 rfl) ?_
    refine va_get (D := D) (ci := 3) (v := .ref ((ad 3))) (C := RX2) (T := TX2) (N := 4) hx hb hts (by decide +kernel) hown hK hP 0 rfl rfl 2 (by decide) (hts (.fieldLink RX2 18 "TrackDisk$Waiting" "first" "[B") (by decide +kernel)) (fun _ h9 => h9) rfl dX2_append_30 ?_
    refine lv_aload_n hx hb dX2_append_33 rfl (lv_at hl 0 rfl) ?_
    refine va_get (D := D) (ci := 3) (v := .int (nI w)) (C := RX2) (T := TX2) (N := 4) hx hb hts (by decide +kernel) hown hK hP 0 rfl rfl 3 (by decide) (hts (.fieldLink RX2 22 "TrackDisk$Waiting" "size" "I") (by decide +kernel)) (fun _ h9 => h9) rfl dX2_append_34 ?_
    refine lv_iload_n hx hb dX2_append_37 rfl (lv_at hl 3 rfl) ?_
    refine va_bast hx hb hK hP hD hS 3 1 rfl rfl (vp_in_nI (by omega) (by omega)) dX2_append_38 (fun H locs hP hD hS => ?_)
    rw [nI_clamp (n := w) (by omega)] at hP hD
    rw [pk_vb] at hP hD
    have hP : va_P D vwCl (waW κ ad (upd (wt) (w) (x)) (upd (wx) (w) (y)) (upd (wb) (w) (z.toInt8.toInt32)) (nI w)) H := hP
    have hD : va_D A (waW κ ad (upd (wt) (w) (x)) (upd (wx) (w) (y)) (upd (wb) (w) (z.toInt8.toInt32)) (nI w)) := hD
    refine lv_aload_n hx hb dX2_append_39 rfl (lv_at hl 0 rfl) ?_
    refine lv_dup hx hb dX2_append_40 rfl ?_
    refine va_get (D := D) (ci := 3) (v := .int (nI w)) (C := RX2) (T := TX2) (N := 4) hx hb hts (by decide +kernel) hown hK hP 0 rfl rfl 3 (by decide) (hts (.fieldLink RX2 22 "TrackDisk$Waiting" "size" "I") (by decide +kernel)) (fun _ h9 => h9) rfl dX2_append_41 ?_
    refine lv_iconst (v := nI 1) hx hb dX2_append_44 (by decide) ?_
    refine lv_iadd hx hb dX2_append_45 ?_
    refine tp_i (y := nI (w + 1)) (by exact nI_add _ _) ?_
    refine va_put (D := D) (ci := 3) (v := .int (nI (w + 1))) (ty := .int) (C := RX2) (T := TX2) (N := 4) hx hb hts (by decide +kernel) tyX2 tyX2_ok nmX2 hown hK hP hD hS 0 rfl rfl 3 (by decide) (hts (.fieldLink RX2 22 "TrackDisk$Waiting" "size" "I") (by decide +kernel)) (fun _ h9 => h9) rfl (by decide +kernel) rfl rfl (Nat.le_of_ble_eq_true rfl) dX2_append_46 (fun H locs hP hD hS => ?_)
    have hP : va_P D vwCl (waW κ ad (upd (wt) (w) (x)) (upd (wx) (w) (y)) (upd (wb) (w) (z.toInt8.toInt32)) (nI (w + 1))) H := hP
    have hD : va_D A (waW κ ad (upd (wt) (w) (x)) (upd (wx) (w) (y)) (upd (wb) (w) (z.toInt8.toInt32)) (nI (w + 1))) := hD
    have hP9 : va_P D vwCl (waW κ ad (upd wt w x) (upd wx w y) (upd wb w (z.toInt8.toInt32)) (nI (w + 1))) H := hP
    have hD9 : va_D A (waW κ ad (upd wt w x) (upd wx w y) (upd wb w (z.toInt8.toInt32)) (nI (w + 1))) := hD
    exact W.vret hx hb hr (fun t ht _ => ⟨⟨rfl, by rw [ht]; exact hP9, hD9⟩, hS.F ht⟩) hS.2.2 dX2_append_49 hlocks

set_option maxHeartbeats 4000000 in
set_option maxRecDepth 100000 in
/-- drop -/
theorem c_drop (l : Launch) (D : va_G) (κ : Nat → ClassId) (sz : Nat) (ad : Nat → Nat) (wt wx wb : Nat → Int32) (wn : Int32) : Met l yX2_drop wsX2_drop ({ frames := 0, cells := 0, slots := 0, locals := 0 }) (va_Pc [.ref ((ad 0))] (mu_B D κ (waW κ ad wt wx wb wn) sz)) (mu_Q D none (waW κ ad wt wx wb (nI 0)) (va_A (waW κ ad wt wx wb wn) sz)) 0 0 (va_A (waW κ ad wt wx wb wn) sz) := by
  refine Met.ofW (cc := cX2_drop) (maxL := 1) (ret := none) (by decide) rfl ?_
  intro p e s m args below meth c s₁ B hml hv
  obtain ⟨rfl, hsz, hP, hK, hD0⟩ := hv
  have hx := B.exec
  have hb := B.bytes
  have hr := B.returns
  have hts := atoms_spec (ws := wsX2_drop) B.pre
  have hown : s.vm.findClass RX2 = some m.cls := findClass_of_methodNamed B.named
  have hlocks := B.notSynchronized
  subst hsz
  have hD := hD0.self (sz := s.heap.size)
  generalize hAe : va_A (waW κ ad wt wx wb wn) s.heap.size = A at hD ⊢
  have hA : ∀ q : Nat, s.heap.size ≤ q → A q := fun q h => by rw [← hAe]; exact Or.inr h
  refine W.gen (P := fun H locs => va_P D vwCl (waW κ ad wt wx wb wn) H ∧ va_S A s.heap H locs) (fun H locs h => ?_) ⟨hP, va_S.rf⟩
  clear hP
  obtain ⟨hP, hS⟩ := h
  have hl := lv_entry ([.ref ((ad 0))]) (n := 1) (Nat.le_of_ble_eq_true rfl)
  rw [lg_entry_eq]
  generalize (lg_sl ([.ref ((ad 0))]) ++ List.replicate (1 - (lg_sl ([.ref ((ad 0))])).length) Slot.unset).toArray = ls at hl ⊢
  have hl : lv_has ls 1 [(0, .ref ((ad 0)))] := hl
  refine lv_aload_n hx hb dX2_drop_0 rfl (lv_at hl 0 rfl) ?_
  refine lv_iconst (v := nI 0) hx hb dX2_drop_1 (by decide) ?_
  refine va_put (D := D) (ci := 3) (v := .int (nI 0)) (ty := .int) (C := RX2) (T := TX2) (N := 4) hx hb hts (by decide +kernel) tyX2 tyX2_ok nmX2 hown hK hP hD hS 0 rfl rfl 3 (by decide) (hts (.fieldLink RX2 22 "TrackDisk$Waiting" "size" "I") (by decide +kernel)) (fun _ h9 => h9) rfl (by decide +kernel) rfl rfl (Nat.le_of_ble_eq_true rfl) dX2_drop_2 (fun H locs hP hD hS => ?_)
  have hP : va_P D vwCl (waW κ ad wt wx wb (nI 0)) H := hP
  have hD : va_D A (waW κ ad wt wx wb (nI 0)) := hD
  have hP9 : va_P D vwCl (waW κ ad wt wx wb (nI 0)) H := hP
  have hD9 : va_D A (waW κ ad wt wx wb (nI 0)) := hD
  exact W.vret hx hb hr (fun t ht _ => ⟨⟨rfl, by rw [ht]; exact hP9, hD9⟩, hS.F ht⟩) hS.2.2 dX2_drop_5 hlocks

set_option maxHeartbeats 4000000 in
set_option maxRecDepth 100000 in
/-- record -/
theorem c_record (l : Launch) (D : va_G) (κ : Nat → ClassId) (sz : Nat) (ad : Nat → Nat) (tp : Nat → Int32) (tn : Int32) (a : Nat) (ha : a < 100) (x : Int32) : Met l yX0_record wsX0_record ({ frames := 0, cells := 0, slots := 0, locals := 0 }) (va_Pc [.ref ((ad 0)), .int x] (mu_B D κ (reW κ ad tp tn (nI a)) sz)) (mu_Q D none (reW κ ad (upd tp a x) (nI (a + 1)) (nI (a + 1))) (va_A (reW κ ad tp tn (nI a)) sz)) 0 0 (va_A (reW κ ad tp tn (nI a)) sz) := by
  refine Met.ofW (cc := cX0_record) (maxL := 2) (ret := none) (by decide) rfl ?_
  intro p e s m args below meth c s₁ B hml hv
  obtain ⟨rfl, hsz, hP, hK, hD0⟩ := hv
  have hx := B.exec
  have hb := B.bytes
  have hr := B.returns
  have hts := atoms_spec (ws := wsX0_record) B.pre
  have hown : s.vm.findClass RX0 = some m.cls := findClass_of_methodNamed B.named
  have hlocks := B.notSynchronized
  subst hsz
  have hD := hD0.self (sz := s.heap.size)
  generalize hAe : va_A (reW κ ad tp tn (nI a)) s.heap.size = A at hD ⊢
  have hA : ∀ q : Nat, s.heap.size ≤ q → A q := fun q h => by rw [← hAe]; exact Or.inr h
  refine W.gen (P := fun H locs => va_P D vwCl (reW κ ad tp tn (nI a)) H ∧ va_S A s.heap H locs) (fun H locs h => ?_) ⟨hP, va_S.rf⟩
  clear hP
  obtain ⟨hP, hS⟩ := h
  have hl := lv_entry ([.ref ((ad 0)), .int x]) (n := 2) (Nat.le_of_ble_eq_true rfl)
  rw [lg_entry_eq]
  generalize (lg_sl ([.ref ((ad 0)), .int x]) ++ List.replicate (2 - (lg_sl ([.ref ((ad 0)), .int x])).length) Slot.unset).toArray = ls at hl ⊢
  have hl : lv_has ls 2 [(0, .ref ((ad 0))), (1, .int x)] := hl
  refine lv_aload_n hx hb dX0_record_0 rfl (lv_at hl 0 rfl) ?_
  refine va_get (D := D) (ci := 1) (v := .int (nI a)) (C := RX0) (T := TX0) (N := 3) hx hb hts (by decide +kernel) hown hK hP 0 rfl rfl 2 (by decide) (hts (.fieldLink RX0 19 "TrackDisk$Reel" "stand" "I") (by decide +kernel)) (fun _ h9 => h9) rfl dX0_record_1 ?_
  refine lv_bipush (v := nI 100) hx hb dX0_record_4 (by decide) ?_
  refine lv_icmp_ge (tgt := 37) hx hb dX0_record_6 (by decide) (fun c_6 => ?_) (fun c_6 => ?_)
  · exact absurd c_6 (nI_ge ha (by omega))
  · skip
    refine lv_aload_n hx hb dX0_record_9 rfl (lv_at hl 0 rfl) ?_
    refine va_get (D := D) (ci := 1) (v := .ref ((ad 1))) (C := RX0) (T := TX0) (N := 3) hx hb hts (by decide +kernel) hown hK hP 0 rfl rfl 0 (by decide) (hts (.fieldLink RX0 9 "TrackDisk$Reel" "rows" "[I") (by decide +kernel)) (fun _ h9 => h9) rfl dX0_record_10 ?_
    refine lv_aload_n hx hb dX0_record_13 rfl (lv_at hl 0 rfl) ?_
    refine va_get (D := D) (ci := 1) (v := .int (nI a)) (C := RX0) (T := TX0) (N := 3) hx hb hts (by decide +kernel) hown hK hP 0 rfl rfl 2 (by decide) (hts (.fieldLink RX0 19 "TrackDisk$Reel" "stand" "I") (by decide +kernel)) (fun _ h9 => h9) rfl dX0_record_14 ?_
    refine lv_iload_n hx hb dX0_record_17 rfl (lv_at hl 1 rfl) ?_
    refine va_iast hx hb hK hP hD hS 1 0 rfl rfl (vp_in_nI (by omega) (by omega)) dX0_record_18 (fun H locs hP hD hS => ?_)
    rw [nI_clamp (n := a) (by omega)] at hP hD
    have hP : va_P D vwCl (reW κ ad (upd (tp) (a) (x)) tn (nI a)) H := hP
    have hD : va_D A (reW κ ad (upd (tp) (a) (x)) tn (nI a)) := hD
    refine lv_aload_n hx hb dX0_record_19 rfl (lv_at hl 0 rfl) ?_
    refine lv_dup hx hb dX0_record_20 rfl ?_
    refine va_get (D := D) (ci := 1) (v := .int (nI a)) (C := RX0) (T := TX0) (N := 3) hx hb hts (by decide +kernel) hown hK hP 0 rfl rfl 2 (by decide) (hts (.fieldLink RX0 19 "TrackDisk$Reel" "stand" "I") (by decide +kernel)) (fun _ h9 => h9) rfl dX0_record_21 ?_
    refine lv_iconst (v := nI 1) hx hb dX0_record_24 (by decide) ?_
    refine lv_iadd hx hb dX0_record_25 ?_
    refine tp_i (y := nI (a + 1)) (by exact nI_add _ _) ?_
    refine va_put (D := D) (ci := 1) (v := .int (nI (a + 1))) (ty := .int) (C := RX0) (T := TX0) (N := 3) hx hb hts (by decide +kernel) tyX0 tyX0_ok nmX0 hown hK hP hD hS 0 rfl rfl 2 (by decide) (hts (.fieldLink RX0 19 "TrackDisk$Reel" "stand" "I") (by decide +kernel)) (fun _ h9 => h9) rfl (by decide +kernel) rfl rfl (Nat.le_of_ble_eq_true rfl) dX0_record_26 (fun H locs hP hD hS => ?_)
    have hP : va_P D vwCl (reW κ ad (upd (tp) (a) (x)) tn (nI (a + 1))) H := hP
    have hD : va_D A (reW κ ad (upd (tp) (a) (x)) tn (nI (a + 1))) := hD
    refine lv_aload_n hx hb dX0_record_29 rfl (lv_at hl 0 rfl) ?_
    refine lv_aload_n hx hb dX0_record_30 rfl (lv_at hl 0 rfl) ?_
    refine va_get (D := D) (ci := 1) (v := .int (nI (a + 1))) (C := RX0) (T := TX0) (N := 3) hx hb hts (by decide +kernel) hown hK hP 0 rfl rfl 2 (by decide) (hts (.fieldLink RX0 19 "TrackDisk$Reel" "stand" "I") (by decide +kernel)) (fun _ h9 => h9) rfl dX0_record_31 ?_
    refine va_put (D := D) (ci := 1) (v := .int (nI (a + 1))) (ty := .int) (C := RX0) (T := TX0) (N := 3) hx hb hts (by decide +kernel) tyX0 tyX0_ok nmX0 hown hK hP hD hS 0 rfl rfl 1 (by decide) (hts (.fieldLink RX0 15 "TrackDisk$Reel" "size" "I") (by decide +kernel)) (fun _ h9 => h9) rfl (by decide +kernel) rfl rfl (Nat.le_of_ble_eq_true rfl) dX0_record_34 (fun H locs hP hD hS => ?_)
    have hP : va_P D vwCl (reW κ ad (upd (tp) (a) (x)) (nI (a + 1)) (nI (a + 1))) H := hP
    have hD : va_D A (reW κ ad (upd (tp) (a) (x)) (nI (a + 1)) (nI (a + 1))) := hD
    have hP9 : va_P D vwCl (reW κ ad (upd tp a x) (nI (a + 1)) (nI (a + 1))) H := hP
    have hD9 : va_D A (reW κ ad (upd tp a x) (nI (a + 1)) (nI (a + 1))) := hD
    exact W.vret hx hb hr (fun t ht _ => ⟨⟨rfl, by rw [ht]; exact hP9, hD9⟩, hS.F ht⟩) hS.2.2 dX0_record_37 hlocks

set_option maxHeartbeats 4000000 in
set_option maxRecDepth 100000 in
/-- record, full -/
theorem c_recordF (l : Launch) (D : va_G) (κ : Nat → ClassId) (sz : Nat) (ad : Nat → Nat) (tp : Nat → Int32) (tn ts : Int32) (ha : nI 100 ≤ ts) (x : Int32) : Met l yX0_record wsX0_record ({ frames := 0, cells := 0, slots := 0, locals := 0 }) (va_Pc [.ref ((ad 0)), .int x] (mu_B D κ (reW κ ad tp tn ts) sz)) (mu_Q D none (reW κ ad tp tn ts) (va_A (reW κ ad tp tn ts) sz)) 0 0 (va_A (reW κ ad tp tn ts) sz) := by
  refine Met.ofW (cc := cX0_record) (maxL := 2) (ret := none) (by decide) rfl ?_
  intro p e s m args below meth c s₁ B hml hv
  obtain ⟨rfl, hsz, hP, hK, hD0⟩ := hv
  have hx := B.exec
  have hb := B.bytes
  have hr := B.returns
  have hts := atoms_spec (ws := wsX0_record) B.pre
  have hown : s.vm.findClass RX0 = some m.cls := findClass_of_methodNamed B.named
  have hlocks := B.notSynchronized
  subst hsz
  have hD := hD0.self (sz := s.heap.size)
  generalize hAe : va_A (reW κ ad tp tn ts) s.heap.size = A at hD ⊢
  have hA : ∀ q : Nat, s.heap.size ≤ q → A q := fun q h => by rw [← hAe]; exact Or.inr h
  refine W.gen (P := fun H locs => va_P D vwCl (reW κ ad tp tn ts) H ∧ va_S A s.heap H locs) (fun H locs h => ?_) ⟨hP, va_S.rf⟩
  clear hP
  obtain ⟨hP, hS⟩ := h
  have hl := lv_entry ([.ref ((ad 0)), .int x]) (n := 2) (Nat.le_of_ble_eq_true rfl)
  rw [lg_entry_eq]
  generalize (lg_sl ([.ref ((ad 0)), .int x]) ++ List.replicate (2 - (lg_sl ([.ref ((ad 0)), .int x])).length) Slot.unset).toArray = ls at hl ⊢
  have hl : lv_has ls 2 [(0, .ref ((ad 0))), (1, .int x)] := hl
  refine lv_aload_n hx hb dX0_record_0 rfl (lv_at hl 0 rfl) ?_
  refine va_get (D := D) (ci := 1) (v := .int ts) (C := RX0) (T := TX0) (N := 3) hx hb hts (by decide +kernel) hown hK hP 0 rfl rfl 2 (by decide) (hts (.fieldLink RX0 19 "TrackDisk$Reel" "stand" "I") (by decide +kernel)) (fun _ h9 => h9) rfl dX0_record_1 ?_
  refine lv_bipush (v := nI 100) hx hb dX0_record_4 (by decide) ?_
  refine lv_icmp_ge (tgt := 37) hx hb dX0_record_6 (by decide) (fun c_6 => ?_) (fun c_6 => ?_)
  · skip
    have hP9 : va_P D vwCl (reW κ ad tp tn ts) H := hP
    have hD9 : va_D A (reW κ ad tp tn ts) := hD
    exact W.vret hx hb hr (fun t ht _ => ⟨⟨rfl, by rw [ht]; exact hP9, hD9⟩, hS.F ht⟩) hS.2.2 dX0_record_37 hlocks
  · exact absurd ha c_6

set_option maxHeartbeats 4000000 in
set_option maxRecDepth 100000 in
/-- pass -/
theorem c_pass (l : Launch) (D : va_G) (κ : Nat → ClassId) (sz : Nat) (ad : Nat → Nat) (tp : Nat → Int32) (n a : Nat) (ha : a < n) (hn : n ≤ 100) : Met l yX0_pass wsX0_pass ({ frames := 0, cells := 0, slots := 0, locals := 0 }) (va_Pc [.ref ((ad 0))] (mu_B D κ (reW κ ad tp (nI n) (nI a)) sz)) (mu_Q D (some (.int (tp a))) (reW κ ad tp (nI n) (nI (a + 1))) (va_A (reW κ ad tp (nI n) (nI a)) sz)) 0 0 (va_A (reW κ ad tp (nI n) (nI a)) sz) := by
  refine Met.ofW (cc := cX0_pass) (maxL := 2) (ret := (some .int)) (by decide) rfl ?_
  intro p e s m args below meth c s₁ B hml hv
  obtain ⟨rfl, hsz, hP, hK, hD0⟩ := hv
  have hx := B.exec
  have hb := B.bytes
  have hr := B.returns
  have hts := atoms_spec (ws := wsX0_pass) B.pre
  have hown : s.vm.findClass RX0 = some m.cls := findClass_of_methodNamed B.named
  have hlocks := B.notSynchronized
  subst hsz
  have hD := hD0.self (sz := s.heap.size)
  generalize hAe : va_A (reW κ ad tp (nI n) (nI a)) s.heap.size = A at hD ⊢
  have hA : ∀ q : Nat, s.heap.size ≤ q → A q := fun q h => by rw [← hAe]; exact Or.inr h
  refine W.gen (P := fun H locs => va_P D vwCl (reW κ ad tp (nI n) (nI a)) H ∧ va_S A s.heap H locs) (fun H locs h => ?_) ⟨hP, va_S.rf⟩
  clear hP
  obtain ⟨hP, hS⟩ := h
  have hl := lv_entry ([.ref ((ad 0))]) (n := 2) (Nat.le_of_ble_eq_true rfl)
  rw [lg_entry_eq]
  generalize (lg_sl ([.ref ((ad 0))]) ++ List.replicate (2 - (lg_sl ([.ref ((ad 0))])).length) Slot.unset).toArray = ls at hl ⊢
  have hl : lv_has ls 2 [(0, .ref ((ad 0)))] := hl
  refine lv_aload_n hx hb dX0_pass_0 rfl (lv_at hl 0 rfl) ?_
  refine va_get (D := D) (ci := 1) (v := .int (nI a)) (C := RX0) (T := TX0) (N := 3) hx hb hts (by decide +kernel) hown hK hP 0 rfl rfl 2 (by decide) (hts (.fieldLink RX0 19 "TrackDisk$Reel" "stand" "I") (by decide +kernel)) (fun _ h9 => h9) rfl dX0_pass_1 ?_
  refine lv_aload_n hx hb dX0_pass_4 rfl (lv_at hl 0 rfl) ?_
  refine va_get (D := D) (ci := 1) (v := .int (nI n)) (C := RX0) (T := TX0) (N := 3) hx hb hts (by decide +kernel) hown hK hP 0 rfl rfl 1 (by decide) (hts (.fieldLink RX0 15 "TrackDisk$Reel" "size" "I") (by decide +kernel)) (fun _ h9 => h9) rfl dX0_pass_5 ?_
  refine lv_icmp_lt (tgt := 13) hx hb dX0_pass_8 (by decide) (fun c_8 => ?_) (fun c_8 => ?_)
  · skip
    refine lv_aload_n hx hb dX0_pass_13 rfl (lv_at hl 0 rfl) ?_
    refine va_get (D := D) (ci := 1) (v := .ref ((ad 1))) (C := RX0) (T := TX0) (N := 3) hx hb hts (by decide +kernel) hown hK hP 0 rfl rfl 0 (by decide) (hts (.fieldLink RX0 9 "TrackDisk$Reel" "rows" "[I") (by decide +kernel)) (fun _ h9 => h9) rfl dX0_pass_14 ?_
    refine lv_aload_n hx hb dX0_pass_17 rfl (lv_at hl 0 rfl) ?_
    refine va_get (D := D) (ci := 1) (v := .int (nI a)) (C := RX0) (T := TX0) (N := 3) hx hb hts (by decide +kernel) hown hK hP 0 rfl rfl 2 (by decide) (hts (.fieldLink RX0 19 "TrackDisk$Reel" "stand" "I") (by decide +kernel)) (fun _ h9 => h9) rfl dX0_pass_18 ?_
    refine va_iald hx hb hK hP 1 0 rfl rfl (vp_in_nI (by omega) (by omega)) dX0_pass_21 ?_
    refine tp_i (y := tp a) (by rw [nI_clamp (by omega)]) ?_
    refine lv_istore_n (lv' := [(1, .int (tp a)), (0, .ref ((ad 0)))]) hx hb dX0_pass_22 rfl hl (by decide) rfl (fun ls hl => ?_)
    refine lv_aload_n hx hb dX0_pass_23 rfl (lv_at hl 1 rfl) ?_
    refine lv_dup hx hb dX0_pass_24 rfl ?_
    refine va_get (D := D) (ci := 1) (v := .int (nI a)) (C := RX0) (T := TX0) (N := 3) hx hb hts (by decide +kernel) hown hK hP 0 rfl rfl 2 (by decide) (hts (.fieldLink RX0 19 "TrackDisk$Reel" "stand" "I") (by decide +kernel)) (fun _ h9 => h9) rfl dX0_pass_25 ?_
    refine lv_iconst (v := nI 1) hx hb dX0_pass_28 (by decide) ?_
    refine lv_iadd hx hb dX0_pass_29 ?_
    refine tp_i (y := nI (a + 1)) (by exact nI_add _ _) ?_
    refine va_put (D := D) (ci := 1) (v := .int (nI (a + 1))) (ty := .int) (C := RX0) (T := TX0) (N := 3) hx hb hts (by decide +kernel) tyX0 tyX0_ok nmX0 hown hK hP hD hS 0 rfl rfl 2 (by decide) (hts (.fieldLink RX0 19 "TrackDisk$Reel" "stand" "I") (by decide +kernel)) (fun _ h9 => h9) rfl (by decide +kernel) rfl rfl (Nat.le_of_ble_eq_true rfl) dX0_pass_30 (fun H locs hP hD hS => ?_)
    have hP : va_P D vwCl (reW κ ad tp (nI n) (nI (a + 1))) H := hP
    have hD : va_D A (reW κ ad tp (nI n) (nI (a + 1))) := hD
    refine lv_iload_n hx hb dX0_pass_33 rfl (lv_at hl 0 rfl) ?_
    have hP9 : va_P D vwCl (reW κ ad tp (nI n) (nI (a + 1))) H := hP
    have hD9 : va_D A (reW κ ad tp (nI n) (nI (a + 1))) := hD
    exact W.iret hx hb hr (fun t ht _ => ⟨⟨rfl, by rw [ht]; exact hP9, hD9⟩, hS.F ht⟩) hS.2.2 dX0_pass_34 hlocks
  · exact absurd (nI_lt ha (by omega)) c_8

set_option maxHeartbeats 4000000 in
set_option maxRecDepth 100000 in
/-- pass, at the end -/
theorem c_passE (l : Launch) (D : va_G) (κ : Nat → ClassId) (sz : Nat) (ad : Nat → Nat) (tp : Nat → Int32) (tn ts : Int32) (ha : ¬ ts < tn) : Met l yX0_pass wsX0_pass ({ frames := 0, cells := 0, slots := 0, locals := 0 }) (va_Pc [.ref ((ad 0))] (mu_B D κ (reW κ ad tp tn ts) sz)) (mu_Q D (some (.int ((-1)))) (reW κ ad tp tn ts) (va_A (reW κ ad tp tn ts) sz)) 0 0 (va_A (reW κ ad tp tn ts) sz) := by
  refine Met.ofW (cc := cX0_pass) (maxL := 2) (ret := (some .int)) (by decide) rfl ?_
  intro p e s m args below meth c s₁ B hml hv
  obtain ⟨rfl, hsz, hP, hK, hD0⟩ := hv
  have hx := B.exec
  have hb := B.bytes
  have hr := B.returns
  have hts := atoms_spec (ws := wsX0_pass) B.pre
  have hown : s.vm.findClass RX0 = some m.cls := findClass_of_methodNamed B.named
  have hlocks := B.notSynchronized
  subst hsz
  have hD := hD0.self (sz := s.heap.size)
  generalize hAe : va_A (reW κ ad tp tn ts) s.heap.size = A at hD ⊢
  have hA : ∀ q : Nat, s.heap.size ≤ q → A q := fun q h => by rw [← hAe]; exact Or.inr h
  refine W.gen (P := fun H locs => va_P D vwCl (reW κ ad tp tn ts) H ∧ va_S A s.heap H locs) (fun H locs h => ?_) ⟨hP, va_S.rf⟩
  clear hP
  obtain ⟨hP, hS⟩ := h
  have hl := lv_entry ([.ref ((ad 0))]) (n := 2) (Nat.le_of_ble_eq_true rfl)
  rw [lg_entry_eq]
  generalize (lg_sl ([.ref ((ad 0))]) ++ List.replicate (2 - (lg_sl ([.ref ((ad 0))])).length) Slot.unset).toArray = ls at hl ⊢
  have hl : lv_has ls 2 [(0, .ref ((ad 0)))] := hl
  refine lv_aload_n hx hb dX0_pass_0 rfl (lv_at hl 0 rfl) ?_
  refine va_get (D := D) (ci := 1) (v := .int ts) (C := RX0) (T := TX0) (N := 3) hx hb hts (by decide +kernel) hown hK hP 0 rfl rfl 2 (by decide) (hts (.fieldLink RX0 19 "TrackDisk$Reel" "stand" "I") (by decide +kernel)) (fun _ h9 => h9) rfl dX0_pass_1 ?_
  refine lv_aload_n hx hb dX0_pass_4 rfl (lv_at hl 0 rfl) ?_
  refine va_get (D := D) (ci := 1) (v := .int tn) (C := RX0) (T := TX0) (N := 3) hx hb hts (by decide +kernel) hown hK hP 0 rfl rfl 1 (by decide) (hts (.fieldLink RX0 15 "TrackDisk$Reel" "size" "I") (by decide +kernel)) (fun _ h9 => h9) rfl dX0_pass_5 ?_
  refine lv_icmp_lt (tgt := 13) hx hb dX0_pass_8 (by decide) (fun c_8 => ?_) (fun c_8 => ?_)
  · exact absurd c_8 ha
  · skip
    refine lv_iconst (v := (-1)) hx hb dX0_pass_11 (by decide) ?_
    have hP9 : va_P D vwCl (reW κ ad tp tn ts) H := hP
    have hD9 : va_D A (reW κ ad tp tn ts) := hD
    exact W.iret hx hb hr (fun t ht _ => ⟨⟨rfl, by rw [ht]; exact hP9, hD9⟩, hS.F ht⟩) hS.2.2 dX0_pass_12 hlocks

set_option maxHeartbeats 4000000 in
set_option maxRecDepth 100000 in
/-- held -/
theorem c_held (l : Launch) (D : va_G) (κ : Nat → ClassId) (x lo hi : Int32) : Met l yX3_held wsX3_held ({ frames := 1, cells := 0, slots := 0, locals := 40 }) (va_Pc [.int x, .int lo, .int hi] (pu_B D κ ([]))) (pu_Q (.int (hdF x lo hi))) 0 0 pu_N := by
  refine Met.ofW (cc := cX3_held) (maxL := 3) (ret := (some .int)) (by decide) rfl ?_
  intro p e s m args below meth c s₁ B hml hv
  obtain ⟨rfl, hP, hK⟩ := hv
  have hx := B.exec
  have hb := B.bytes
  have hr := B.returns
  have hts := atoms_spec (ws := wsX3_held) B.pre
  have hown : s.vm.findClass RX3 = some m.cls := findClass_of_methodNamed B.named
  have hlocks := B.notSynchronized
  have hl := lv_entry ([.int x, .int lo, .int hi]) (n := 3) (Nat.le_of_ble_eq_true rfl)
  rw [lg_entry_eq]
  generalize (lg_sl ([.int x, .int lo, .int hi]) ++ List.replicate (3 - (lg_sl ([.int x, .int lo, .int hi])).length) Slot.unset).toArray = ls at hl ⊢
  have hl : lv_has ls 3 [(0, .int x), (1, .int lo), (2, .int hi)] := hl
  refine lv_iload_n hx hb dX3_held_0 rfl (lv_at hl 1 rfl) ?_
  refine lv_iload_n hx hb dX3_held_1 rfl (lv_at hl 2 rfl) ?_
  refine lv_iload_n hx hb dX3_held_2 rfl (lv_at hl 0 rfl) ?_
  refine va_mmin hx hb (by rw [hml]; exact hl.1.symm) hown (hts (.methodLink RX3 158 Lib.Math.min.name) (by decide +kernel)) (hts (.static Lib.Math.min.name) (by decide +kernel)) (hts (.initialized "java/lang/Math") (by decide +kernel)) (hts (.code Lib.Math.min.name Lib.Math.min.code 2 (some .int)) (by decide +kernel)) (Nat.le_of_ble_eq_true rfl) (Nat.le_of_ble_eq_true rfl) (Nat.zero_le _) (Nat.zero_le _) dX3_held_3 ?_
  refine va_mmax hx hb (by rw [hml]; exact hl.1.symm) hown (hts (.methodLink RX3 163 Lib.Math.max.name) (by decide +kernel)) (hts (.static Lib.Math.max.name) (by decide +kernel)) (hts (.initialized "java/lang/Math") (by decide +kernel)) (hts (.code Lib.Math.max.name Lib.Math.max.code 2 (some .int)) (by decide +kernel)) (Nat.le_of_ble_eq_true rfl) (Nat.le_of_ble_eq_true rfl) (Nat.zero_le _) (Nat.zero_le _) dX3_held_6 ?_
  refine tp_i (y := hdF x lo hi) (by rfl) ?_
  exact pu_iret hx hb hr hlocks dX3_held_9

set_option maxHeartbeats 4000000 in
set_option maxRecDepth 100000 in
/-- isByteNumber -/
theorem c_isByte (l : Launch) (D : va_G) (κ : Nat → ClassId) (x : Int32) : Met l yX3_isByteNumber wsX3_isByteNumber ({ frames := 0, cells := 0, slots := 0, locals := 0 }) (va_Pc [.int x] (pu_B D κ ([]))) (pu_Q (.int (bI (inF x 16)))) 0 0 pu_N := by
  refine Met.ofW (cc := cX3_isByteNumber) (maxL := 1) (ret := (some .boolean)) (by decide) rfl ?_
  intro p e s m args below meth c s₁ B hml hv
  obtain ⟨rfl, hP, hK⟩ := hv
  have hx := B.exec
  have hb := B.bytes
  have hr := B.returns
  have hts := atoms_spec (ws := wsX3_isByteNumber) B.pre
  have hown : s.vm.findClass RX3 = some m.cls := findClass_of_methodNamed B.named
  have hlocks := B.notSynchronized
  have hl := lv_entry ([.int x]) (n := 1) (Nat.le_of_ble_eq_true rfl)
  rw [lg_entry_eq]
  generalize (lg_sl ([.int x]) ++ List.replicate (1 - (lg_sl ([.int x])).length) Slot.unset).toArray = ls at hl ⊢
  have hl : lv_has ls 1 [(0, .int x)] := hl
  refine lv_iload_n hx hb dX3_isByteNumber_0 rfl (lv_at hl 0 rfl) ?_
  refine lv_if_lt (tgt := 14) hx hb dX3_isByteNumber_1 (by decide) (fun c_1 => ?_) (fun c_1 => ?_)
  · skip
    refine lv_iconst (v := nI 0) hx hb dX3_isByteNumber_14 (by decide) ?_
    refine tp_i (y := bI (inF x 16)) (by first | exact bI_f (inF_f1 c_1) | exact bI_f (inF_f2 c_7) | exact bI_t (inF_t c_1 c_7)) ?_
    exact pu_zret hx hb hr (by cases inF x 16 <;> rfl) hlocks dX3_isByteNumber_15
  · skip
    refine lv_iload_n hx hb dX3_isByteNumber_4 rfl (lv_at hl 0 rfl) ?_
    refine lv_bipush (v := nI 16) hx hb dX3_isByteNumber_5 (by decide) ?_
    refine lv_icmp_ge (tgt := 14) hx hb dX3_isByteNumber_7 (by decide) (fun c_7 => ?_) (fun c_7 => ?_)
    · skip
      refine lv_iconst (v := nI 0) hx hb dX3_isByteNumber_14 (by decide) ?_
      refine tp_i (y := bI (inF x 16)) (by first | exact bI_f (inF_f1 c_1) | exact bI_f (inF_f2 c_7) | exact bI_t (inF_t c_1 c_7)) ?_
      exact pu_zret hx hb hr (by cases inF x 16 <;> rfl) hlocks dX3_isByteNumber_15
    · skip
      refine lv_iconst (v := nI 1) hx hb dX3_isByteNumber_10 (by decide) ?_
      refine lv_goto (tgt := 15) hx hb dX3_isByteNumber_11 (by decide) ?_
      refine tp_i (y := bI (inF x 16)) (by first | exact bI_f (inF_f1 c_1) | exact bI_f (inF_f2 c_7) | exact bI_t (inF_t c_1 c_7)) ?_
      exact pu_zret hx hb hr (by cases inF x 16 <;> rfl) hlocks dX3_isByteNumber_15

set_option maxHeartbeats 4000000 in
set_option maxRecDepth 100000 in
/-- hasTrack -/
theorem c_hasTrack (l : Launch) (D : va_G) (κ : Nat → ClassId) (T S : Nat) (ad : Nat → Nat) (bs sm pl r0 r1 : Nat → Int32) (tk vo : Int32) (du : Nat → Option Nat) (nd : Int32) (wt wx wb : Nat → Int32) (wn : Int32) (tp : Nat → Int32) (tn ts dn : Int32) (x : Int32) : Met l yX3_hasTrack wsX3_hasTrack ({ frames := 0, cells := 0, slots := 0, locals := 0 }) (va_Pc [.ref ((ad 0)), .int x] (pu_B D κ (tdW κ T S ad bs sm pl r0 r1 tk vo du nd wt wx wb wn tp tn ts dn))) (pu_Q (.int (bI (inF x T)))) 0 0 pu_N := by
  refine Met.ofW (cc := cX3_hasTrack) (maxL := 2) (ret := (some .boolean)) (by decide) rfl ?_
  intro p e s m args below meth c s₁ B hml hv
  obtain ⟨rfl, hP, hK⟩ := hv
  have hx := B.exec
  have hb := B.bytes
  have hr := B.returns
  have hts := atoms_spec (ws := wsX3_hasTrack) B.pre
  have hown : s.vm.findClass RX3 = some m.cls := findClass_of_methodNamed B.named
  have hlocks := B.notSynchronized
  have hl := lv_entry ([.ref ((ad 0)), .int x]) (n := 2) (Nat.le_of_ble_eq_true rfl)
  rw [lg_entry_eq]
  generalize (lg_sl ([.ref ((ad 0)), .int x]) ++ List.replicate (2 - (lg_sl ([.ref ((ad 0)), .int x])).length) Slot.unset).toArray = ls at hl ⊢
  have hl : lv_has ls 2 [(0, .ref ((ad 0))), (1, .int x)] := hl
  refine lv_iload_n hx hb dX3_hasTrack_0 rfl (lv_at hl 1 rfl) ?_
  refine lv_if_lt (tgt := 16) hx hb dX3_hasTrack_1 (by decide) (fun c_1 => ?_) (fun c_1 => ?_)
  · skip
    refine lv_iconst (v := nI 0) hx hb dX3_hasTrack_16 (by decide) ?_
    refine tp_i (y := bI (inF x T)) (by first | exact bI_f (inF_f1 c_1) | exact bI_f (inF_f2 c_9) | exact bI_t (inF_t c_1 c_9)) ?_
    exact pu_zret hx hb hr (by cases inF x T <;> rfl) hlocks dX3_hasTrack_17
  · skip
    refine lv_iload_n hx hb dX3_hasTrack_4 rfl (lv_at hl 1 rfl) ?_
    refine lv_aload_n hx hb dX3_hasTrack_5 rfl (lv_at hl 0 rfl) ?_
    refine va_get (D := D) (ci := 4) (v := .int (nI T)) (C := RX3) (T := TX3) (N := 8) hx hb hts (by decide +kernel) hown hK hP 0 rfl rfl 0 (by decide) (hts (.fieldLink RX3 13 "TrackDisk" "tracks" "I") (by decide +kernel)) (fun _ h9 => h9) rfl dX3_hasTrack_6 ?_
    refine lv_icmp_ge (tgt := 16) hx hb dX3_hasTrack_9 (by decide) (fun c_9 => ?_) (fun c_9 => ?_)
    · skip
      refine lv_iconst (v := nI 0) hx hb dX3_hasTrack_16 (by decide) ?_
      refine tp_i (y := bI (inF x T)) (by first | exact bI_f (inF_f1 c_1) | exact bI_f (inF_f2 c_9) | exact bI_t (inF_t c_1 c_9)) ?_
      exact pu_zret hx hb hr (by cases inF x T <;> rfl) hlocks dX3_hasTrack_17
    · skip
      refine lv_iconst (v := nI 1) hx hb dX3_hasTrack_12 (by decide) ?_
      refine lv_goto (tgt := 17) hx hb dX3_hasTrack_13 (by decide) ?_
      refine tp_i (y := bI (inF x T)) (by first | exact bI_f (inF_f1 c_1) | exact bI_f (inF_f2 c_9) | exact bI_t (inF_t c_1 c_9)) ?_
      exact pu_zret hx hb hr (by cases inF x T <;> rfl) hlocks dX3_hasTrack_17

set_option maxHeartbeats 4000000 in
set_option maxRecDepth 100000 in
/-- hasSector -/
theorem c_hasSector (l : Launch) (D : va_G) (κ : Nat → ClassId) (T S : Nat) (ad : Nat → Nat) (bs sm pl r0 r1 : Nat → Int32) (tk vo : Int32) (du : Nat → Option Nat) (nd : Int32) (wt wx wb : Nat → Int32) (wn : Int32) (tp : Nat → Int32) (tn ts dn : Int32) (x y : Int32) : Met l yX3_hasSector wsX3_hasSector ({ frames := 1, cells := 0, slots := 0, locals := 21 }) (va_Pc [.ref ((ad 0)), .int x, .int y] (pu_B D κ (tdW κ T S ad bs sm pl r0 r1 tk vo du nd wt wx wb wn tp tn ts dn))) (pu_Q (.int (bI (inF x T && inF y S)))) 0 0 pu_N := by
  refine Met.ofW (cc := cX3_hasSector) (maxL := 3) (ret := (some .boolean)) (by decide) rfl ?_
  intro p e s m args below meth c s₁ B hml hv
  obtain ⟨rfl, hP, hK⟩ := hv
  have hx := B.exec
  have hb := B.bytes
  have hr := B.returns
  have hts := atoms_spec (ws := wsX3_hasSector) B.pre
  have hown : s.vm.findClass RX3 = some m.cls := findClass_of_methodNamed B.named
  have hlocks := B.notSynchronized
  have hl := lv_entry ([.ref ((ad 0)), .int x, .int y]) (n := 3) (Nat.le_of_ble_eq_true rfl)
  rw [lg_entry_eq]
  generalize (lg_sl ([.ref ((ad 0)), .int x, .int y]) ++ List.replicate (3 - (lg_sl ([.ref ((ad 0)), .int x, .int y])).length) Slot.unset).toArray = ls at hl ⊢
  have hl : lv_has ls 3 [(0, .ref ((ad 0))), (1, .int x), (2, .int y)] := hl
  refine lv_aload_n hx hb dX3_hasSector_0 rfl (lv_at hl 0 rfl) ?_
  refine lv_iload_n hx hb dX3_hasSector_1 rfl (lv_at hl 1 rfl) ?_
  have hPc := hP.sub (ws' := tdW κ T S ad bs sm pl r0 r1 tk vo du nd wt wx wb wn tp tn ts dn) [0, 1, 2, 3, 4, 5, 6, 7, 8, 9, 10, 11, 12, 13] rfl
  refine pu_call (va_runV (As := [.int x]) (rest := []) ⟨hx, hb, hml, hown, hts⟩ (c_hasTrack l D κ T S ad bs sm pl r0 r1 tk vo du nd wt wx wb wn tp tn ts dn x) (cwV 1 hts gX3_hasSector_X3_hasTrack rfl rfl rfl (by decide +kernel) ⟨Nat.le_of_ble_eq_true rfl, Nat.le_of_ble_eq_true rfl⟩) ⟨pu_blind, va_recv hK hPc (ci := 4) (q0 := 0) rfl rfl, pu_pre hK hPc⟩ rfl rfl hl.1 rfl (lv_room (Nat.le_of_ble_eq_true rfl)) dX3_hasSector_2 ⟨Nat.le_of_ble_eq_true rfl, Nat.le_of_ble_eq_true rfl⟩) ?_
  refine lv_if_eq (tgt := 24) hx hb dX3_hasSector_5 (by decide) (fun c_5 => ?_) (fun c_5 => ?_)
  · skip
    refine lv_iconst (v := nI 0) hx hb dX3_hasSector_24 (by decide) ?_
    refine tp_i (y := bI (inF x T && inF y S)) (by first | exact bI_f (by rw [bI_eq c_5]; rfl) | exact bI_f (by rw [inF_f1 c_9, Bool.and_false]) | exact bI_f (by rw [inF_f2 c_17, Bool.and_false]) | exact bI_t (by rw [bI_ne c_5, inF_t c_9 c_17]; rfl)) ?_
    exact pu_zret hx hb hr (by cases (inF x T && inF y S) <;> rfl) hlocks dX3_hasSector_25
  · skip
    refine lv_iload_n hx hb dX3_hasSector_8 rfl (lv_at hl 2 rfl) ?_
    refine lv_if_lt (tgt := 24) hx hb dX3_hasSector_9 (by decide) (fun c_9 => ?_) (fun c_9 => ?_)
    · skip
      refine lv_iconst (v := nI 0) hx hb dX3_hasSector_24 (by decide) ?_
      refine tp_i (y := bI (inF x T && inF y S)) (by first | exact bI_f (by rw [bI_eq c_5]; rfl) | exact bI_f (by rw [inF_f1 c_9, Bool.and_false]) | exact bI_f (by rw [inF_f2 c_17, Bool.and_false]) | exact bI_t (by rw [bI_ne c_5, inF_t c_9 c_17]; rfl)) ?_
      exact pu_zret hx hb hr (by cases (inF x T && inF y S) <;> rfl) hlocks dX3_hasSector_25
    · skip
      refine lv_iload_n hx hb dX3_hasSector_12 rfl (lv_at hl 2 rfl) ?_
      refine lv_aload_n hx hb dX3_hasSector_13 rfl (lv_at hl 0 rfl) ?_
      refine va_get (D := D) (ci := 4) (v := .int (nI S)) (C := RX3) (T := TX3) (N := 8) hx hb hts (by decide +kernel) hown hK hP 0 rfl rfl 1 (by decide) (hts (.fieldLink RX3 17 "TrackDisk" "sectors" "I") (by decide +kernel)) (fun _ h9 => h9) rfl dX3_hasSector_14 ?_
      refine lv_icmp_ge (tgt := 24) hx hb dX3_hasSector_17 (by decide) (fun c_17 => ?_) (fun c_17 => ?_)
      · skip
        refine lv_iconst (v := nI 0) hx hb dX3_hasSector_24 (by decide) ?_
        refine tp_i (y := bI (inF x T && inF y S)) (by first | exact bI_f (by rw [bI_eq c_5]; rfl) | exact bI_f (by rw [inF_f1 c_9, Bool.and_false]) | exact bI_f (by rw [inF_f2 c_17, Bool.and_false]) | exact bI_t (by rw [bI_ne c_5, inF_t c_9 c_17]; rfl)) ?_
        exact pu_zret hx hb hr (by cases (inF x T && inF y S) <;> rfl) hlocks dX3_hasSector_25
      · skip
        refine lv_iconst (v := nI 1) hx hb dX3_hasSector_20 (by decide) ?_
        refine lv_goto (tgt := 25) hx hb dX3_hasSector_21 (by decide) ?_
        refine tp_i (y := bI (inF x T && inF y S)) (by first | exact bI_f (by rw [bI_eq c_5]; rfl) | exact bI_f (by rw [inF_f1 c_9, Bool.and_false]) | exact bI_f (by rw [inF_f2 c_17, Bool.and_false]) | exact bI_t (by rw [bI_ne c_5, inF_t c_9 c_17]; rfl)) ?_
        exact pu_zret hx hb hr (by cases (inF x T && inF y S) <;> rfl) hlocks dX3_hasSector_25

/-- the waiting writes, done one behind another: bytes, sums, row 0, row 1 -/
abbrev LY : Type := (Nat → Int32) × (Nat → Int32) × (Nat → Int32) × (Nat → Int32)
def ly1 (S : Nat) (pl : Nat → Int32) (t s : Nat) (x : Int32) (q : LY) : LY := (flF q.1 ((cl (pl t) * S + s) * 16) x 16, upd q.2.1 (cl (pl t) * S + s) (smA (flF q.1 ((cl (pl t) * S + s) * 16) x 16) S (cl (pl t)) s), upd q.2.2.1 t (nI 1), upd q.2.2.2 t (nI 1))
def lyF (S : Nat) (pl wt wx wb : Nat → Int32) (q : LY) : Nat → LY
  | 0 => q
  | n + 1 => ly1 S pl (cl (wt n)) (cl (wx n)) (wb n) (lyF S pl wt wx wb q n)

set_option maxHeartbeats 4000000 in
set_option maxRecDepth 100000 in
/-- layFirst(many) -/
theorem c_layFirst (l : Launch) (D : va_G) (κ : Nat → ClassId) (sz : Nat) (T S : Nat) (ad : Nat → Nat) (bs sm pl r0 r1 : Nat → Int32) (tk vo : Int32) (du : Nat → Option Nat) (nd : Int32) (wt wx wb : Nat → Int32) (wn : Int32) (tp : Nat → Int32) (tn ts dn : Int32) (hT : T ≤ 12) (hS8 : S ≤ 8) (hpl : ∀ t, t < T → vp_in (pl t) (T + 2)) (n : Nat) (hn : n ≤ 40) (hwt : ∀ k, k < n → vp_in (wt k) T) (hwx : ∀ k, k < n → vp_in (wx k) S)  : Met l yX3_layFirst wsX3_layFirst ({ frames := 4, cells := 0, slots := 0, locals := 94 }) (va_Pc [.ref ((ad 0)), .int (nI n)] (mu_B D κ (tdW κ T S ad bs sm pl r0 r1 tk vo du nd wt wx wb wn tp tn ts dn) sz)) (mu_Q D none (tdW κ T S ad ((lyF S pl wt wx wb (bs, sm, r0, r1) n).1) ((lyF S pl wt wx wb (bs, sm, r0, r1) n).2.1) pl ((lyF S pl wt wx wb (bs, sm, r0, r1) n).2.2.1) ((lyF S pl wt wx wb (bs, sm, r0, r1) n).2.2.2) tk vo du nd wt wx wb wn tp tn ts dn) (va_A (tdW κ T S ad bs sm pl r0 r1 tk vo du nd wt wx wb wn tp tn ts dn) sz)) 0 0 (va_A (tdW κ T S ad bs sm pl r0 r1 tk vo du nd wt wx wb wn tp tn ts dn) sz) := by
  refine Met.ofW (cc := cX3_layFirst) (maxL := 3) (ret := none) (by decide) rfl ?_
  intro p e s m args below meth c s₁ B hml hv
  obtain ⟨rfl, hsz, hP, hK, hD0⟩ := hv
  have hx := B.exec
  have hb := B.bytes
  have hr := B.returns
  have hts := atoms_spec (ws := wsX3_layFirst) B.pre
  have hown : s.vm.findClass RX3 = some m.cls := findClass_of_methodNamed B.named
  have hlocks := B.notSynchronized
  subst hsz
  have hD := hD0.self (sz := s.heap.size)
  generalize hAe : va_A (tdW κ T S ad bs sm pl r0 r1 tk vo du nd wt wx wb wn tp tn ts dn) s.heap.size = A at hD ⊢
  have hA : ∀ q : Nat, s.heap.size ≤ q → A q := fun q h => by rw [← hAe]; exact Or.inr h
  refine W.gen (P := fun H locs => va_P D vwCl (tdW κ T S ad bs sm pl r0 r1 tk vo du nd wt wx wb wn tp tn ts dn) H ∧ va_S A s.heap H locs) (fun H locs h => ?_) ⟨hP, va_S.rf⟩
  clear hP
  obtain ⟨hP, hS⟩ := h
  have hl := lv_entry ([.ref ((ad 0)), .int (nI n)]) (n := 3) (Nat.le_of_ble_eq_true rfl)
  rw [lg_entry_eq]
  generalize (lg_sl ([.ref ((ad 0)), .int (nI n)]) ++ List.replicate (3 - (lg_sl ([.ref ((ad 0)), .int (nI n)])).length) Slot.unset).toArray = ls at hl ⊢
  have hl : lv_has ls 3 [(0, .ref ((ad 0))), (1, .int (nI n))] := hl
  have hmx := sf_max hT hS8
  refine lv_iconst (v := nI 0) hx hb dX3_layFirst_0 (by decide) ?_
  refine lv_istore_n (lv' := [(2, .int (nI 0)), (0, .ref ((ad 0))), (1, .int (nI n))]) hx hb dX3_layFirst_1 rfl hl (by decide) rfl (fun ls hl => ?_)
  refine W.loop (N := n) (I := fun k ls H locs => lv_has ls 3 [(2, .int (nI k)), (0, .ref ((ad 0))), (1, .int (nI n))] ∧ va_P D vwCl (tdW κ T S ad ((lyF S pl wt wx wb (bs, sm, r0, r1) k).1) ((lyF S pl wt wx wb (bs, sm, r0, r1) k).2.1) pl ((lyF S pl wt wx wb (bs, sm, r0, r1) k).2.2.1) ((lyF S pl wt wx wb (bs, sm, r0, r1) k).2.2.2) tk vo du nd wt wx wb wn tp tn ts dn) H ∧ va_D A (tdW κ T S ad ((lyF S pl wt wx wb (bs, sm, r0, r1) k).1) ((lyF S pl wt wx wb (bs, sm, r0, r1) k).2.1) pl ((lyF S pl wt wx wb (bs, sm, r0, r1) k).2.2.1) ((lyF S pl wt wx wb (bs, sm, r0, r1) k).2.2.2) tk vo du nd wt wx wb wn tp tn ts dn) ∧ va_S A s.heap H locs) 0 (by omega) (fun k ls H locs hk hI ihk => ?_) (fun ls H locs hI => ?_) ⟨lv_sub hl [0, 1, 2] rfl, hP, hD, hS⟩
  · skip
    clear hl hP hD hS
    obtain ⟨hl, hP, hD, hS⟩ := hI
    have hwtk := cl_nI (hwt k hk) (by omega)
    have hwxk := cl_nI (hwx k hk) (by omega)
    refine lv_iload_n hx hb dX3_layFirst_2 rfl (lv_at hl 0 rfl) ?_
    refine lv_iload_n hx hb dX3_layFirst_3 rfl (lv_at hl 2 rfl) ?_
    refine lv_icmp_ge (tgt := 47) hx hb dX3_layFirst_4 (by decide) (fun c_4 => ?_) (fun c_4 => ?_)
    · exact absurd c_4 (nI_ge hk (by omega))
    · skip
      refine lv_aload_n hx hb dX3_layFirst_7 rfl (lv_at hl 1 rfl) ?_
      refine va_get (D := D) (ci := 4) (v := .ref ((ad 1))) (C := RX3) (T := TX3) (N := 8) hx hb hts (by decide +kernel) hown hK hP 0 rfl rfl 2 (by decide) (hts (.fieldLink RX3 25 "TrackDisk" "disk" "LTrackDisk$Surface;") (by decide +kernel)) (fun _ h9 => h9) rfl dX3_layFirst_8 ?_
      refine lv_aload_n hx hb dX3_layFirst_11 rfl (lv_at hl 1 rfl) ?_
      refine va_get (D := D) (ci := 4) (v := .ref ((ad 8))) (C := RX3) (T := TX3) (N := 8) hx hb hts (by decide +kernel) hown hK hP 0 rfl rfl 5 (by decide) (hts (.fieldLink RX3 39 "TrackDisk" "waiting" "LTrackDisk$Waiting;") (by decide +kernel)) (fun _ h9 => h9) rfl dX3_layFirst_12 ?_
      refine va_get (D := D) (ci := 3) (v := .ref ((ad 9))) (C := RX2) (T := TX2) (N := 4) hx hb hts (by decide +kernel) hown hK hP 8 rfl rfl 0 (by decide) (hts (.fieldLink RX3 91 "TrackDisk$Waiting" "track" "[I") (by decide +kernel)) (fun _ h9 => h9) rfl dX3_layFirst_15 ?_
      refine lv_iload_n hx hb dX3_layFirst_18 rfl (lv_at hl 0 rfl) ?_
      refine va_iald hx hb hK hP 9 0 rfl rfl (vp_in_nI (by omega) (by omega)) dX3_layFirst_19 ?_
      refine tp_i (y := nI (cl (wt k))) (by rw [nI_clamp (by omega)]; exact hwtk.1) ?_
      refine lv_aload_n hx hb dX3_layFirst_20 rfl (lv_at hl 1 rfl) ?_
      refine va_get (D := D) (ci := 4) (v := .ref ((ad 8))) (C := RX3) (T := TX3) (N := 8) hx hb hts (by decide +kernel) hown hK hP 0 rfl rfl 5 (by decide) (hts (.fieldLink RX3 39 "TrackDisk" "waiting" "LTrackDisk$Waiting;") (by decide +kernel)) (fun _ h9 => h9) rfl dX3_layFirst_21 ?_
      refine va_get (D := D) (ci := 3) (v := .ref ((ad 10))) (C := RX2) (T := TX2) (N := 4) hx hb hts (by decide +kernel) hown hK hP 8 rfl rfl 1 (by decide) (hts (.fieldLink RX3 95 "TrackDisk$Waiting" "sector" "[I") (by decide +kernel)) (fun _ h9 => h9) rfl dX3_layFirst_24 ?_
      refine lv_iload_n hx hb dX3_layFirst_27 rfl (lv_at hl 0 rfl) ?_
      refine va_iald hx hb hK hP 10 0 rfl rfl (vp_in_nI (by omega) (by omega)) dX3_layFirst_28 ?_
      refine tp_i (y := nI (cl (wx k))) (by rw [nI_clamp (by omega)]; exact hwxk.1) ?_
      refine lv_aload_n hx hb dX3_layFirst_29 rfl (lv_at hl 1 rfl) ?_
      refine va_get (D := D) (ci := 4) (v := .ref ((ad 8))) (C := RX3) (T := TX3) (N := 8) hx hb hts (by decide +kernel) hown hK hP 0 rfl rfl 5 (by decide) (hts (.fieldLink RX3 39 "TrackDisk" "waiting" "LTrackDisk$Waiting;") (by decide +kernel)) (fun _ h9 => h9) rfl dX3_layFirst_30 ?_
      refine va_get (D := D) (ci := 3) (v := .ref ((ad 11))) (C := RX2) (T := TX2) (N := 4) hx hb hts (by decide +kernel) hown hK hP 8 rfl rfl 2 (by decide) (hts (.fieldLink RX3 98 "TrackDisk$Waiting" "first" "[B") (by decide +kernel)) (fun _ h9 => h9) rfl dX3_layFirst_33 ?_
      refine lv_iload_n hx hb dX3_layFirst_36 rfl (lv_at hl 0 rfl) ?_
      refine va_bald hx hb hK hP 11 1 rfl rfl (vp_in_nI (by omega) (by omega)) dX3_layFirst_37 ?_
      refine tp_i (y := wb k) (by rw [nI_clamp (by omega)]) ?_
      have hPc := hP.sub (ws' := sfW κ T S (fun j => ad (j + 1)) ((lyF S pl wt wx wb (bs, sm, r0, r1) k).1) ((lyF S pl wt wx wb (bs, sm, r0, r1) k).2.1) pl ((lyF S pl wt wx wb (bs, sm, r0, r1) k).2.2.1) ((lyF S pl wt wx wb (bs, sm, r0, r1) k).2.2.2) tk vo) [1, 2, 3, 4, 5, 6] rfl
      have hDc := hD.sub (ws' := sfW κ T S (fun j => ad (j + 1)) ((lyF S pl wt wx wb (bs, sm, r0, r1) k).1) ((lyF S pl wt wx wb (bs, sm, r0, r1) k).2.1) pl ((lyF S pl wt wx wb (bs, sm, r0, r1) k).2.2.1) ((lyF S pl wt wx wb (bs, sm, r0, r1) k).2.2.2) tk vo) [1, 2, 3, 4, 5, 6] (by decide) rfl
      refine mu_call (wc := sfW κ T S (fun j => ad (j + 1)) ((lyF S pl wt wx wb (bs, sm, r0, r1) k).1) ((lyF S pl wt wx wb (bs, sm, r0, r1) k).2.1) pl ((lyF S pl wt wx wb (bs, sm, r0, r1) k).2.2.1) ((lyF S pl wt wx wb (bs, sm, r0, r1) k).2.2.2) tk vo) (wc' := sfW κ T S (fun j => ad (j + 1)) (flF (lyF S pl wt wx wb (bs, sm, r0, r1) k).1 ((cl (pl (cl (wt k))) * S + cl (wx k)) * 16) (wb k) 16) (upd (lyF S pl wt wx wb (bs, sm, r0, r1) k).2.1 (cl (pl (cl (wt k))) * S + cl (wx k)) (smA (flF (lyF S pl wt wx wb (bs, sm, r0, r1) k).1 ((cl (pl (cl (wt k))) * S + cl (wx k)) * 16) (wb k) 16) S (cl (pl (cl (wt k)))) (cl (wx k)))) pl (upd (lyF S pl wt wx wb (bs, sm, r0, r1) k).2.2.1 (cl (wt k)) (nI 1)) (upd (lyF S pl wt wx wb (bs, sm, r0, r1) k).2.2.2 (cl (wt k)) (nI 1)) tk vo) (ws' := tdW κ T S ad (flF (lyF S pl wt wx wb (bs, sm, r0, r1) k).1 ((cl (pl (cl (wt k))) * S + cl (wx k)) * 16) (wb k) 16) (upd (lyF S pl wt wx wb (bs, sm, r0, r1) k).2.1 (cl (pl (cl (wt k))) * S + cl (wx k)) (smA (flF (lyF S pl wt wx wb (bs, sm, r0, r1) k).1 ((cl (pl (cl (wt k))) * S + cl (wx k)) * 16) (wb k) 16) S (cl (pl (cl (wt k)))) (cl (wx k)))) pl (upd (lyF S pl wt wx wb (bs, sm, r0, r1) k).2.2.1 (cl (wt k)) (nI 1)) (upd (lyF S pl wt wx wb (bs, sm, r0, r1) k).2.2.2 (cl (wt k)) (nI 1)) tk vo du nd wt wx wb wn tp tn ts dn) (wr := (([0, 7, 8, 9, 10, 11, 12, 13] : List Nat).filterMap fun i => (tdW κ T S ad ((lyF S pl wt wx wb (bs, sm, r0, r1) k).1) ((lyF S pl wt wx wb (bs, sm, r0, r1) k).2.1) pl ((lyF S pl wt wx wb (bs, sm, r0, r1) k).2.2.1) ((lyF S pl wt wx wb (bs, sm, r0, r1) k).2.2.2) tk vo du nd wt wx wb wn tp tn ts dn)[i]?)) (va_runV (As := [.int (nI (cl (wt k))), .int (nI (cl (wx k))), .int (wb k)]) (rest := []) ⟨hx, hb, hml, hown, hts⟩ (c_lay l D κ H.size T S (fun j => ad (j + 1)) ((lyF S pl wt wx wb (bs, sm, r0, r1) k).1) ((lyF S pl wt wx wb (bs, sm, r0, r1) k).2.1) pl ((lyF S pl wt wx wb (bs, sm, r0, r1) k).2.2.1) ((lyF S pl wt wx wb (bs, sm, r0, r1) k).2.2.2) tk vo hT hS8 hpl (cl (wt k)) (cl (wx k)) hwtk.2 hwxk.2 (wb k)) (cwV 3 hts gX3_layFirst_X1_lay rfl rfl rfl (by decide +kernel) ⟨Nat.le_of_ble_eq_true rfl, Nat.le_of_ble_eq_true rfl⟩) ⟨mu_blind, va_recv hK hPc (ci := 2) (q0 := 0) rfl rfl, mu_pre hK hPc hDc⟩ rfl rfl hl.1 rfl (lv_room (Nat.le_of_ble_eq_true rfl)) dX3_layFirst_38 ⟨Nat.le_of_ble_eq_true rfl, Nat.le_of_ble_eq_true rfl⟩) hP hD hS hA [1, 2, 3, 4, 5, 6] [0, 7, 8, 9, 10, 11, 12, 13] [0, 8, 9, 10, 11, 12, 13, 1, 2, 3, 4, 5, 6, 7] rfl rfl (by decide) (by decide) rfl rfl (by decide) (fun H locs hP hD hS => ?_)
      refine W.eq (g2 := F0 m 41 ls []) rfl ?_
      refine lv_iinc (v := nI (k + 1)) (lv' := [(2, .int (nI (k + 1))), (0, .ref ((ad 0))), (1, .int (nI n))]) hx hb dX3_layFirst_41 hl (k := 0) rfl (by exact nI_1 _) (by decide) rfl (fun ls hl => ?_)
      refine lv_goto (tgt := 2) hx hb dX3_layFirst_44 (by decide) ?_
      exact ihk ls H locs ⟨lv_sub hl [0, 1, 2] rfl, hP, hD, hS⟩
  · skip
    clear hl hP hD hS
    obtain ⟨hl, hP, hD, hS⟩ := hI
    refine lv_iload_n hx hb dX3_layFirst_2 rfl (lv_at hl 0 rfl) ?_
    refine lv_iload_n hx hb dX3_layFirst_3 rfl (lv_at hl 2 rfl) ?_
    refine lv_icmp_ge (tgt := 47) hx hb dX3_layFirst_4 (by decide) (fun c_4 => ?_) (fun c_4 => ?_)
    · skip
      have hP9 : va_P D vwCl (tdW κ T S ad ((lyF S pl wt wx wb (bs, sm, r0, r1) n).1) ((lyF S pl wt wx wb (bs, sm, r0, r1) n).2.1) pl ((lyF S pl wt wx wb (bs, sm, r0, r1) n).2.2.1) ((lyF S pl wt wx wb (bs, sm, r0, r1) n).2.2.2) tk vo du nd wt wx wb wn tp tn ts dn) H := hP
      have hD9 : va_D A (tdW κ T S ad ((lyF S pl wt wx wb (bs, sm, r0, r1) n).1) ((lyF S pl wt wx wb (bs, sm, r0, r1) n).2.1) pl ((lyF S pl wt wx wb (bs, sm, r0, r1) n).2.2.1) ((lyF S pl wt wx wb (bs, sm, r0, r1) n).2.2.2) tk vo du nd wt wx wb wn tp tn ts dn) := hD
      exact W.vret hx hb hr (fun t ht _ => ⟨⟨rfl, by rw [ht]; exact hP9, hD9⟩, hS.F ht⟩) hS.2.2 dX3_layFirst_47 hlocks
    · exact absurd (nI_le (Nat.le_refl _) (by omega)) c_4

set_option maxHeartbeats 4000000 in
set_option maxRecDepth 100000 in
/-- write: no such sector -/
theorem c_write_no (l : Launch) (D : va_G) (κ : Nat → ClassId) (sz : Nat) (T S : Nat) (ad : Nat → Nat) (bs sm pl r0 r1 : Nat → Int32) (tk vo : Int32) (du : Nat → Option Nat) (nd : Int32) (wt wx wb : Nat → Int32) (wn : Int32) (tp : Nat → Int32) (tn ts dn : Int32) (x y z : Int32) (hno : (inF x T && inF y S) = false) : Met l yX3_write wsX3_write ({ frames := 2, cells := 0, slots := 0, locals := 43 }) (va_Pc [.ref ((ad 0)), .int x, .int y, .int z.toInt8.toInt32] (mu_B D κ (tdW κ T S ad bs sm pl r0 r1 tk vo du nd wt wx wb wn tp tn ts dn) sz)) (mu_Q D (some (.int ((-2)))) (tdW κ T S ad bs sm pl r0 r1 tk vo du nd wt wx wb wn tp tn ts dn) (va_A (tdW κ T S ad bs sm pl r0 r1 tk vo du nd wt wx wb wn tp tn ts dn) sz)) 0 0 (va_A (tdW κ T S ad bs sm pl r0 r1 tk vo du nd wt wx wb wn tp tn ts dn) sz) := by
  refine Met.ofW (cc := cX3_write) (maxL := 4) (ret := (some .int)) (by decide) rfl ?_
  intro p e s m args below meth c s₁ B hml hv
  obtain ⟨rfl, hsz, hP, hK, hD0⟩ := hv
  have hx := B.exec
  have hb := B.bytes
  have hr := B.returns
  have hts := atoms_spec (ws := wsX3_write) B.pre
  have hown : s.vm.findClass RX3 = some m.cls := findClass_of_methodNamed B.named
  have hlocks := B.notSynchronized
  subst hsz
  have hD := hD0.self (sz := s.heap.size)
  generalize hAe : va_A (tdW κ T S ad bs sm pl r0 r1 tk vo du nd wt wx wb wn tp tn ts dn) s.heap.size = A at hD ⊢
  have hA : ∀ q : Nat, s.heap.size ≤ q → A q := fun q h => by rw [← hAe]; exact Or.inr h
  refine W.gen (P := fun H locs => va_P D vwCl (tdW κ T S ad bs sm pl r0 r1 tk vo du nd wt wx wb wn tp tn ts dn) H ∧ va_S A s.heap H locs) (fun H locs h => ?_) ⟨hP, va_S.rf⟩
  clear hP
  obtain ⟨hP, hS⟩ := h
  have hl := lv_entry ([.ref ((ad 0)), .int x, .int y, .int z.toInt8.toInt32]) (n := 4) (Nat.le_of_ble_eq_true rfl)
  rw [lg_entry_eq]
  generalize (lg_sl ([.ref ((ad 0)), .int x, .int y, .int z.toInt8.toInt32]) ++ List.replicate (4 - (lg_sl ([.ref ((ad 0)), .int x, .int y, .int z.toInt8.toInt32])).length) Slot.unset).toArray = ls at hl ⊢
  have hl : lv_has ls 4 [(0, .ref ((ad 0))), (1, .int x), (2, .int y), (3, .int z.toInt8.toInt32)] := hl
  refine lv_aload_n hx hb dX3_write_0 rfl (lv_at hl 0 rfl) ?_
  refine lv_iload_n hx hb dX3_write_1 rfl (lv_at hl 1 rfl) ?_
  refine lv_iload_n hx hb dX3_write_2 rfl (lv_at hl 2 rfl) ?_
  have hPc := hP.sub (ws' := tdW κ T S ad bs sm pl r0 r1 tk vo du nd wt wx wb wn tp tn ts dn) [0, 1, 2, 3, 4, 5, 6, 7, 8, 9, 10, 11, 12, 13] rfl
  refine pu_call (va_runV (As := [.int x, .int y]) (rest := []) ⟨hx, hb, hml, hown, hts⟩ (c_hasSector l D κ T S ad bs sm pl r0 r1 tk vo du nd wt wx wb wn tp tn ts dn x y) (cwV 2 hts gX3_write_X3_hasSector rfl rfl rfl (by decide +kernel) ⟨Nat.le_of_ble_eq_true rfl, Nat.le_of_ble_eq_true rfl⟩) ⟨pu_blind, va_recv hK hPc (ci := 4) (q0 := 0) rfl rfl, pu_pre hK hPc⟩ rfl rfl hl.1 rfl (lv_room (Nat.le_of_ble_eq_true rfl)) dX3_write_3 ⟨Nat.le_of_ble_eq_true rfl, Nat.le_of_ble_eq_true rfl⟩) ?_
  refine lv_if_ne (tgt := 12) hx hb dX3_write_6 (by decide) (fun c_6 => ?_) (fun c_6 => ?_)
  · exact (bI_cf hno c_6).elim
  · skip
    refine lv_bipush (v := (-2)) hx hb dX3_write_9 (by decide) ?_
    have hP9 : va_P D vwCl (tdW κ T S ad bs sm pl r0 r1 tk vo du nd wt wx wb wn tp tn ts dn) H := hP
    have hD9 : va_D A (tdW κ T S ad bs sm pl r0 r1 tk vo du nd wt wx wb wn tp tn ts dn) := hD
    exact W.iret hx hb hr (fun t ht _ => ⟨⟨rfl, by rw [ht]; exact hP9, hD9⟩, hS.F ht⟩) hS.2.2 dX3_write_11 hlocks

set_option maxHeartbeats 4000000 in
set_option maxRecDepth 100000 in
/-- write: down -/
theorem c_write_down (l : Launch) (D : va_G) (κ : Nat → ClassId) (sz : Nat) (T S : Nat) (ad : Nat → Nat) (bs sm pl r0 r1 : Nat → Int32) (tk vo : Int32) (du : Nat → Option Nat) (nd : Int32) (wt wx wb : Nat → Int32) (wn : Int32) (tp : Nat → Int32) (tn ts : Int32)  (hT : T ≤ 12) (hS8 : S ≤ 8) (t b : Nat) (ht : t < T) (hb0 : b < S) (z : Int32) : Met l yX3_write wsX3_write ({ frames := 2, cells := 0, slots := 0, locals := 43 }) (va_Pc [.ref ((ad 0)), .int (nI t), .int (nI b), .int z.toInt8.toInt32] (mu_B D κ (tdW κ T S ad bs sm pl r0 r1 tk vo du nd wt wx wb wn tp tn ts (nI 1)) sz)) (mu_Q D (some (.int ((-5)))) (tdW κ T S ad bs sm pl r0 r1 tk vo du nd wt wx wb wn tp tn ts (nI 1)) (va_A (tdW κ T S ad bs sm pl r0 r1 tk vo du nd wt wx wb wn tp tn ts (nI 1)) sz)) 0 0 (va_A (tdW κ T S ad bs sm pl r0 r1 tk vo du nd wt wx wb wn tp tn ts (nI 1)) sz) := by
  refine Met.ofW (cc := cX3_write) (maxL := 4) (ret := (some .int)) (by decide) rfl ?_
  intro p e s m args below meth c s₁ B hml hv
  obtain ⟨rfl, hsz, hP, hK, hD0⟩ := hv
  have hx := B.exec
  have hb := B.bytes
  have hr := B.returns
  have hts := atoms_spec (ws := wsX3_write) B.pre
  have hown : s.vm.findClass RX3 = some m.cls := findClass_of_methodNamed B.named
  have hlocks := B.notSynchronized
  subst hsz
  have hD := hD0.self (sz := s.heap.size)
  generalize hAe : va_A (tdW κ T S ad bs sm pl r0 r1 tk vo du nd wt wx wb wn tp tn ts (nI 1)) s.heap.size = A at hD ⊢
  have hA : ∀ q : Nat, s.heap.size ≤ q → A q := fun q h => by rw [← hAe]; exact Or.inr h
  refine W.gen (P := fun H locs => va_P D vwCl (tdW κ T S ad bs sm pl r0 r1 tk vo du nd wt wx wb wn tp tn ts (nI 1)) H ∧ va_S A s.heap H locs) (fun H locs h => ?_) ⟨hP, va_S.rf⟩
  clear hP
  obtain ⟨hP, hS⟩ := h
  have hl := lv_entry ([.ref ((ad 0)), .int (nI t), .int (nI b), .int z.toInt8.toInt32]) (n := 4) (Nat.le_of_ble_eq_true rfl)
  rw [lg_entry_eq]
  generalize (lg_sl ([.ref ((ad 0)), .int (nI t), .int (nI b), .int z.toInt8.toInt32]) ++ List.replicate (4 - (lg_sl ([.ref ((ad 0)), .int (nI t), .int (nI b), .int z.toInt8.toInt32])).length) Slot.unset).toArray = ls at hl ⊢
  have hl : lv_has ls 4 [(0, .ref ((ad 0))), (1, .int (nI t)), (2, .int (nI b)), (3, .int z.toInt8.toInt32)] := hl
  refine lv_aload_n hx hb dX3_write_0 rfl (lv_at hl 0 rfl) ?_
  refine lv_iload_n hx hb dX3_write_1 rfl (lv_at hl 1 rfl) ?_
  refine lv_iload_n hx hb dX3_write_2 rfl (lv_at hl 2 rfl) ?_
  have hPc := hP.sub (ws' := tdW κ T S ad bs sm pl r0 r1 tk vo du nd wt wx wb wn tp tn ts (nI 1)) [0, 1, 2, 3, 4, 5, 6, 7, 8, 9, 10, 11, 12, 13] rfl
  refine pu_call (va_runV (As := [.int (nI t), .int (nI b)]) (rest := []) ⟨hx, hb, hml, hown, hts⟩ (c_hasSector l D κ T S ad bs sm pl r0 r1 tk vo du nd wt wx wb wn tp tn ts (nI 1) (nI t) (nI b)) (cwV 2 hts gX3_write_X3_hasSector rfl rfl rfl (by decide +kernel) ⟨Nat.le_of_ble_eq_true rfl, Nat.le_of_ble_eq_true rfl⟩) ⟨pu_blind, va_recv hK hPc (ci := 4) (q0 := 0) rfl rfl, pu_pre hK hPc⟩ rfl rfl hl.1 rfl (lv_room (Nat.le_of_ble_eq_true rfl)) dX3_write_3 ⟨Nat.le_of_ble_eq_true rfl, Nat.le_of_ble_eq_true rfl⟩) ?_
  refine lv_if_ne (tgt := 12) hx hb dX3_write_6 (by decide) (fun c_6 => ?_) (fun c_6 => ?_)
  · skip
    refine lv_aload_n hx hb dX3_write_12 rfl (lv_at hl 0 rfl) ?_
    refine va_get (D := D) (ci := 4) (v := .int (nI 1)) (C := RX3) (T := TX3) (N := 8) hx hb hts (by decide +kernel) hown hK hP 0 rfl rfl 7 (by decide) (hts (.fieldLink RX3 50 "TrackDisk" "down" "Z") (by decide +kernel)) (fun _ h9 => h9) rfl dX3_write_13 ?_
    refine lv_if_eq (tgt := 22) hx hb dX3_write_16 (by decide) (fun c_16 => ?_) (fun c_16 => ?_)
    · exact absurd c_16 (by decide)
    · skip
      refine lv_bipush (v := (-5)) hx hb dX3_write_19 (by decide) ?_
      have hP9 : va_P D vwCl (tdW κ T S ad bs sm pl r0 r1 tk vo du nd wt wx wb wn tp tn ts (nI 1)) H := hP
      have hD9 : va_D A (tdW κ T S ad bs sm pl r0 r1 tk vo du nd wt wx wb wn tp tn ts (nI 1)) := hD
      exact W.iret hx hb hr (fun t ht _ => ⟨⟨rfl, by rw [ht]; exact hP9, hD9⟩, hS.F ht⟩) hS.2.2 dX3_write_21 hlocks
  · exact (bI_ct (by rw [inF_nI ht (by omega), inF_nI hb0 (by omega)]; rfl) c_6).elim

set_option maxHeartbeats 4000000 in
set_option maxRecDepth 100000 in
/-- write: 40 wait -/
theorem c_write_full (l : Launch) (D : va_G) (κ : Nat → ClassId) (sz : Nat) (T S : Nat) (ad : Nat → Nat) (bs sm pl r0 r1 : Nat → Int32) (tk vo : Int32) (du : Nat → Option Nat) (nd : Int32) (wt wx wb : Nat → Int32) (tp : Nat → Int32) (tn ts : Int32)  (hT : T ≤ 12) (hS8 : S ≤ 8) (t b : Nat) (ht : t < T) (hb0 : b < S) (z : Int32) : Met l yX3_write wsX3_write ({ frames := 2, cells := 0, slots := 0, locals := 43 }) (va_Pc [.ref ((ad 0)), .int (nI t), .int (nI b), .int z.toInt8.toInt32] (mu_B D κ (tdW κ T S ad bs sm pl r0 r1 tk vo du nd wt wx wb (nI 40) tp tn ts (nI 0)) sz)) (mu_Q D (some (.int ((-1)))) (tdW κ T S ad bs sm pl r0 r1 tk vo du nd wt wx wb (nI 40) tp tn ts (nI 0)) (va_A (tdW κ T S ad bs sm pl r0 r1 tk vo du nd wt wx wb (nI 40) tp tn ts (nI 0)) sz)) 0 0 (va_A (tdW κ T S ad bs sm pl r0 r1 tk vo du nd wt wx wb (nI 40) tp tn ts (nI 0)) sz) := by
  refine Met.ofW (cc := cX3_write) (maxL := 4) (ret := (some .int)) (by decide) rfl ?_
  intro p e s m args below meth c s₁ B hml hv
  obtain ⟨rfl, hsz, hP, hK, hD0⟩ := hv
  have hx := B.exec
  have hb := B.bytes
  have hr := B.returns
  have hts := atoms_spec (ws := wsX3_write) B.pre
  have hown : s.vm.findClass RX3 = some m.cls := findClass_of_methodNamed B.named
  have hlocks := B.notSynchronized
  subst hsz
  have hD := hD0.self (sz := s.heap.size)
  generalize hAe : va_A (tdW κ T S ad bs sm pl r0 r1 tk vo du nd wt wx wb (nI 40) tp tn ts (nI 0)) s.heap.size = A at hD ⊢
  have hA : ∀ q : Nat, s.heap.size ≤ q → A q := fun q h => by rw [← hAe]; exact Or.inr h
  refine W.gen (P := fun H locs => va_P D vwCl (tdW κ T S ad bs sm pl r0 r1 tk vo du nd wt wx wb (nI 40) tp tn ts (nI 0)) H ∧ va_S A s.heap H locs) (fun H locs h => ?_) ⟨hP, va_S.rf⟩
  clear hP
  obtain ⟨hP, hS⟩ := h
  have hl := lv_entry ([.ref ((ad 0)), .int (nI t), .int (nI b), .int z.toInt8.toInt32]) (n := 4) (Nat.le_of_ble_eq_true rfl)
  rw [lg_entry_eq]
  generalize (lg_sl ([.ref ((ad 0)), .int (nI t), .int (nI b), .int z.toInt8.toInt32]) ++ List.replicate (4 - (lg_sl ([.ref ((ad 0)), .int (nI t), .int (nI b), .int z.toInt8.toInt32])).length) Slot.unset).toArray = ls at hl ⊢
  have hl : lv_has ls 4 [(0, .ref ((ad 0))), (1, .int (nI t)), (2, .int (nI b)), (3, .int z.toInt8.toInt32)] := hl
  refine lv_aload_n hx hb dX3_write_0 rfl (lv_at hl 0 rfl) ?_
  refine lv_iload_n hx hb dX3_write_1 rfl (lv_at hl 1 rfl) ?_
  refine lv_iload_n hx hb dX3_write_2 rfl (lv_at hl 2 rfl) ?_
  have hPc := hP.sub (ws' := tdW κ T S ad bs sm pl r0 r1 tk vo du nd wt wx wb (nI 40) tp tn ts (nI 0)) [0, 1, 2, 3, 4, 5, 6, 7, 8, 9, 10, 11, 12, 13] rfl
  refine pu_call (va_runV (As := [.int (nI t), .int (nI b)]) (rest := []) ⟨hx, hb, hml, hown, hts⟩ (c_hasSector l D κ T S ad bs sm pl r0 r1 tk vo du nd wt wx wb (nI 40) tp tn ts (nI 0) (nI t) (nI b)) (cwV 2 hts gX3_write_X3_hasSector rfl rfl rfl (by decide +kernel) ⟨Nat.le_of_ble_eq_true rfl, Nat.le_of_ble_eq_true rfl⟩) ⟨pu_blind, va_recv hK hPc (ci := 4) (q0 := 0) rfl rfl, pu_pre hK hPc⟩ rfl rfl hl.1 rfl (lv_room (Nat.le_of_ble_eq_true rfl)) dX3_write_3 ⟨Nat.le_of_ble_eq_true rfl, Nat.le_of_ble_eq_true rfl⟩) ?_
  refine lv_if_ne (tgt := 12) hx hb dX3_write_6 (by decide) (fun c_6 => ?_) (fun c_6 => ?_)
  · skip
    refine lv_aload_n hx hb dX3_write_12 rfl (lv_at hl 0 rfl) ?_
    refine va_get (D := D) (ci := 4) (v := .int (nI 0)) (C := RX3) (T := TX3) (N := 8) hx hb hts (by decide +kernel) hown hK hP 0 rfl rfl 7 (by decide) (hts (.fieldLink RX3 50 "TrackDisk" "down" "Z") (by decide +kernel)) (fun _ h9 => h9) rfl dX3_write_13 ?_
    refine lv_if_eq (tgt := 22) hx hb dX3_write_16 (by decide) (fun c_16 => ?_) (fun c_16 => ?_)
    · skip
      refine lv_aload_n hx hb dX3_write_22 rfl (lv_at hl 0 rfl) ?_
      refine va_get (D := D) (ci := 4) (v := .ref ((ad 8))) (C := RX3) (T := TX3) (N := 8) hx hb hts (by decide +kernel) hown hK hP 0 rfl rfl 5 (by decide) (hts (.fieldLink RX3 39 "TrackDisk" "waiting" "LTrackDisk$Waiting;") (by decide +kernel)) (fun _ h9 => h9) rfl dX3_write_23 ?_
      refine va_get (D := D) (ci := 3) (v := .int (nI 40)) (C := RX2) (T := TX2) (N := 4) hx hb hts (by decide +kernel) hown hK hP 8 rfl rfl 3 (by decide) (hts (.fieldLink RX3 58 "TrackDisk$Waiting" "size" "I") (by decide +kernel)) (fun _ h9 => h9) rfl dX3_write_26 ?_
      refine lv_bipush (v := nI 40) hx hb dX3_write_29 (by decide) ?_
      refine lv_icmp_lt (tgt := 36) hx hb dX3_write_31 (by decide) (fun c_31 => ?_) (fun c_31 => ?_)
      · exact absurd c_31 (by decide)
      · skip
        refine lv_iconst (v := (-1)) hx hb dX3_write_34 (by decide) ?_
        have hP9 : va_P D vwCl (tdW κ T S ad bs sm pl r0 r1 tk vo du nd wt wx wb (nI 40) tp tn ts (nI 0)) H := hP
        have hD9 : va_D A (tdW κ T S ad bs sm pl r0 r1 tk vo du nd wt wx wb (nI 40) tp tn ts (nI 0)) := hD
        exact W.iret hx hb hr (fun t ht _ => ⟨⟨rfl, by rw [ht]; exact hP9, hD9⟩, hS.F ht⟩) hS.2.2 dX3_write_35 hlocks
    · exact absurd (by decide) c_16
  · exact (bI_ct (by rw [inF_nI ht (by omega), inF_nI hb0 (by omega)]; rfl) c_6).elim

set_option maxHeartbeats 4000000 in
set_option maxRecDepth 100000 in
/-- write -/
theorem c_write (l : Launch) (D : va_G) (κ : Nat → ClassId) (sz : Nat) (T S : Nat) (ad : Nat → Nat) (bs sm pl r0 r1 : Nat → Int32) (tk vo : Int32) (du : Nat → Option Nat) (nd : Int32) (wt wx wb : Nat → Int32) (tp : Nat → Int32) (tn ts : Int32)  (hT : T ≤ 12) (hS8 : S ≤ 8) (t b : Nat) (ht : t < T) (hb0 : b < S) (z : Int32) (w : Nat) (hw : w < 40) : Met l yX3_write wsX3_write ({ frames := 2, cells := 0, slots := 0, locals := 43 }) (va_Pc [.ref ((ad 0)), .int (nI t), .int (nI b), .int z.toInt8.toInt32] (mu_B D κ (tdW κ T S ad bs sm pl r0 r1 tk vo du nd wt wx wb (nI w) tp tn ts (nI 0)) sz)) (mu_Q D (some (.int (nI (w + 1)))) (tdW κ T S ad bs sm pl r0 r1 tk vo du nd (upd wt w (nI t)) (upd wx w (nI b)) (upd wb w (z.toInt8.toInt32)) (nI (w + 1)) tp tn ts (nI 0)) (va_A (tdW κ T S ad bs sm pl r0 r1 tk vo du nd wt wx wb (nI w) tp tn ts (nI 0)) sz)) 0 0 (va_A (tdW κ T S ad bs sm pl r0 r1 tk vo du nd wt wx wb (nI w) tp tn ts (nI 0)) sz) := by
  refine Met.ofW (cc := cX3_write) (maxL := 4) (ret := (some .int)) (by decide) rfl ?_
  intro p e s m args below meth c s₁ B hml hv
  obtain ⟨rfl, hsz, hP, hK, hD0⟩ := hv
  have hx := B.exec
  have hb := B.bytes
  have hr := B.returns
  have hts := atoms_spec (ws := wsX3_write) B.pre
  have hown : s.vm.findClass RX3 = some m.cls := findClass_of_methodNamed B.named
  have hlocks := B.notSynchronized
  subst hsz
  have hD := hD0.self (sz := s.heap.size)
  generalize hAe : va_A (tdW κ T S ad bs sm pl r0 r1 tk vo du nd wt wx wb (nI w) tp tn ts (nI 0)) s.heap.size = A at hD ⊢
  have hA : ∀ q : Nat, s.heap.size ≤ q → A q := fun q h => by rw [← hAe]; exact Or.inr h
  refine W.gen (P := fun H locs => va_P D vwCl (tdW κ T S ad bs sm pl r0 r1 tk vo du nd wt wx wb (nI w) tp tn ts (nI 0)) H ∧ va_S A s.heap H locs) (fun H locs h => ?_) ⟨hP, va_S.rf⟩
  clear hP
  obtain ⟨hP, hS⟩ := h
  have hl := lv_entry ([.ref ((ad 0)), .int (nI t), .int (nI b), .int z.toInt8.toInt32]) (n := 4) (Nat.le_of_ble_eq_true rfl)
  rw [lg_entry_eq]
  generalize (lg_sl ([.ref ((ad 0)), .int (nI t), .int (nI b), .int z.toInt8.toInt32]) ++ List.replicate (4 - (lg_sl ([.ref ((ad 0)), .int (nI t), .int (nI b), .int z.toInt8.toInt32])).length) Slot.unset).toArray = ls at hl ⊢
  have hl : lv_has ls 4 [(0, .ref ((ad 0))), (1, .int (nI t)), (2, .int (nI b)), (3, .int z.toInt8.toInt32)] := hl
  refine lv_aload_n hx hb dX3_write_0 rfl (lv_at hl 0 rfl) ?_
  refine lv_iload_n hx hb dX3_write_1 rfl (lv_at hl 1 rfl) ?_
  refine lv_iload_n hx hb dX3_write_2 rfl (lv_at hl 2 rfl) ?_
  have hPc := hP.sub (ws' := tdW κ T S ad bs sm pl r0 r1 tk vo du nd wt wx wb (nI w) tp tn ts (nI 0)) [0, 1, 2, 3, 4, 5, 6, 7, 8, 9, 10, 11, 12, 13] rfl
  refine pu_call (va_runV (As := [.int (nI t), .int (nI b)]) (rest := []) ⟨hx, hb, hml, hown, hts⟩ (c_hasSector l D κ T S ad bs sm pl r0 r1 tk vo du nd wt wx wb (nI w) tp tn ts (nI 0) (nI t) (nI b)) (cwV 2 hts gX3_write_X3_hasSector rfl rfl rfl (by decide +kernel) ⟨Nat.le_of_ble_eq_true rfl, Nat.le_of_ble_eq_true rfl⟩) ⟨pu_blind, va_recv hK hPc (ci := 4) (q0 := 0) rfl rfl, pu_pre hK hPc⟩ rfl rfl hl.1 rfl (lv_room (Nat.le_of_ble_eq_true rfl)) dX3_write_3 ⟨Nat.le_of_ble_eq_true rfl, Nat.le_of_ble_eq_true rfl⟩) ?_
  refine lv_if_ne (tgt := 12) hx hb dX3_write_6 (by decide) (fun c_6 => ?_) (fun c_6 => ?_)
  · skip
    refine lv_aload_n hx hb dX3_write_12 rfl (lv_at hl 0 rfl) ?_
    refine va_get (D := D) (ci := 4) (v := .int (nI 0)) (C := RX3) (T := TX3) (N := 8) hx hb hts (by decide +kernel) hown hK hP 0 rfl rfl 7 (by decide) (hts (.fieldLink RX3 50 "TrackDisk" "down" "Z") (by decide +kernel)) (fun _ h9 => h9) rfl dX3_write_13 ?_
    refine lv_if_eq (tgt := 22) hx hb dX3_write_16 (by decide) (fun c_16 => ?_) (fun c_16 => ?_)
    · skip
      refine lv_aload_n hx hb dX3_write_22 rfl (lv_at hl 0 rfl) ?_
      refine va_get (D := D) (ci := 4) (v := .ref ((ad 8))) (C := RX3) (T := TX3) (N := 8) hx hb hts (by decide +kernel) hown hK hP 0 rfl rfl 5 (by decide) (hts (.fieldLink RX3 39 "TrackDisk" "waiting" "LTrackDisk$Waiting;") (by decide +kernel)) (fun _ h9 => h9) rfl dX3_write_23 ?_
      refine va_get (D := D) (ci := 3) (v := .int (nI w)) (C := RX2) (T := TX2) (N := 4) hx hb hts (by decide +kernel) hown hK hP 8 rfl rfl 3 (by decide) (hts (.fieldLink RX3 58 "TrackDisk$Waiting" "size" "I") (by decide +kernel)) (fun _ h9 => h9) rfl dX3_write_26 ?_
      refine lv_bipush (v := nI 40) hx hb dX3_write_29 (by decide) ?_
      refine lv_icmp_lt (tgt := 36) hx hb dX3_write_31 (by decide) (fun c_31 => ?_) (fun c_31 => ?_)
      · skip
        refine lv_aload_n hx hb dX3_write_36 rfl (lv_at hl 0 rfl) ?_
        refine va_get (D := D) (ci := 4) (v := .ref ((ad 8))) (C := RX3) (T := TX3) (N := 8) hx hb hts (by decide +kernel) hown hK hP 0 rfl rfl 5 (by decide) (hts (.fieldLink RX3 39 "TrackDisk" "waiting" "LTrackDisk$Waiting;") (by decide +kernel)) (fun _ h9 => h9) rfl dX3_write_37 ?_
        refine lv_iload_n hx hb dX3_write_40 rfl (lv_at hl 1 rfl) ?_
        refine lv_iload_n hx hb dX3_write_41 rfl (lv_at hl 2 rfl) ?_
        refine lv_iload_n hx hb dX3_write_42 rfl (lv_at hl 3 rfl) ?_
        have hPc := hP.sub (ws' := waW κ (fun j => ad (j + 8)) wt wx wb (nI w)) [8, 9, 10, 11] rfl
        have hDc := hD.sub (ws' := waW κ (fun j => ad (j + 8)) wt wx wb (nI w)) [8, 9, 10, 11] (by decide) rfl
        refine mu_call (wc := waW κ (fun j => ad (j + 8)) wt wx wb (nI w)) (wc' := waW κ (fun j => ad (j + 8)) (upd wt w (nI t)) (upd wx w (nI b)) (upd wb w (z.toInt8.toInt32)) (nI (w + 1))) (ws' := tdW κ T S ad bs sm pl r0 r1 tk vo du nd (upd wt w (nI t)) (upd wx w (nI b)) (upd wb w (z.toInt8.toInt32)) (nI (w + 1)) tp tn ts (nI 0)) (wr := (([0, 1, 2, 3, 4, 5, 6, 7, 12, 13] : List Nat).filterMap fun i => (tdW κ T S ad bs sm pl r0 r1 tk vo du nd wt wx wb (nI w) tp tn ts (nI 0))[i]?)) (va_runV (As := [.int (nI t), .int (nI b), .int z.toInt8.toInt32]) (rest := []) ⟨hx, hb, hml, hown, hts⟩ (c_append l D κ H.size (fun j => ad (j + 8)) wt wx wb w hw (nI t) (nI b) z) (cwV 3 hts gX3_write_X2_append rfl rfl rfl (by decide +kernel) ⟨Nat.le_of_ble_eq_true rfl, Nat.le_of_ble_eq_true rfl⟩) ⟨mu_blind, va_recv hK hPc (ci := 3) (q0 := 0) rfl rfl, mu_pre hK hPc hDc⟩ rfl rfl hl.1 rfl (lv_room (Nat.le_of_ble_eq_true rfl)) dX3_write_43 ⟨Nat.le_of_ble_eq_true rfl, Nat.le_of_ble_eq_true rfl⟩) hP hD hS hA [8, 9, 10, 11] [0, 1, 2, 3, 4, 5, 6, 7, 12, 13] [0, 1, 2, 3, 4, 5, 6, 7, 10, 11, 12, 13, 8, 9] rfl rfl (by decide) (by decide) rfl rfl (by decide) (fun H locs hP hD hS => ?_)
        refine W.eq (g2 := F0 m 46 ls []) rfl ?_
        refine lv_aload_n hx hb dX3_write_46 rfl (lv_at hl 0 rfl) ?_
        refine va_get (D := D) (ci := 4) (v := .ref ((ad 8))) (C := RX3) (T := TX3) (N := 8) hx hb hts (by decide +kernel) hown hK hP 0 rfl rfl 5 (by decide) (hts (.fieldLink RX3 39 "TrackDisk" "waiting" "LTrackDisk$Waiting;") (by decide +kernel)) (fun _ h9 => h9) rfl dX3_write_47 ?_
        refine va_get (D := D) (ci := 3) (v := .int (nI (w + 1))) (C := RX2) (T := TX2) (N := 4) hx hb hts (by decide +kernel) hown hK hP 8 rfl rfl 3 (by decide) (hts (.fieldLink RX3 58 "TrackDisk$Waiting" "size" "I") (by decide +kernel)) (fun _ h9 => h9) rfl dX3_write_50 ?_
        have hP9 : va_P D vwCl (tdW κ T S ad bs sm pl r0 r1 tk vo du nd (upd wt w (nI t)) (upd wx w (nI b)) (upd wb w (z.toInt8.toInt32)) (nI (w + 1)) tp tn ts (nI 0)) H := hP
        have hD9 : va_D A (tdW κ T S ad bs sm pl r0 r1 tk vo du nd (upd wt w (nI t)) (upd wx w (nI b)) (upd wb w (z.toInt8.toInt32)) (nI (w + 1)) tp tn ts (nI 0)) := hD
        exact W.iret hx hb hr (fun t ht _ => ⟨⟨rfl, by rw [ht]; exact hP9, hD9⟩, hS.F ht⟩) hS.2.2 dX3_write_53 hlocks
      · exact absurd (nI_lt hw (by omega)) c_31
    · exact absurd (by decide) c_16
  · exact (bI_ct (by rw [inF_nI ht (by omega), inF_nI hb0 (by omega)]; rfl) c_6).elim

set_option maxHeartbeats 4000000 in
set_option maxRecDepth 100000 in
/-- sync: down -/
theorem c_sync_down (l : Launch) (D : va_G) (κ : Nat → ClassId) (sz : Nat) (T S : Nat) (ad : Nat → Nat) (bs sm pl r0 r1 : Nat → Int32) (tk vo : Int32) (du : Nat → Option Nat) (nd : Int32) (wt wx wb : Nat → Int32) (wn : Int32) (tp : Nat → Int32) (tn ts : Int32)   : Met l yX3_sync wsX3_sync ({ frames := 0, cells := 0, slots := 0, locals := 0 }) (va_Pc [.ref ((ad 0))] (mu_B D κ (tdW κ T S ad bs sm pl r0 r1 tk vo du nd wt wx wb wn tp tn ts (nI 1)) sz)) (mu_Q D (some (.int ((-5)))) (tdW κ T S ad bs sm pl r0 r1 tk vo du nd wt wx wb wn tp tn ts (nI 1)) (va_A (tdW κ T S ad bs sm pl r0 r1 tk vo du nd wt wx wb wn tp tn ts (nI 1)) sz)) 0 0 (va_A (tdW κ T S ad bs sm pl r0 r1 tk vo du nd wt wx wb wn tp tn ts (nI 1)) sz) := by
  refine Met.ofW (cc := cX3_sync) (maxL := 2) (ret := (some .int)) (by decide) rfl ?_
  intro p e s m args below meth c s₁ B hml hv
  obtain ⟨rfl, hsz, hP, hK, hD0⟩ := hv
  have hx := B.exec
  have hb := B.bytes
  have hr := B.returns
  have hts := atoms_spec (ws := wsX3_sync) B.pre
  have hown : s.vm.findClass RX3 = some m.cls := findClass_of_methodNamed B.named
  have hlocks := B.notSynchronized
  subst hsz
  have hD := hD0.self (sz := s.heap.size)
  generalize hAe : va_A (tdW κ T S ad bs sm pl r0 r1 tk vo du nd wt wx wb wn tp tn ts (nI 1)) s.heap.size = A at hD ⊢
  have hA : ∀ q : Nat, s.heap.size ≤ q → A q := fun q h => by rw [← hAe]; exact Or.inr h
  refine W.gen (P := fun H locs => va_P D vwCl (tdW κ T S ad bs sm pl r0 r1 tk vo du nd wt wx wb wn tp tn ts (nI 1)) H ∧ va_S A s.heap H locs) (fun H locs h => ?_) ⟨hP, va_S.rf⟩
  clear hP
  obtain ⟨hP, hS⟩ := h
  have hl := lv_entry ([.ref ((ad 0))]) (n := 2) (Nat.le_of_ble_eq_true rfl)
  rw [lg_entry_eq]
  generalize (lg_sl ([.ref ((ad 0))]) ++ List.replicate (2 - (lg_sl ([.ref ((ad 0))])).length) Slot.unset).toArray = ls at hl ⊢
  have hl : lv_has ls 2 [(0, .ref ((ad 0)))] := hl
  refine lv_aload_n hx hb dX3_sync_0 rfl (lv_at hl 0 rfl) ?_
  refine va_get (D := D) (ci := 4) (v := .int (nI 1)) (C := RX3) (T := TX3) (N := 8) hx hb hts (by decide +kernel) hown hK hP 0 rfl rfl 7 (by decide) (hts (.fieldLink RX3 50 "TrackDisk" "down" "Z") (by decide +kernel)) (fun _ h9 => h9) rfl dX3_sync_1 ?_
  refine lv_if_eq (tgt := 10) hx hb dX3_sync_4 (by decide) (fun c_4 => ?_) (fun c_4 => ?_)
  · exact absurd c_4 (by decide)
  · skip
    refine lv_bipush (v := (-5)) hx hb dX3_sync_7 (by decide) ?_
    have hP9 : va_P D vwCl (tdW κ T S ad bs sm pl r0 r1 tk vo du nd wt wx wb wn tp tn ts (nI 1)) H := hP
    have hD9 : va_D A (tdW κ T S ad bs sm pl r0 r1 tk vo du nd wt wx wb wn tp tn ts (nI 1)) := hD
    exact W.iret hx hb hr (fun t ht _ => ⟨⟨rfl, by rw [ht]; exact hP9, hD9⟩, hS.F ht⟩) hS.2.2 dX3_sync_9 hlocks

set_option maxHeartbeats 4000000 in
set_option maxRecDepth 100000 in
/-- sync -/
theorem c_sync (l : Launch) (D : va_G) (κ : Nat → ClassId) (sz : Nat) (T S : Nat) (ad : Nat → Nat) (bs sm pl r0 r1 : Nat → Int32) (tk vo : Int32) (du : Nat → Option Nat) (nd : Int32) (wt wx wb : Nat → Int32) (tp : Nat → Int32) (tn ts : Int32)  (hT : T ≤ 12) (hS8 : S ≤ 8) (hpl : ∀ t, t < T → vp_in (pl t) (T + 2)) (n : Nat) (hn : n ≤ 40) (hwt : ∀ k, k < n → vp_in (wt k) T) (hwx : ∀ k, k < n → vp_in (wx k) S)  : Met l yX3_sync wsX3_sync ({ frames := 5, cells := 0, slots := 0, locals := 116 }) (va_Pc [.ref ((ad 0))] (mu_B D κ (tdW κ T S ad bs sm pl r0 r1 tk vo du nd wt wx wb (nI n) tp tn ts (nI 0)) sz)) (mu_Q D (some (.int (nI n))) (tdW κ T S ad ((lyF S pl wt wx wb (bs, sm, r0, r1) n).1) ((lyF S pl wt wx wb (bs, sm, r0, r1) n).2.1) pl ((lyF S pl wt wx wb (bs, sm, r0, r1) n).2.2.1) ((lyF S pl wt wx wb (bs, sm, r0, r1) n).2.2.2) tk vo du nd wt wx wb (nI 0) tp tn ts (nI 0)) (va_A (tdW κ T S ad bs sm pl r0 r1 tk vo du nd wt wx wb (nI n) tp tn ts (nI 0)) sz)) 0 0 (va_A (tdW κ T S ad bs sm pl r0 r1 tk vo du nd wt wx wb (nI n) tp tn ts (nI 0)) sz) := by
  refine Met.ofW (cc := cX3_sync) (maxL := 2) (ret := (some .int)) (by decide) rfl ?_
  intro p e s m args below meth c s₁ B hml hv
  obtain ⟨rfl, hsz, hP, hK, hD0⟩ := hv
  have hx := B.exec
  have hb := B.bytes
  have hr := B.returns
  have hts := atoms_spec (ws := wsX3_sync) B.pre
  have hown : s.vm.findClass RX3 = some m.cls := findClass_of_methodNamed B.named
  have hlocks := B.notSynchronized
  subst hsz
  have hD := hD0.self (sz := s.heap.size)
  generalize hAe : va_A (tdW κ T S ad bs sm pl r0 r1 tk vo du nd wt wx wb (nI n) tp tn ts (nI 0)) s.heap.size = A at hD ⊢
  have hA : ∀ q : Nat, s.heap.size ≤ q → A q := fun q h => by rw [← hAe]; exact Or.inr h
  refine W.gen (P := fun H locs => va_P D vwCl (tdW κ T S ad bs sm pl r0 r1 tk vo du nd wt wx wb (nI n) tp tn ts (nI 0)) H ∧ va_S A s.heap H locs) (fun H locs h => ?_) ⟨hP, va_S.rf⟩
  clear hP
  obtain ⟨hP, hS⟩ := h
  have hl := lv_entry ([.ref ((ad 0))]) (n := 2) (Nat.le_of_ble_eq_true rfl)
  rw [lg_entry_eq]
  generalize (lg_sl ([.ref ((ad 0))]) ++ List.replicate (2 - (lg_sl ([.ref ((ad 0))])).length) Slot.unset).toArray = ls at hl ⊢
  have hl : lv_has ls 2 [(0, .ref ((ad 0)))] := hl
  refine lv_aload_n hx hb dX3_sync_0 rfl (lv_at hl 0 rfl) ?_
  refine va_get (D := D) (ci := 4) (v := .int (nI 0)) (C := RX3) (T := TX3) (N := 8) hx hb hts (by decide +kernel) hown hK hP 0 rfl rfl 7 (by decide) (hts (.fieldLink RX3 50 "TrackDisk" "down" "Z") (by decide +kernel)) (fun _ h9 => h9) rfl dX3_sync_1 ?_
  refine lv_if_eq (tgt := 10) hx hb dX3_sync_4 (by decide) (fun c_4 => ?_) (fun c_4 => ?_)
  · skip
    refine lv_aload_n hx hb dX3_sync_10 rfl (lv_at hl 0 rfl) ?_
    refine va_get (D := D) (ci := 4) (v := .ref ((ad 8))) (C := RX3) (T := TX3) (N := 8) hx hb hts (by decide +kernel) hown hK hP 0 rfl rfl 5 (by decide) (hts (.fieldLink RX3 39 "TrackDisk" "waiting" "LTrackDisk$Waiting;") (by decide +kernel)) (fun _ h9 => h9) rfl dX3_sync_11 ?_
    refine va_get (D := D) (ci := 3) (v := .int (nI n)) (C := RX2) (T := TX2) (N := 4) hx hb hts (by decide +kernel) hown hK hP 8 rfl rfl 3 (by decide) (hts (.fieldLink RX3 58 "TrackDisk$Waiting" "size" "I") (by decide +kernel)) (fun _ h9 => h9) rfl dX3_sync_14 ?_
    refine lv_istore_n (lv' := [(1, .int (nI n)), (0, .ref ((ad 0)))]) hx hb dX3_sync_17 rfl hl (by decide) rfl (fun ls hl => ?_)
    refine lv_aload_n hx hb dX3_sync_18 rfl (lv_at hl 1 rfl) ?_
    refine lv_iload_n hx hb dX3_sync_19 rfl (lv_at hl 0 rfl) ?_
    have hPc := hP.sub (ws' := tdW κ T S ad bs sm pl r0 r1 tk vo du nd wt wx wb (nI n) tp tn ts (nI 0)) [0, 1, 2, 3, 4, 5, 6, 7, 8, 9, 10, 11, 12, 13] rfl
    have hDc := hD.sub (ws' := tdW κ T S ad bs sm pl r0 r1 tk vo du nd wt wx wb (nI n) tp tn ts (nI 0)) [0, 1, 2, 3, 4, 5, 6, 7, 8, 9, 10, 11, 12, 13] (by decide) rfl
    refine mu_call (wc := tdW κ T S ad bs sm pl r0 r1 tk vo du nd wt wx wb (nI n) tp tn ts (nI 0)) (wc' := tdW κ T S ad ((lyF S pl wt wx wb (bs, sm, r0, r1) n).1) ((lyF S pl wt wx wb (bs, sm, r0, r1) n).2.1) pl ((lyF S pl wt wx wb (bs, sm, r0, r1) n).2.2.1) ((lyF S pl wt wx wb (bs, sm, r0, r1) n).2.2.2) tk vo du nd wt wx wb (nI n) tp tn ts (nI 0)) (ws' := tdW κ T S ad ((lyF S pl wt wx wb (bs, sm, r0, r1) n).1) ((lyF S pl wt wx wb (bs, sm, r0, r1) n).2.1) pl ((lyF S pl wt wx wb (bs, sm, r0, r1) n).2.2.1) ((lyF S pl wt wx wb (bs, sm, r0, r1) n).2.2.2) tk vo du nd wt wx wb (nI n) tp tn ts (nI 0)) (wr := (([] : List Nat).filterMap fun i => (tdW κ T S ad bs sm pl r0 r1 tk vo du nd wt wx wb (nI n) tp tn ts (nI 0))[i]?)) (va_runV (As := [.int (nI n)]) (rest := []) ⟨hx, hb, hml, hown, hts⟩ (c_layFirst l D κ H.size T S ad bs sm pl r0 r1 tk vo du nd wt wx wb (nI n) tp tn ts (nI 0) hT hS8 hpl n hn hwt hwx) (cwV 1 hts gX3_sync_X3_layFirst rfl rfl rfl (by decide +kernel) ⟨Nat.le_of_ble_eq_true rfl, Nat.le_of_ble_eq_true rfl⟩) ⟨mu_blind, va_recv hK hPc (ci := 4) (q0 := 0) rfl rfl, mu_pre hK hPc hDc⟩ rfl rfl hl.1 rfl (lv_room (Nat.le_of_ble_eq_true rfl)) dX3_sync_20 ⟨Nat.le_of_ble_eq_true rfl, Nat.le_of_ble_eq_true rfl⟩) hP hD hS hA [0, 1, 2, 3, 4, 5, 6, 7, 8, 9, 10, 11, 12, 13] [] [0, 1, 2, 3, 4, 5, 6, 7, 8, 9, 10, 11, 12, 13] rfl rfl (by decide) (by decide) rfl rfl (by decide) (fun H locs hP hD hS => ?_)
    refine W.eq (g2 := F0 m 23 ls []) rfl ?_
    refine lv_aload_n hx hb dX3_sync_23 rfl (lv_at hl 1 rfl) ?_
    refine va_get (D := D) (ci := 4) (v := .ref ((ad 8))) (C := RX3) (T := TX3) (N := 8) hx hb hts (by decide +kernel) hown hK hP 0 rfl rfl 5 (by decide) (hts (.fieldLink RX3 39 "TrackDisk" "waiting" "LTrackDisk$Waiting;") (by decide +kernel)) (fun _ h9 => h9) rfl dX3_sync_24 ?_
    have hPc := hP.sub (ws' := waW κ (fun j => ad (j + 8)) wt wx wb (nI n)) [8, 9, 10, 11] rfl
    have hDc := hD.sub (ws' := waW κ (fun j => ad (j + 8)) wt wx wb (nI n)) [8, 9, 10, 11] (by decide) rfl
    refine mu_call (wc := waW κ (fun j => ad (j + 8)) wt wx wb (nI n)) (wc' := waW κ (fun j => ad (j + 8)) wt wx wb (nI 0)) (ws' := tdW κ T S ad ((lyF S pl wt wx wb (bs, sm, r0, r1) n).1) ((lyF S pl wt wx wb (bs, sm, r0, r1) n).2.1) pl ((lyF S pl wt wx wb (bs, sm, r0, r1) n).2.2.1) ((lyF S pl wt wx wb (bs, sm, r0, r1) n).2.2.2) tk vo du nd wt wx wb (nI 0) tp tn ts (nI 0)) (wr := (([0, 1, 2, 3, 4, 5, 6, 7, 12, 13] : List Nat).filterMap fun i => (tdW κ T S ad ((lyF S pl wt wx wb (bs, sm, r0, r1) n).1) ((lyF S pl wt wx wb (bs, sm, r0, r1) n).2.1) pl ((lyF S pl wt wx wb (bs, sm, r0, r1) n).2.2.1) ((lyF S pl wt wx wb (bs, sm, r0, r1) n).2.2.2) tk vo du nd wt wx wb (nI n) tp tn ts (nI 0))[i]?)) (va_runV (As := []) (rest := []) ⟨hx, hb, hml, hown, hts⟩ (c_drop l D κ H.size (fun j => ad (j + 8)) wt wx wb (nI n)) (cwV 0 hts gX3_sync_X2_drop rfl rfl rfl (by decide +kernel) ⟨Nat.le_of_ble_eq_true rfl, Nat.le_of_ble_eq_true rfl⟩) ⟨mu_blind, va_recv hK hPc (ci := 3) (q0 := 0) rfl rfl, mu_pre hK hPc hDc⟩ rfl rfl hl.1 rfl (lv_room (Nat.le_of_ble_eq_true rfl)) dX3_sync_27 ⟨Nat.le_of_ble_eq_true rfl, Nat.le_of_ble_eq_true rfl⟩) hP hD hS hA [8, 9, 10, 11] [0, 1, 2, 3, 4, 5, 6, 7, 12, 13] [0, 1, 2, 3, 4, 5, 6, 7, 10, 11, 12, 13, 8, 9] rfl rfl (by decide) (by decide) rfl rfl (by decide) (fun H locs hP hD hS => ?_)
    refine W.eq (g2 := F0 m 30 ls []) rfl ?_
    refine lv_iload_n hx hb dX3_sync_30 rfl (lv_at hl 0 rfl) ?_
    have hP9 : va_P D vwCl (tdW κ T S ad ((lyF S pl wt wx wb (bs, sm, r0, r1) n).1) ((lyF S pl wt wx wb (bs, sm, r0, r1) n).2.1) pl ((lyF S pl wt wx wb (bs, sm, r0, r1) n).2.2.1) ((lyF S pl wt wx wb (bs, sm, r0, r1) n).2.2.2) tk vo du nd wt wx wb (nI 0) tp tn ts (nI 0)) H := hP
    have hD9 : va_D A (tdW κ T S ad ((lyF S pl wt wx wb (bs, sm, r0, r1) n).1) ((lyF S pl wt wx wb (bs, sm, r0, r1) n).2.1) pl ((lyF S pl wt wx wb (bs, sm, r0, r1) n).2.2.1) ((lyF S pl wt wx wb (bs, sm, r0, r1) n).2.2.2) tk vo du nd wt wx wb (nI 0) tp tn ts (nI 0)) := hD
    exact W.iret hx hb hr (fun t ht _ => ⟨⟨rfl, by rw [ht]; exact hP9, hD9⟩, hS.F ht⟩) hS.2.2 dX3_sync_31 hlocks
  · exact absurd (by decide) c_4

set_option maxHeartbeats 4000000 in
set_option maxRecDepth 100000 in
/-- cut: down -/
theorem c_cut_down (l : Launch) (D : va_G) (κ : Nat → ClassId) (sz : Nat) (T S : Nat) (ad : Nat → Nat) (bs sm pl r0 r1 : Nat → Int32) (tk vo : Int32) (du : Nat → Option Nat) (nd : Int32) (wt wx wb : Nat → Int32) (wn : Int32) (tp : Nat → Int32) (tn ts : Int32)  (x y : Int32) : Met l yX3_cut wsX3_cut ({ frames := 0, cells := 0, slots := 0, locals := 0 }) (va_Pc [.ref ((ad 0)), .int x, .int y] (mu_B D κ (tdW κ T S ad bs sm pl r0 r1 tk vo du nd wt wx wb wn tp tn ts (nI 1)) sz)) (mu_Q D none (tdW κ T S ad bs sm pl r0 r1 tk vo du nd wt wx wb wn tp tn ts (nI 1)) (va_A (tdW κ T S ad bs sm pl r0 r1 tk vo du nd wt wx wb wn tp tn ts (nI 1)) sz)) 0 0 (va_A (tdW κ T S ad bs sm pl r0 r1 tk vo du nd wt wx wb wn tp tn ts (nI 1)) sz) := by
  refine Met.ofW (cc := cX3_cut) (maxL := 4) (ret := none) (by decide) rfl ?_
  intro p e s m args below meth c s₁ B hml hv
  obtain ⟨rfl, hsz, hP, hK, hD0⟩ := hv
  have hx := B.exec
  have hb := B.bytes
  have hr := B.returns
  have hts := atoms_spec (ws := wsX3_cut) B.pre
  have hown : s.vm.findClass RX3 = some m.cls := findClass_of_methodNamed B.named
  have hlocks := B.notSynchronized
  subst hsz
  have hD := hD0.self (sz := s.heap.size)
  generalize hAe : va_A (tdW κ T S ad bs sm pl r0 r1 tk vo du nd wt wx wb wn tp tn ts (nI 1)) s.heap.size = A at hD ⊢
  have hA : ∀ q : Nat, s.heap.size ≤ q → A q := fun q h => by rw [← hAe]; exact Or.inr h
  refine W.gen (P := fun H locs => va_P D vwCl (tdW κ T S ad bs sm pl r0 r1 tk vo du nd wt wx wb wn tp tn ts (nI 1)) H ∧ va_S A s.heap H locs) (fun H locs h => ?_) ⟨hP, va_S.rf⟩
  clear hP
  obtain ⟨hP, hS⟩ := h
  have hl := lv_entry ([.ref ((ad 0)), .int x, .int y]) (n := 4) (Nat.le_of_ble_eq_true rfl)
  rw [lg_entry_eq]
  generalize (lg_sl ([.ref ((ad 0)), .int x, .int y]) ++ List.replicate (4 - (lg_sl ([.ref ((ad 0)), .int x, .int y])).length) Slot.unset).toArray = ls at hl ⊢
  have hl : lv_has ls 4 [(0, .ref ((ad 0))), (1, .int x), (2, .int y)] := hl
  refine lv_aload_n hx hb dX3_cut_0 rfl (lv_at hl 0 rfl) ?_
  refine va_get (D := D) (ci := 4) (v := .int (nI 1)) (C := RX3) (T := TX3) (N := 8) hx hb hts (by decide +kernel) hown hK hP 0 rfl rfl 7 (by decide) (hts (.fieldLink RX3 50 "TrackDisk" "down" "Z") (by decide +kernel)) (fun _ h9 => h9) rfl dX3_cut_1 ?_
  refine lv_if_eq (tgt := 8) hx hb dX3_cut_4 (by decide) (fun c_4 => ?_) (fun c_4 => ?_)
  · exact absurd c_4 (by decide)
  · skip
    have hP9 : va_P D vwCl (tdW κ T S ad bs sm pl r0 r1 tk vo du nd wt wx wb wn tp tn ts (nI 1)) H := hP
    have hD9 : va_D A (tdW κ T S ad bs sm pl r0 r1 tk vo du nd wt wx wb wn tp tn ts (nI 1)) := hD
    exact W.vret hx hb hr (fun t ht _ => ⟨⟨rfl, by rw [ht]; exact hP9, hD9⟩, hS.F ht⟩) hS.2.2 dX3_cut_7 hlocks

set_option maxHeartbeats 4000000 in
set_option maxRecDepth 100000 in
/-- cut: all kept -/
theorem c_cut_all (l : Launch) (D : va_G) (κ : Nat → ClassId) (sz : Nat) (T S : Nat) (ad : Nat → Nat) (bs sm pl r0 r1 : Nat → Int32) (tk vo : Int32) (du : Nat → Option Nat) (nd : Int32) (wt wx wb : Nat → Int32) (tp : Nat → Int32) (tn ts : Int32)  (hT : T ≤ 12) (hS8 : S ≤ 8) (hpl : ∀ t, t < T → vp_in (pl t) (T + 2)) (w : Nat) (hw : w ≤ 40) (hwt : ∀ k, k < w → vp_in (wt k) T) (hwx : ∀ k, k < w → vp_in (wx k) S) (x y : Int32) (n : Nat) (hj : hdF x (nI 0) (nI w) = nI n) (hnw : n = w) : Met l yX3_cut wsX3_cut ({ frames := 5, cells := 0, slots := 0, locals := 116 }) (va_Pc [.ref ((ad 0)), .int x, .int y] (mu_B D κ (tdW κ T S ad bs sm pl r0 r1 tk vo du nd wt wx wb (nI w) tp tn ts (nI 0)) sz)) (mu_Q D none (tdW κ T S ad ((lyF S pl wt wx wb (bs, sm, r0, r1) n).1) ((lyF S pl wt wx wb (bs, sm, r0, r1) n).2.1) pl ((lyF S pl wt wx wb (bs, sm, r0, r1) n).2.2.1) ((lyF S pl wt wx wb (bs, sm, r0, r1) n).2.2.2) tk vo du nd wt wx wb (nI 0) tp tn ts (nI 1)) (va_A (tdW κ T S ad bs sm pl r0 r1 tk vo du nd wt wx wb (nI w) tp tn ts (nI 0)) sz)) 0 0 (va_A (tdW κ T S ad bs sm pl r0 r1 tk vo du nd wt wx wb (nI w) tp tn ts (nI 0)) sz) := by
  refine Met.ofW (cc := cX3_cut) (maxL := 4) (ret := none) (by decide) rfl ?_
  intro p e s m args below meth c s₁ B hml hv
  obtain ⟨rfl, hsz, hP, hK, hD0⟩ := hv
  have hx := B.exec
  have hb := B.bytes
  have hr := B.returns
  have hts := atoms_spec (ws := wsX3_cut) B.pre
  have hown : s.vm.findClass RX3 = some m.cls := findClass_of_methodNamed B.named
  have hlocks := B.notSynchronized
  subst hsz
  have hD := hD0.self (sz := s.heap.size)
  generalize hAe : va_A (tdW κ T S ad bs sm pl r0 r1 tk vo du nd wt wx wb (nI w) tp tn ts (nI 0)) s.heap.size = A at hD ⊢
  have hA : ∀ q : Nat, s.heap.size ≤ q → A q := fun q h => by rw [← hAe]; exact Or.inr h
  refine W.gen (P := fun H locs => va_P D vwCl (tdW κ T S ad bs sm pl r0 r1 tk vo du nd wt wx wb (nI w) tp tn ts (nI 0)) H ∧ va_S A s.heap H locs) (fun H locs h => ?_) ⟨hP, va_S.rf⟩
  clear hP
  obtain ⟨hP, hS⟩ := h
  have hl := lv_entry ([.ref ((ad 0)), .int x, .int y]) (n := 4) (Nat.le_of_ble_eq_true rfl)
  rw [lg_entry_eq]
  generalize (lg_sl ([.ref ((ad 0)), .int x, .int y]) ++ List.replicate (4 - (lg_sl ([.ref ((ad 0)), .int x, .int y])).length) Slot.unset).toArray = ls at hl ⊢
  have hl : lv_has ls 4 [(0, .ref ((ad 0))), (1, .int x), (2, .int y)] := hl
  have hmx := sf_max hT hS8
  refine lv_aload_n hx hb dX3_cut_0 rfl (lv_at hl 0 rfl) ?_
  refine va_get (D := D) (ci := 4) (v := .int (nI 0)) (C := RX3) (T := TX3) (N := 8) hx hb hts (by decide +kernel) hown hK hP 0 rfl rfl 7 (by decide) (hts (.fieldLink RX3 50 "TrackDisk" "down" "Z") (by decide +kernel)) (fun _ h9 => h9) rfl dX3_cut_1 ?_
  refine lv_if_eq (tgt := 8) hx hb dX3_cut_4 (by decide) (fun c_4 => ?_) (fun c_4 => ?_)
  · skip
    refine lv_iload_n hx hb dX3_cut_8 rfl (lv_at hl 1 rfl) ?_
    refine lv_iconst (v := nI 0) hx hb dX3_cut_9 (by decide) ?_
    refine lv_aload_n hx hb dX3_cut_10 rfl (lv_at hl 0 rfl) ?_
    refine va_get (D := D) (ci := 4) (v := .ref ((ad 8))) (C := RX3) (T := TX3) (N := 8) hx hb hts (by decide +kernel) hown hK hP 0 rfl rfl 5 (by decide) (hts (.fieldLink RX3 39 "TrackDisk" "waiting" "LTrackDisk$Waiting;") (by decide +kernel)) (fun _ h9 => h9) rfl dX3_cut_11 ?_
    refine va_get (D := D) (ci := 3) (v := .int (nI w)) (C := RX2) (T := TX2) (N := 4) hx hb hts (by decide +kernel) hown hK hP 8 rfl rfl 3 (by decide) (hts (.fieldLink RX3 58 "TrackDisk$Waiting" "size" "I") (by decide +kernel)) (fun _ h9 => h9) rfl dX3_cut_14 ?_
    have hPc := hP.sub (ws' := []) [] rfl
    refine pu_call (va_runS (As := [.int x, .int (nI 0), .int (nI w)]) (rest := []) ⟨hx, hb, hml, hown, hts⟩ (c_held l D κ x (nI 0) (nI w)) (va_cwS 3 hts gX3_cut_X3_held rfl rfl rfl (by decide +kernel) ⟨Nat.le_of_ble_eq_true rfl, Nat.le_of_ble_eq_true rfl⟩) ⟨pu_blind, pu_pre hK hPc⟩ rfl rfl hl.1 rfl (lv_room (Nat.le_of_ble_eq_true rfl)) dX3_cut_17 ⟨Nat.le_of_ble_eq_true rfl, Nat.le_of_ble_eq_true rfl⟩) ?_
    refine tp_i (y := nI n) (hj) ?_
    refine lv_istore_n (lv' := [(3, .int (nI n)), (0, .ref ((ad 0))), (1, .int x), (2, .int y)]) hx hb dX3_cut_20 rfl hl (by decide) rfl (fun ls hl => ?_)
    refine lv_aload_n hx hb dX3_cut_21 rfl (lv_at hl 1 rfl) ?_
    refine lv_iload_n hx hb dX3_cut_22 rfl (lv_at hl 0 rfl) ?_
    have hPc := hP.sub (ws' := tdW κ T S ad bs sm pl r0 r1 tk vo du nd wt wx wb (nI w) tp tn ts (nI 0)) [0, 1, 2, 3, 4, 5, 6, 7, 8, 9, 10, 11, 12, 13] rfl
    have hDc := hD.sub (ws' := tdW κ T S ad bs sm pl r0 r1 tk vo du nd wt wx wb (nI w) tp tn ts (nI 0)) [0, 1, 2, 3, 4, 5, 6, 7, 8, 9, 10, 11, 12, 13] (by decide) rfl
    refine mu_call (wc := tdW κ T S ad bs sm pl r0 r1 tk vo du nd wt wx wb (nI w) tp tn ts (nI 0)) (wc' := tdW κ T S ad ((lyF S pl wt wx wb (bs, sm, r0, r1) n).1) ((lyF S pl wt wx wb (bs, sm, r0, r1) n).2.1) pl ((lyF S pl wt wx wb (bs, sm, r0, r1) n).2.2.1) ((lyF S pl wt wx wb (bs, sm, r0, r1) n).2.2.2) tk vo du nd wt wx wb (nI w) tp tn ts (nI 0)) (ws' := tdW κ T S ad ((lyF S pl wt wx wb (bs, sm, r0, r1) n).1) ((lyF S pl wt wx wb (bs, sm, r0, r1) n).2.1) pl ((lyF S pl wt wx wb (bs, sm, r0, r1) n).2.2.1) ((lyF S pl wt wx wb (bs, sm, r0, r1) n).2.2.2) tk vo du nd wt wx wb (nI w) tp tn ts (nI 0)) (wr := (([] : List Nat).filterMap fun i => (tdW κ T S ad bs sm pl r0 r1 tk vo du nd wt wx wb (nI w) tp tn ts (nI 0))[i]?)) (va_runV (As := [.int (nI n)]) (rest := []) ⟨hx, hb, hml, hown, hts⟩ (c_layFirst l D κ H.size T S ad bs sm pl r0 r1 tk vo du nd wt wx wb (nI w) tp tn ts (nI 0) hT hS8 hpl n (by omega) (fun k hk => hwt k (by omega)) (fun k hk => hwx k (by omega))) (cwV 1 hts gX3_cut_X3_layFirst rfl rfl rfl (by decide +kernel) ⟨Nat.le_of_ble_eq_true rfl, Nat.le_of_ble_eq_true rfl⟩) ⟨mu_blind, va_recv hK hPc (ci := 4) (q0 := 0) rfl rfl, mu_pre hK hPc hDc⟩ rfl rfl hl.1 rfl (lv_room (Nat.le_of_ble_eq_true rfl)) dX3_cut_23 ⟨Nat.le_of_ble_eq_true rfl, Nat.le_of_ble_eq_true rfl⟩) hP hD hS hA [0, 1, 2, 3, 4, 5, 6, 7, 8, 9, 10, 11, 12, 13] [] [0, 1, 2, 3, 4, 5, 6, 7, 8, 9, 10, 11, 12, 13] rfl rfl (by decide) (by decide) rfl rfl (by decide) (fun H locs hP hD hS => ?_)
    refine W.eq (g2 := F0 m 26 ls []) rfl ?_
    refine lv_iload_n hx hb dX3_cut_26 rfl (lv_at hl 0 rfl) ?_
    refine lv_aload_n hx hb dX3_cut_27 rfl (lv_at hl 1 rfl) ?_
    refine va_get (D := D) (ci := 4) (v := .ref ((ad 8))) (C := RX3) (T := TX3) (N := 8) hx hb hts (by decide +kernel) hown hK hP 0 rfl rfl 5 (by decide) (hts (.fieldLink RX3 39 "TrackDisk" "waiting" "LTrackDisk$Waiting;") (by decide +kernel)) (fun _ h9 => h9) rfl dX3_cut_28 ?_
    refine va_get (D := D) (ci := 3) (v := .int (nI w)) (C := RX2) (T := TX2) (N := 4) hx hb hts (by decide +kernel) hown hK hP 8 rfl rfl 3 (by decide) (hts (.fieldLink RX3 58 "TrackDisk$Waiting" "size" "I") (by decide +kernel)) (fun _ h9 => h9) rfl dX3_cut_31 ?_
    refine lv_icmp_ge (tgt := 78) hx hb dX3_cut_34 (by decide) (fun c_34 => ?_) (fun c_34 => ?_)
    · skip
      refine lv_aload_n hx hb dX3_cut_78 rfl (lv_at hl 1 rfl) ?_
      refine va_get (D := D) (ci := 4) (v := .ref ((ad 8))) (C := RX3) (T := TX3) (N := 8) hx hb hts (by decide +kernel) hown hK hP 0 rfl rfl 5 (by decide) (hts (.fieldLink RX3 39 "TrackDisk" "waiting" "LTrackDisk$Waiting;") (by decide +kernel)) (fun _ h9 => h9) rfl dX3_cut_79 ?_
      have hPc := hP.sub (ws' := waW κ (fun j => ad (j + 8)) wt wx wb (nI w)) [8, 9, 10, 11] rfl
      have hDc := hD.sub (ws' := waW κ (fun j => ad (j + 8)) wt wx wb (nI w)) [8, 9, 10, 11] (by decide) rfl
      refine mu_call (wc := waW κ (fun j => ad (j + 8)) wt wx wb (nI w)) (wc' := waW κ (fun j => ad (j + 8)) wt wx wb (nI 0)) (ws' := tdW κ T S ad ((lyF S pl wt wx wb (bs, sm, r0, r1) n).1) ((lyF S pl wt wx wb (bs, sm, r0, r1) n).2.1) pl ((lyF S pl wt wx wb (bs, sm, r0, r1) n).2.2.1) ((lyF S pl wt wx wb (bs, sm, r0, r1) n).2.2.2) tk vo du nd wt wx wb (nI 0) tp tn ts (nI 0)) (wr := (([0, 1, 2, 3, 4, 5, 6, 7, 12, 13] : List Nat).filterMap fun i => (tdW κ T S ad ((lyF S pl wt wx wb (bs, sm, r0, r1) n).1) ((lyF S pl wt wx wb (bs, sm, r0, r1) n).2.1) pl ((lyF S pl wt wx wb (bs, sm, r0, r1) n).2.2.1) ((lyF S pl wt wx wb (bs, sm, r0, r1) n).2.2.2) tk vo du nd wt wx wb (nI w) tp tn ts (nI 0))[i]?)) (va_runV (As := []) (rest := []) ⟨hx, hb, hml, hown, hts⟩ (c_drop l D κ H.size (fun j => ad (j + 8)) wt wx wb (nI w)) (cwV 0 hts gX3_cut_X2_drop rfl rfl rfl (by decide +kernel) ⟨Nat.le_of_ble_eq_true rfl, Nat.le_of_ble_eq_true rfl⟩) ⟨mu_blind, va_recv hK hPc (ci := 3) (q0 := 0) rfl rfl, mu_pre hK hPc hDc⟩ rfl rfl hl.1 rfl (lv_room (Nat.le_of_ble_eq_true rfl)) dX3_cut_82 ⟨Nat.le_of_ble_eq_true rfl, Nat.le_of_ble_eq_true rfl⟩) hP hD hS hA [8, 9, 10, 11] [0, 1, 2, 3, 4, 5, 6, 7, 12, 13] [0, 1, 2, 3, 4, 5, 6, 7, 10, 11, 12, 13, 8, 9] rfl rfl (by decide) (by decide) rfl rfl (by decide) (fun H locs hP hD hS => ?_)
      refine W.eq (g2 := F0 m 85 ls []) rfl ?_
      refine lv_aload_n hx hb dX3_cut_85 rfl (lv_at hl 1 rfl) ?_
      refine lv_iconst (v := nI 1) hx hb dX3_cut_86 (by decide) ?_
      refine va_put (D := D) (ci := 4) (v := .int (nI 1)) (ty := .boolean) (C := RX3) (T := TX3) (N := 8) hx hb hts (by decide +kernel) tyX3 tyX3_ok nmX3 hown hK hP hD hS 0 rfl rfl 7 (by decide) (hts (.fieldLink RX3 50 "TrackDisk" "down" "Z") (by decide +kernel)) (fun _ h9 => h9) rfl (by decide +kernel) rfl rfl (Nat.le_of_ble_eq_true rfl) dX3_cut_87 (fun H locs hP hD hS => ?_)
      have hP : va_P D vwCl (tdW κ T S ad ((lyF S pl wt wx wb (bs, sm, r0, r1) n).1) ((lyF S pl wt wx wb (bs, sm, r0, r1) n).2.1) pl ((lyF S pl wt wx wb (bs, sm, r0, r1) n).2.2.1) ((lyF S pl wt wx wb (bs, sm, r0, r1) n).2.2.2) tk vo du nd wt wx wb (nI 0) tp tn ts (nI 1)) H := hP
      have hD : va_D A (tdW κ T S ad ((lyF S pl wt wx wb (bs, sm, r0, r1) n).1) ((lyF S pl wt wx wb (bs, sm, r0, r1) n).2.1) pl ((lyF S pl wt wx wb (bs, sm, r0, r1) n).2.2.1) ((lyF S pl wt wx wb (bs, sm, r0, r1) n).2.2.2) tk vo du nd wt wx wb (nI 0) tp tn ts (nI 1)) := hD
      have hP9 : va_P D vwCl (tdW κ T S ad ((lyF S pl wt wx wb (bs, sm, r0, r1) n).1) ((lyF S pl wt wx wb (bs, sm, r0, r1) n).2.1) pl ((lyF S pl wt wx wb (bs, sm, r0, r1) n).2.2.1) ((lyF S pl wt wx wb (bs, sm, r0, r1) n).2.2.2) tk vo du nd wt wx wb (nI 0) tp tn ts (nI 1)) H := hP
      have hD9 : va_D A (tdW κ T S ad ((lyF S pl wt wx wb (bs, sm, r0, r1) n).1) ((lyF S pl wt wx wb (bs, sm, r0, r1) n).2.1) pl ((lyF S pl wt wx wb (bs, sm, r0, r1) n).2.2.1) ((lyF S pl wt wx wb (bs, sm, r0, r1) n).2.2.2) tk vo du nd wt wx wb (nI 0) tp tn ts (nI 1)) := hD
      exact W.vret hx hb hr (fun t ht _ => ⟨⟨rfl, by rw [ht]; exact hP9, hD9⟩, hS.F ht⟩) hS.2.2 dX3_cut_90 hlocks
    · exact absurd (nI_le (Nat.le_of_eq hnw.symm) (by omega)) c_34
  · exact absurd (by decide) c_4

set_option maxHeartbeats 4000000 in
set_option maxRecDepth 100000 in
/-- cut: one torn -/
theorem c_cut (l : Launch) (D : va_G) (κ : Nat → ClassId) (sz : Nat) (T S : Nat) (ad : Nat → Nat) (bs sm pl r0 r1 : Nat → Int32) (tk vo : Int32) (du : Nat → Option Nat) (nd : Int32) (wt wx wb : Nat → Int32) (tp : Nat → Int32) (tn ts : Int32)  (hT : T ≤ 12) (hS8 : S ≤ 8) (hpl : ∀ t, t < T → vp_in (pl t) (T + 2)) (w : Nat) (hw : w ≤ 40) (hwt : ∀ k, k < w → vp_in (wt k) T) (hwx : ∀ k, k < w → vp_in (wx k) S) (x y : Int32) (n : Nat) (hj : hdF x (nI 0) (nI w) = nI n) (hnw : n < w) (g : Nat) (hg : hdF y (nI 0) (nI 16) = nI g) (hg6 : g ≤ 16) : Met l yX3_cut wsX3_cut ({ frames := 5, cells := 0, slots := 0, locals := 116 }) (va_Pc [.ref ((ad 0)), .int x, .int y] (mu_B D κ (tdW κ T S ad bs sm pl r0 r1 tk vo du nd wt wx wb (nI w) tp tn ts (nI 0)) sz)) (mu_Q D none (tdW κ T S ad (flF (lyF S pl wt wx wb (bs, sm, r0, r1) n).1 ((cl (pl (cl (wt n))) * S + cl (wx n)) * 16) (wb n) g) ((lyF S pl wt wx wb (bs, sm, r0, r1) n).2.1) pl (upd (lyF S pl wt wx wb (bs, sm, r0, r1) n).2.2.1 (cl (wt n)) (nI 1)) ((lyF S pl wt wx wb (bs, sm, r0, r1) n).2.2.2) tk vo du nd wt wx wb (nI 0) tp tn ts (nI 1)) (va_A (tdW κ T S ad bs sm pl r0 r1 tk vo du nd wt wx wb (nI w) tp tn ts (nI 0)) sz)) 0 0 (va_A (tdW κ T S ad bs sm pl r0 r1 tk vo du nd wt wx wb (nI w) tp tn ts (nI 0)) sz) := by
  refine Met.ofW (cc := cX3_cut) (maxL := 4) (ret := none) (by decide) rfl ?_
  intro p e s m args below meth c s₁ B hml hv
  obtain ⟨rfl, hsz, hP, hK, hD0⟩ := hv
  have hx := B.exec
  have hb := B.bytes
  have hr := B.returns
  have hts := atoms_spec (ws := wsX3_cut) B.pre
  have hown : s.vm.findClass RX3 = some m.cls := findClass_of_methodNamed B.named
  have hlocks := B.notSynchronized
  subst hsz
  have hD := hD0.self (sz := s.heap.size)
  generalize hAe : va_A (tdW κ T S ad bs sm pl r0 r1 tk vo du nd wt wx wb (nI w) tp tn ts (nI 0)) s.heap.size = A at hD ⊢
  have hA : ∀ q : Nat, s.heap.size ≤ q → A q := fun q h => by rw [← hAe]; exact Or.inr h
  refine W.gen (P := fun H locs => va_P D vwCl (tdW κ T S ad bs sm pl r0 r1 tk vo du nd wt wx wb (nI w) tp tn ts (nI 0)) H ∧ va_S A s.heap H locs) (fun H locs h => ?_) ⟨hP, va_S.rf⟩
  clear hP
  obtain ⟨hP, hS⟩ := h
  have hl := lv_entry ([.ref ((ad 0)), .int x, .int y]) (n := 4) (Nat.le_of_ble_eq_true rfl)
  rw [lg_entry_eq]
  generalize (lg_sl ([.ref ((ad 0)), .int x, .int y]) ++ List.replicate (4 - (lg_sl ([.ref ((ad 0)), .int x, .int y])).length) Slot.unset).toArray = ls at hl ⊢
  have hl : lv_has ls 4 [(0, .ref ((ad 0))), (1, .int x), (2, .int y)] := hl
  have hmx := sf_max hT hS8
  have hwtk := cl_nI (hwt n hnw) (by omega)
  have hwxk := cl_nI (hwx n hnw) (by omega)
  refine lv_aload_n hx hb dX3_cut_0 rfl (lv_at hl 0 rfl) ?_
  refine va_get (D := D) (ci := 4) (v := .int (nI 0)) (C := RX3) (T := TX3) (N := 8) hx hb hts (by decide +kernel) hown hK hP 0 rfl rfl 7 (by decide) (hts (.fieldLink RX3 50 "TrackDisk" "down" "Z") (by decide +kernel)) (fun _ h9 => h9) rfl dX3_cut_1 ?_
  refine lv_if_eq (tgt := 8) hx hb dX3_cut_4 (by decide) (fun c_4 => ?_) (fun c_4 => ?_)
  · skip
    refine lv_iload_n hx hb dX3_cut_8 rfl (lv_at hl 1 rfl) ?_
    refine lv_iconst (v := nI 0) hx hb dX3_cut_9 (by decide) ?_
    refine lv_aload_n hx hb dX3_cut_10 rfl (lv_at hl 0 rfl) ?_
    refine va_get (D := D) (ci := 4) (v := .ref ((ad 8))) (C := RX3) (T := TX3) (N := 8) hx hb hts (by decide +kernel) hown hK hP 0 rfl rfl 5 (by decide) (hts (.fieldLink RX3 39 "TrackDisk" "waiting" "LTrackDisk$Waiting;") (by decide +kernel)) (fun _ h9 => h9) rfl dX3_cut_11 ?_
    refine va_get (D := D) (ci := 3) (v := .int (nI w)) (C := RX2) (T := TX2) (N := 4) hx hb hts (by decide +kernel) hown hK hP 8 rfl rfl 3 (by decide) (hts (.fieldLink RX3 58 "TrackDisk$Waiting" "size" "I") (by decide +kernel)) (fun _ h9 => h9) rfl dX3_cut_14 ?_
    have hPc := hP.sub (ws' := []) [] rfl
    refine pu_call (va_runS (As := [.int x, .int (nI 0), .int (nI w)]) (rest := []) ⟨hx, hb, hml, hown, hts⟩ (c_held l D κ x (nI 0) (nI w)) (va_cwS 3 hts gX3_cut_X3_held rfl rfl rfl (by decide +kernel) ⟨Nat.le_of_ble_eq_true rfl, Nat.le_of_ble_eq_true rfl⟩) ⟨pu_blind, pu_pre hK hPc⟩ rfl rfl hl.1 rfl (lv_room (Nat.le_of_ble_eq_true rfl)) dX3_cut_17 ⟨Nat.le_of_ble_eq_true rfl, Nat.le_of_ble_eq_true rfl⟩) ?_
    refine tp_i (y := nI n) (hj) ?_
    refine lv_istore_n (lv' := [(3, .int (nI n)), (0, .ref ((ad 0))), (1, .int x), (2, .int y)]) hx hb dX3_cut_20 rfl hl (by decide) rfl (fun ls hl => ?_)
    refine lv_aload_n hx hb dX3_cut_21 rfl (lv_at hl 1 rfl) ?_
    refine lv_iload_n hx hb dX3_cut_22 rfl (lv_at hl 0 rfl) ?_
    have hPc := hP.sub (ws' := tdW κ T S ad bs sm pl r0 r1 tk vo du nd wt wx wb (nI w) tp tn ts (nI 0)) [0, 1, 2, 3, 4, 5, 6, 7, 8, 9, 10, 11, 12, 13] rfl
    have hDc := hD.sub (ws' := tdW κ T S ad bs sm pl r0 r1 tk vo du nd wt wx wb (nI w) tp tn ts (nI 0)) [0, 1, 2, 3, 4, 5, 6, 7, 8, 9, 10, 11, 12, 13] (by decide) rfl
    refine mu_call (wc := tdW κ T S ad bs sm pl r0 r1 tk vo du nd wt wx wb (nI w) tp tn ts (nI 0)) (wc' := tdW κ T S ad ((lyF S pl wt wx wb (bs, sm, r0, r1) n).1) ((lyF S pl wt wx wb (bs, sm, r0, r1) n).2.1) pl ((lyF S pl wt wx wb (bs, sm, r0, r1) n).2.2.1) ((lyF S pl wt wx wb (bs, sm, r0, r1) n).2.2.2) tk vo du nd wt wx wb (nI w) tp tn ts (nI 0)) (ws' := tdW κ T S ad ((lyF S pl wt wx wb (bs, sm, r0, r1) n).1) ((lyF S pl wt wx wb (bs, sm, r0, r1) n).2.1) pl ((lyF S pl wt wx wb (bs, sm, r0, r1) n).2.2.1) ((lyF S pl wt wx wb (bs, sm, r0, r1) n).2.2.2) tk vo du nd wt wx wb (nI w) tp tn ts (nI 0)) (wr := (([] : List Nat).filterMap fun i => (tdW κ T S ad bs sm pl r0 r1 tk vo du nd wt wx wb (nI w) tp tn ts (nI 0))[i]?)) (va_runV (As := [.int (nI n)]) (rest := []) ⟨hx, hb, hml, hown, hts⟩ (c_layFirst l D κ H.size T S ad bs sm pl r0 r1 tk vo du nd wt wx wb (nI w) tp tn ts (nI 0) hT hS8 hpl n (by omega) (fun k hk => hwt k (by omega)) (fun k hk => hwx k (by omega))) (cwV 1 hts gX3_cut_X3_layFirst rfl rfl rfl (by decide +kernel) ⟨Nat.le_of_ble_eq_true rfl, Nat.le_of_ble_eq_true rfl⟩) ⟨mu_blind, va_recv hK hPc (ci := 4) (q0 := 0) rfl rfl, mu_pre hK hPc hDc⟩ rfl rfl hl.1 rfl (lv_room (Nat.le_of_ble_eq_true rfl)) dX3_cut_23 ⟨Nat.le_of_ble_eq_true rfl, Nat.le_of_ble_eq_true rfl⟩) hP hD hS hA [0, 1, 2, 3, 4, 5, 6, 7, 8, 9, 10, 11, 12, 13] [] [0, 1, 2, 3, 4, 5, 6, 7, 8, 9, 10, 11, 12, 13] rfl rfl (by decide) (by decide) rfl rfl (by decide) (fun H locs hP hD hS => ?_)
    refine W.eq (g2 := F0 m 26 ls []) rfl ?_
    refine lv_iload_n hx hb dX3_cut_26 rfl (lv_at hl 0 rfl) ?_
    refine lv_aload_n hx hb dX3_cut_27 rfl (lv_at hl 1 rfl) ?_
    refine va_get (D := D) (ci := 4) (v := .ref ((ad 8))) (C := RX3) (T := TX3) (N := 8) hx hb hts (by decide +kernel) hown hK hP 0 rfl rfl 5 (by decide) (hts (.fieldLink RX3 39 "TrackDisk" "waiting" "LTrackDisk$Waiting;") (by decide +kernel)) (fun _ h9 => h9) rfl dX3_cut_28 ?_
    refine va_get (D := D) (ci := 3) (v := .int (nI w)) (C := RX2) (T := TX2) (N := 4) hx hb hts (by decide +kernel) hown hK hP 8 rfl rfl 3 (by decide) (hts (.fieldLink RX3 58 "TrackDisk$Waiting" "size" "I") (by decide +kernel)) (fun _ h9 => h9) rfl dX3_cut_31 ?_
    refine lv_icmp_ge (tgt := 78) hx hb dX3_cut_34 (by decide) (fun c_34 => ?_) (fun c_34 => ?_)
    · exact absurd c_34 (nI_ge hnw (by omega))
    · skip
      refine lv_aload_n hx hb dX3_cut_37 rfl (lv_at hl 1 rfl) ?_
      refine va_get (D := D) (ci := 4) (v := .ref ((ad 1))) (C := RX3) (T := TX3) (N := 8) hx hb hts (by decide +kernel) hown hK hP 0 rfl rfl 2 (by decide) (hts (.fieldLink RX3 25 "TrackDisk" "disk" "LTrackDisk$Surface;") (by decide +kernel)) (fun _ h9 => h9) rfl dX3_cut_38 ?_
      refine lv_aload_n hx hb dX3_cut_41 rfl (lv_at hl 1 rfl) ?_
      refine va_get (D := D) (ci := 4) (v := .ref ((ad 8))) (C := RX3) (T := TX3) (N := 8) hx hb hts (by decide +kernel) hown hK hP 0 rfl rfl 5 (by decide) (hts (.fieldLink RX3 39 "TrackDisk" "waiting" "LTrackDisk$Waiting;") (by decide +kernel)) (fun _ h9 => h9) rfl dX3_cut_42 ?_
      refine va_get (D := D) (ci := 3) (v := .ref ((ad 9))) (C := RX2) (T := TX2) (N := 4) hx hb hts (by decide +kernel) hown hK hP 8 rfl rfl 0 (by decide) (hts (.fieldLink RX3 91 "TrackDisk$Waiting" "track" "[I") (by decide +kernel)) (fun _ h9 => h9) rfl dX3_cut_45 ?_
      refine lv_iload_n hx hb dX3_cut_48 rfl (lv_at hl 0 rfl) ?_
      refine va_iald hx hb hK hP 9 0 rfl rfl (vp_in_nI (by omega) (by omega)) dX3_cut_49 ?_
      refine tp_i (y := nI (cl (wt n))) (by rw [nI_clamp (by omega)]; exact hwtk.1) ?_
      refine lv_aload_n hx hb dX3_cut_50 rfl (lv_at hl 1 rfl) ?_
      refine va_get (D := D) (ci := 4) (v := .ref ((ad 8))) (C := RX3) (T := TX3) (N := 8) hx hb hts (by decide +kernel) hown hK hP 0 rfl rfl 5 (by decide) (hts (.fieldLink RX3 39 "TrackDisk" "waiting" "LTrackDisk$Waiting;") (by decide +kernel)) (fun _ h9 => h9) rfl dX3_cut_51 ?_
      refine va_get (D := D) (ci := 3) (v := .ref ((ad 10))) (C := RX2) (T := TX2) (N := 4) hx hb hts (by decide +kernel) hown hK hP 8 rfl rfl 1 (by decide) (hts (.fieldLink RX3 95 "TrackDisk$Waiting" "sector" "[I") (by decide +kernel)) (fun _ h9 => h9) rfl dX3_cut_54 ?_
      refine lv_iload_n hx hb dX3_cut_57 rfl (lv_at hl 0 rfl) ?_
      refine va_iald hx hb hK hP 10 0 rfl rfl (vp_in_nI (by omega) (by omega)) dX3_cut_58 ?_
      refine tp_i (y := nI (cl (wx n))) (by rw [nI_clamp (by omega)]; exact hwxk.1) ?_
      refine lv_aload_n hx hb dX3_cut_59 rfl (lv_at hl 1 rfl) ?_
      refine va_get (D := D) (ci := 4) (v := .ref ((ad 8))) (C := RX3) (T := TX3) (N := 8) hx hb hts (by decide +kernel) hown hK hP 0 rfl rfl 5 (by decide) (hts (.fieldLink RX3 39 "TrackDisk" "waiting" "LTrackDisk$Waiting;") (by decide +kernel)) (fun _ h9 => h9) rfl dX3_cut_60 ?_
      refine va_get (D := D) (ci := 3) (v := .ref ((ad 11))) (C := RX2) (T := TX2) (N := 4) hx hb hts (by decide +kernel) hown hK hP 8 rfl rfl 2 (by decide) (hts (.fieldLink RX3 98 "TrackDisk$Waiting" "first" "[B") (by decide +kernel)) (fun _ h9 => h9) rfl dX3_cut_63 ?_
      refine lv_iload_n hx hb dX3_cut_66 rfl (lv_at hl 0 rfl) ?_
      refine va_bald hx hb hK hP 11 1 rfl rfl (vp_in_nI (by omega) (by omega)) dX3_cut_67 ?_
      refine tp_i (y := wb n) (by rw [nI_clamp (by omega)]) ?_
      refine lv_iload_n hx hb dX3_cut_68 rfl (lv_at hl 3 rfl) ?_
      refine lv_iconst (v := nI 0) hx hb dX3_cut_69 (by decide) ?_
      refine lv_bipush (v := nI 16) hx hb dX3_cut_70 (by decide) ?_
      have hPc := hP.sub (ws' := []) [] rfl
      refine pu_call (va_runS (As := [.int y, .int (nI 0), .int (nI 16)]) (rest := [.int (wb n), .int (nI (cl (wx n))), .int (nI (cl (wt n))), .ref ((ad 1))]) ⟨hx, hb, hml, hown, hts⟩ (c_held l D κ y (nI 0) (nI 16)) (va_cwS 3 hts gX3_cut_X3_held rfl rfl rfl (by decide +kernel) ⟨Nat.le_of_ble_eq_true rfl, Nat.le_of_ble_eq_true rfl⟩) ⟨pu_blind, pu_pre hK hPc⟩ rfl rfl hl.1 rfl (lv_room (Nat.le_of_ble_eq_true rfl)) dX3_cut_72 ⟨Nat.le_of_ble_eq_true rfl, Nat.le_of_ble_eq_true rfl⟩) ?_
      refine tp_i (y := nI g) (hg) ?_
      have hPc := hP.sub (ws' := sfW κ T S (fun j => ad (j + 1)) ((lyF S pl wt wx wb (bs, sm, r0, r1) n).1) ((lyF S pl wt wx wb (bs, sm, r0, r1) n).2.1) pl ((lyF S pl wt wx wb (bs, sm, r0, r1) n).2.2.1) ((lyF S pl wt wx wb (bs, sm, r0, r1) n).2.2.2) tk vo) [1, 2, 3, 4, 5, 6] rfl
      have hDc := hD.sub (ws' := sfW κ T S (fun j => ad (j + 1)) ((lyF S pl wt wx wb (bs, sm, r0, r1) n).1) ((lyF S pl wt wx wb (bs, sm, r0, r1) n).2.1) pl ((lyF S pl wt wx wb (bs, sm, r0, r1) n).2.2.1) ((lyF S pl wt wx wb (bs, sm, r0, r1) n).2.2.2) tk vo) [1, 2, 3, 4, 5, 6] (by decide) rfl
      refine mu_call (wc := sfW κ T S (fun j => ad (j + 1)) ((lyF S pl wt wx wb (bs, sm, r0, r1) n).1) ((lyF S pl wt wx wb (bs, sm, r0, r1) n).2.1) pl ((lyF S pl wt wx wb (bs, sm, r0, r1) n).2.2.1) ((lyF S pl wt wx wb (bs, sm, r0, r1) n).2.2.2) tk vo) (wc' := sfW κ T S (fun j => ad (j + 1)) (flF (lyF S pl wt wx wb (bs, sm, r0, r1) n).1 ((cl (pl (cl (wt n))) * S + cl (wx n)) * 16) (wb n) g) ((lyF S pl wt wx wb (bs, sm, r0, r1) n).2.1) pl (upd (lyF S pl wt wx wb (bs, sm, r0, r1) n).2.2.1 (cl (wt n)) (nI 1)) ((lyF S pl wt wx wb (bs, sm, r0, r1) n).2.2.2) tk vo) (ws' := tdW κ T S ad (flF (lyF S pl wt wx wb (bs, sm, r0, r1) n).1 ((cl (pl (cl (wt n))) * S + cl (wx n)) * 16) (wb n) g) ((lyF S pl wt wx wb (bs, sm, r0, r1) n).2.1) pl (upd (lyF S pl wt wx wb (bs, sm, r0, r1) n).2.2.1 (cl (wt n)) (nI 1)) ((lyF S pl wt wx wb (bs, sm, r0, r1) n).2.2.2) tk vo du nd wt wx wb (nI w) tp tn ts (nI 0)) (wr := (([0, 7, 8, 9, 10, 11, 12, 13] : List Nat).filterMap fun i => (tdW κ T S ad ((lyF S pl wt wx wb (bs, sm, r0, r1) n).1) ((lyF S pl wt wx wb (bs, sm, r0, r1) n).2.1) pl ((lyF S pl wt wx wb (bs, sm, r0, r1) n).2.2.1) ((lyF S pl wt wx wb (bs, sm, r0, r1) n).2.2.2) tk vo du nd wt wx wb (nI w) tp tn ts (nI 0))[i]?)) (va_runV (As := [.int (nI (cl (wt n))), .int (nI (cl (wx n))), .int (wb n), .int (nI g)]) (rest := []) ⟨hx, hb, hml, hown, hts⟩ (c_layTorn l D κ H.size T S (fun j => ad (j + 1)) ((lyF S pl wt wx wb (bs, sm, r0, r1) n).1) ((lyF S pl wt wx wb (bs, sm, r0, r1) n).2.1) pl ((lyF S pl wt wx wb (bs, sm, r0, r1) n).2.2.1) ((lyF S pl wt wx wb (bs, sm, r0, r1) n).2.2.2) tk vo hT hS8 hpl (cl (wt n)) (cl (wx n)) hwtk.2 hwxk.2 (wb n) g hg6) (cwV 4 hts gX3_cut_X1_layTorn rfl rfl rfl (by decide +kernel) ⟨Nat.le_of_ble_eq_true rfl, Nat.le_of_ble_eq_true rfl⟩) ⟨mu_blind, va_recv hK hPc (ci := 2) (q0 := 0) rfl rfl, mu_pre hK hPc hDc⟩ rfl rfl hl.1 rfl (lv_room (Nat.le_of_ble_eq_true rfl)) dX3_cut_75 ⟨Nat.le_of_ble_eq_true rfl, Nat.le_of_ble_eq_true rfl⟩) hP hD hS hA [1, 2, 3, 4, 5, 6] [0, 7, 8, 9, 10, 11, 12, 13] [0, 8, 9, 10, 11, 12, 13, 1, 2, 3, 4, 5, 6, 7] rfl rfl (by decide) (by decide) rfl rfl (by decide) (fun H locs hP hD hS => ?_)
      refine W.eq (g2 := F0 m 78 ls []) rfl ?_
      refine lv_aload_n hx hb dX3_cut_78 rfl (lv_at hl 1 rfl) ?_
      refine va_get (D := D) (ci := 4) (v := .ref ((ad 8))) (C := RX3) (T := TX3) (N := 8) hx hb hts (by decide +kernel) hown hK hP 0 rfl rfl 5 (by decide) (hts (.fieldLink RX3 39 "TrackDisk" "waiting" "LTrackDisk$Waiting;") (by decide +kernel)) (fun _ h9 => h9) rfl dX3_cut_79 ?_
      have hPc := hP.sub (ws' := waW κ (fun j => ad (j + 8)) wt wx wb (nI w)) [8, 9, 10, 11] rfl
      have hDc := hD.sub (ws' := waW κ (fun j => ad (j + 8)) wt wx wb (nI w)) [8, 9, 10, 11] (by decide) rfl
      refine mu_call (wc := waW κ (fun j => ad (j + 8)) wt wx wb (nI w)) (wc' := waW κ (fun j => ad (j + 8)) wt wx wb (nI 0)) (ws' := tdW κ T S ad (flF (lyF S pl wt wx wb (bs, sm, r0, r1) n).1 ((cl (pl (cl (wt n))) * S + cl (wx n)) * 16) (wb n) g) ((lyF S pl wt wx wb (bs, sm, r0, r1) n).2.1) pl (upd (lyF S pl wt wx wb (bs, sm, r0, r1) n).2.2.1 (cl (wt n)) (nI 1)) ((lyF S pl wt wx wb (bs, sm, r0, r1) n).2.2.2) tk vo du nd wt wx wb (nI 0) tp tn ts (nI 0)) (wr := (([0, 1, 2, 3, 4, 5, 6, 7, 12, 13] : List Nat).filterMap fun i => (tdW κ T S ad (flF (lyF S pl wt wx wb (bs, sm, r0, r1) n).1 ((cl (pl (cl (wt n))) * S + cl (wx n)) * 16) (wb n) g) ((lyF S pl wt wx wb (bs, sm, r0, r1) n).2.1) pl (upd (lyF S pl wt wx wb (bs, sm, r0, r1) n).2.2.1 (cl (wt n)) (nI 1)) ((lyF S pl wt wx wb (bs, sm, r0, r1) n).2.2.2) tk vo du nd wt wx wb (nI w) tp tn ts (nI 0))[i]?)) (va_runV (As := []) (rest := []) ⟨hx, hb, hml, hown, hts⟩ (c_drop l D κ H.size (fun j => ad (j + 8)) wt wx wb (nI w)) (cwV 0 hts gX3_cut_X2_drop rfl rfl rfl (by decide +kernel) ⟨Nat.le_of_ble_eq_true rfl, Nat.le_of_ble_eq_true rfl⟩) ⟨mu_blind, va_recv hK hPc (ci := 3) (q0 := 0) rfl rfl, mu_pre hK hPc hDc⟩ rfl rfl hl.1 rfl (lv_room (Nat.le_of_ble_eq_true rfl)) dX3_cut_82 ⟨Nat.le_of_ble_eq_true rfl, Nat.le_of_ble_eq_true rfl⟩) hP hD hS hA [8, 9, 10, 11] [0, 1, 2, 3, 4, 5, 6, 7, 12, 13] [0, 1, 2, 3, 4, 5, 6, 7, 10, 11, 12, 13, 8, 9] rfl rfl (by decide) (by decide) rfl rfl (by decide) (fun H locs hP hD hS => ?_)
      refine W.eq (g2 := F0 m 85 ls []) rfl ?_
      refine lv_aload_n hx hb dX3_cut_85 rfl (lv_at hl 1 rfl) ?_
      refine lv_iconst (v := nI 1) hx hb dX3_cut_86 (by decide) ?_
      refine va_put (D := D) (ci := 4) (v := .int (nI 1)) (ty := .boolean) (C := RX3) (T := TX3) (N := 8) hx hb hts (by decide +kernel) tyX3 tyX3_ok nmX3 hown hK hP hD hS 0 rfl rfl 7 (by decide) (hts (.fieldLink RX3 50 "TrackDisk" "down" "Z") (by decide +kernel)) (fun _ h9 => h9) rfl (by decide +kernel) rfl rfl (Nat.le_of_ble_eq_true rfl) dX3_cut_87 (fun H locs hP hD hS => ?_)
      have hP : va_P D vwCl (tdW κ T S ad (flF (lyF S pl wt wx wb (bs, sm, r0, r1) n).1 ((cl (pl (cl (wt n))) * S + cl (wx n)) * 16) (wb n) g) ((lyF S pl wt wx wb (bs, sm, r0, r1) n).2.1) pl (upd (lyF S pl wt wx wb (bs, sm, r0, r1) n).2.2.1 (cl (wt n)) (nI 1)) ((lyF S pl wt wx wb (bs, sm, r0, r1) n).2.2.2) tk vo du nd wt wx wb (nI 0) tp tn ts (nI 1)) H := hP
      have hD : va_D A (tdW κ T S ad (flF (lyF S pl wt wx wb (bs, sm, r0, r1) n).1 ((cl (pl (cl (wt n))) * S + cl (wx n)) * 16) (wb n) g) ((lyF S pl wt wx wb (bs, sm, r0, r1) n).2.1) pl (upd (lyF S pl wt wx wb (bs, sm, r0, r1) n).2.2.1 (cl (wt n)) (nI 1)) ((lyF S pl wt wx wb (bs, sm, r0, r1) n).2.2.2) tk vo du nd wt wx wb (nI 0) tp tn ts (nI 1)) := hD
      have hP9 : va_P D vwCl (tdW κ T S ad (flF (lyF S pl wt wx wb (bs, sm, r0, r1) n).1 ((cl (pl (cl (wt n))) * S + cl (wx n)) * 16) (wb n) g) ((lyF S pl wt wx wb (bs, sm, r0, r1) n).2.1) pl (upd (lyF S pl wt wx wb (bs, sm, r0, r1) n).2.2.1 (cl (wt n)) (nI 1)) ((lyF S pl wt wx wb (bs, sm, r0, r1) n).2.2.2) tk vo du nd wt wx wb (nI 0) tp tn ts (nI 1)) H := hP
      have hD9 : va_D A (tdW κ T S ad (flF (lyF S pl wt wx wb (bs, sm, r0, r1) n).1 ((cl (pl (cl (wt n))) * S + cl (wx n)) * 16) (wb n) g) ((lyF S pl wt wx wb (bs, sm, r0, r1) n).2.1) pl (upd (lyF S pl wt wx wb (bs, sm, r0, r1) n).2.2.1 (cl (wt n)) (nI 1)) ((lyF S pl wt wx wb (bs, sm, r0, r1) n).2.2.2) tk vo du nd wt wx wb (nI 0) tp tn ts (nI 1)) := hD
      exact W.vret hx hb hr (fun t ht _ => ⟨⟨rfl, by rw [ht]; exact hP9, hD9⟩, hS.F ht⟩) hS.2.2 dX3_cut_90 hlocks
  · exact absurd (by decide) c_4

set_option maxHeartbeats 4000000 in
set_option maxRecDepth 100000 in
/-- start: up -/
theorem c_start_up (l : Launch) (D : va_G) (κ : Nat → ClassId) (sz : Nat) (T S : Nat) (ad : Nat → Nat) (bs sm pl r0 r1 : Nat → Int32) (tk vo : Int32) (du : Nat → Option Nat) (nd : Int32) (wt wx wb : Nat → Int32) (wn : Int32) (tp : Nat → Int32) (tn ts : Int32)   : Met l yX3_start wsX3_start ({ frames := 0, cells := 0, slots := 0, locals := 0 }) (va_Pc [.ref ((ad 0))] (mu_B D κ (tdW κ T S ad bs sm pl r0 r1 tk vo du nd wt wx wb wn tp tn ts (nI 0)) sz)) (mu_Q D (some (.int ((-5)))) (tdW κ T S ad bs sm pl r0 r1 tk vo du nd wt wx wb wn tp tn ts (nI 0)) (va_A (tdW κ T S ad bs sm pl r0 r1 tk vo du nd wt wx wb wn tp tn ts (nI 0)) sz)) 0 0 (va_A (tdW κ T S ad bs sm pl r0 r1 tk vo du nd wt wx wb wn tp tn ts (nI 0)) sz) := by
  refine Met.ofW (cc := cX3_start) (maxL := 1) (ret := (some .int)) (by decide) rfl ?_
  intro p e s m args below meth c s₁ B hml hv
  obtain ⟨rfl, hsz, hP, hK, hD0⟩ := hv
  have hx := B.exec
  have hb := B.bytes
  have hr := B.returns
  have hts := atoms_spec (ws := wsX3_start) B.pre
  have hown : s.vm.findClass RX3 = some m.cls := findClass_of_methodNamed B.named
  have hlocks := B.notSynchronized
  subst hsz
  have hD := hD0.self (sz := s.heap.size)
  generalize hAe : va_A (tdW κ T S ad bs sm pl r0 r1 tk vo du nd wt wx wb wn tp tn ts (nI 0)) s.heap.size = A at hD ⊢
  have hA : ∀ q : Nat, s.heap.size ≤ q → A q := fun q h => by rw [← hAe]; exact Or.inr h
  refine W.gen (P := fun H locs => va_P D vwCl (tdW κ T S ad bs sm pl r0 r1 tk vo du nd wt wx wb wn tp tn ts (nI 0)) H ∧ va_S A s.heap H locs) (fun H locs h => ?_) ⟨hP, va_S.rf⟩
  clear hP
  obtain ⟨hP, hS⟩ := h
  have hl := lv_entry ([.ref ((ad 0))]) (n := 1) (Nat.le_of_ble_eq_true rfl)
  rw [lg_entry_eq]
  generalize (lg_sl ([.ref ((ad 0))]) ++ List.replicate (1 - (lg_sl ([.ref ((ad 0))])).length) Slot.unset).toArray = ls at hl ⊢
  have hl : lv_has ls 1 [(0, .ref ((ad 0)))] := hl
  refine lv_aload_n hx hb dX3_start_0 rfl (lv_at hl 0 rfl) ?_
  refine va_get (D := D) (ci := 4) (v := .int (nI 0)) (C := RX3) (T := TX3) (N := 8) hx hb hts (by decide +kernel) hown hK hP 0 rfl rfl 7 (by decide) (hts (.fieldLink RX3 50 "TrackDisk" "down" "Z") (by decide +kernel)) (fun _ h9 => h9) rfl dX3_start_1 ?_
  refine lv_if_ne (tgt := 10) hx hb dX3_start_4 (by decide) (fun c_4 => ?_) (fun c_4 => ?_)
  · exact absurd (by decide) c_4
  · skip
    refine lv_bipush (v := (-5)) hx hb dX3_start_7 (by decide) ?_
    have hP9 : va_P D vwCl (tdW κ T S ad bs sm pl r0 r1 tk vo du nd wt wx wb wn tp tn ts (nI 0)) H := hP
    have hD9 : va_D A (tdW κ T S ad bs sm pl r0 r1 tk vo du nd wt wx wb wn tp tn ts (nI 0)) := hD
    exact W.iret hx hb hr (fun t ht _ => ⟨⟨rfl, by rw [ht]; exact hP9, hD9⟩, hS.F ht⟩) hS.2.2 dX3_start_9 hlocks

set_option maxHeartbeats 4000000 in
set_option maxRecDepth 100000 in
/-- start -/
theorem c_start (l : Launch) (D : va_G) (κ : Nat → ClassId) (sz : Nat) (T S : Nat) (ad : Nat → Nat) (bs sm pl r0 r1 : Nat → Int32) (tk vo : Int32) (du : Nat → Option Nat) (nd : Int32) (wt wx wb : Nat → Int32) (wn : Int32) (tp : Nat → Int32) (tn ts : Int32)  (hT : T ≤ 12) (hS8 : S ≤ 8) (hpl : ∀ t, t < T → vp_in (pl t) (T + 2))  : Met l yX3_start wsX3_start ({ frames := 4, cells := 0, slots := 0, locals := 94 }) (va_Pc [.ref ((ad 0))] (mu_B D κ (tdW κ T S ad bs sm pl r0 r1 tk vo du nd wt wx wb wn tp tn ts (nI 1)) sz)) (mu_Q D (some (.int (nI (cn2 (iwF bs sm pl S) S T)))) (tdW κ T S ad bs sm pl r0 r1 tk vo du nd wt wx wb wn tp tn ts (nI 0)) (va_A (tdW κ T S ad bs sm pl r0 r1 tk vo du nd wt wx wb wn tp tn ts (nI 1)) sz)) 0 0 (va_A (tdW κ T S ad bs sm pl r0 r1 tk vo du nd wt wx wb wn tp tn ts (nI 1)) sz) := by
  refine Met.ofW (cc := cX3_start) (maxL := 1) (ret := (some .int)) (by decide) rfl ?_
  intro p e s m args below meth c s₁ B hml hv
  obtain ⟨rfl, hsz, hP, hK, hD0⟩ := hv
  have hx := B.exec
  have hb := B.bytes
  have hr := B.returns
  have hts := atoms_spec (ws := wsX3_start) B.pre
  have hown : s.vm.findClass RX3 = some m.cls := findClass_of_methodNamed B.named
  have hlocks := B.notSynchronized
  subst hsz
  have hD := hD0.self (sz := s.heap.size)
  generalize hAe : va_A (tdW κ T S ad bs sm pl r0 r1 tk vo du nd wt wx wb wn tp tn ts (nI 1)) s.heap.size = A at hD ⊢
  have hA : ∀ q : Nat, s.heap.size ≤ q → A q := fun q h => by rw [← hAe]; exact Or.inr h
  refine W.gen (P := fun H locs => va_P D vwCl (tdW κ T S ad bs sm pl r0 r1 tk vo du nd wt wx wb wn tp tn ts (nI 1)) H ∧ va_S A s.heap H locs) (fun H locs h => ?_) ⟨hP, va_S.rf⟩
  clear hP
  obtain ⟨hP, hS⟩ := h
  have hl := lv_entry ([.ref ((ad 0))]) (n := 1) (Nat.le_of_ble_eq_true rfl)
  rw [lg_entry_eq]
  generalize (lg_sl ([.ref ((ad 0))]) ++ List.replicate (1 - (lg_sl ([.ref ((ad 0))])).length) Slot.unset).toArray = ls at hl ⊢
  have hl : lv_has ls 1 [(0, .ref ((ad 0)))] := hl
  refine lv_aload_n hx hb dX3_start_0 rfl (lv_at hl 0 rfl) ?_
  refine va_get (D := D) (ci := 4) (v := .int (nI 1)) (C := RX3) (T := TX3) (N := 8) hx hb hts (by decide +kernel) hown hK hP 0 rfl rfl 7 (by decide) (hts (.fieldLink RX3 50 "TrackDisk" "down" "Z") (by decide +kernel)) (fun _ h9 => h9) rfl dX3_start_1 ?_
  refine lv_if_ne (tgt := 10) hx hb dX3_start_4 (by decide) (fun c_4 => ?_) (fun c_4 => ?_)
  · skip
    refine lv_aload_n hx hb dX3_start_10 rfl (lv_at hl 0 rfl) ?_
    refine lv_iconst (v := nI 0) hx hb dX3_start_11 (by decide) ?_
    refine va_put (D := D) (ci := 4) (v := .int (nI 0)) (ty := .boolean) (C := RX3) (T := TX3) (N := 8) hx hb hts (by decide +kernel) tyX3 tyX3_ok nmX3 hown hK hP hD hS 0 rfl rfl 7 (by decide) (hts (.fieldLink RX3 50 "TrackDisk" "down" "Z") (by decide +kernel)) (fun _ h9 => h9) rfl (by decide +kernel) rfl rfl (Nat.le_of_ble_eq_true rfl) dX3_start_12 (fun H locs hP hD hS => ?_)
    have hP : va_P D vwCl (tdW κ T S ad bs sm pl r0 r1 tk vo du nd wt wx wb wn tp tn ts (nI 0)) H := hP
    have hD : va_D A (tdW κ T S ad bs sm pl r0 r1 tk vo du nd wt wx wb wn tp tn ts (nI 0)) := hD
    refine lv_aload_n hx hb dX3_start_15 rfl (lv_at hl 0 rfl) ?_
    refine va_get (D := D) (ci := 4) (v := .ref ((ad 1))) (C := RX3) (T := TX3) (N := 8) hx hb hts (by decide +kernel) hown hK hP 0 rfl rfl 2 (by decide) (hts (.fieldLink RX3 25 "TrackDisk" "disk" "LTrackDisk$Surface;") (by decide +kernel)) (fun _ h9 => h9) rfl dX3_start_16 ?_
    have hPc := hP.sub (ws' := sfW κ T S (fun j => ad (j + 1)) bs sm pl r0 r1 tk vo) [1, 2, 3, 4, 5, 6] rfl
    refine pu_call (va_runV (As := []) (rest := []) ⟨hx, hb, hml, hown, hts⟩ (c_wrongSectors l D κ T S (fun j => ad (j + 1)) bs sm pl r0 r1 tk vo hT hS8 hpl) (cwV 0 hts gX3_start_X1_wrongSectors rfl rfl rfl (by decide +kernel) ⟨Nat.le_of_ble_eq_true rfl, Nat.le_of_ble_eq_true rfl⟩) ⟨pu_blind, va_recv hK hPc (ci := 2) (q0 := 0) rfl rfl, pu_pre hK hPc⟩ rfl rfl hl.1 rfl (lv_room (Nat.le_of_ble_eq_true rfl)) dX3_start_19 ⟨Nat.le_of_ble_eq_true rfl, Nat.le_of_ble_eq_true rfl⟩) ?_
    have hP9 : va_P D vwCl (tdW κ T S ad bs sm pl r0 r1 tk vo du nd wt wx wb wn tp tn ts (nI 0)) H := hP
    have hD9 : va_D A (tdW κ T S ad bs sm pl r0 r1 tk vo du nd wt wx wb wn tp tn ts (nI 0)) := hD
    exact W.iret hx hb hr (fun t ht _ => ⟨⟨rfl, by rw [ht]; exact hP9, hD9⟩, hS.F ht⟩) hS.2.2 dX3_start_22 hlocks
  · exact absurd c_4 (by decide)

set_option maxHeartbeats 4000000 in
set_option maxRecDepth 100000 in
/-- space: none -/
theorem c_space_no (l : Launch) (D : va_G) (κ : Nat → ClassId) (sz : Nat) (T S : Nat) (ad : Nat → Nat) (bs sm pl r0 r1 : Nat → Int32) (tk vo : Int32) (du : Nat → Option Nat) (nd : Int32) (wt wx wb : Nat → Int32) (wn : Int32) (tp : Nat → Int32) (tn ts dn : Int32) (x y : Int32) (hno : (inF x 2 && inF y T) = false) : Met l yX3_space wsX3_space ({ frames := 1, cells := 0, slots := 0, locals := 21 }) (va_Pc [.ref ((ad 0)), .int x, .int y] (mu_B D κ (tdW κ T S ad bs sm pl r0 r1 tk vo du nd wt wx wb wn tp tn ts dn) sz)) (mu_Q D (some (.int ((-2)))) (tdW κ T S ad bs sm pl r0 r1 tk vo du nd wt wx wb wn tp tn ts dn) (va_A (tdW κ T S ad bs sm pl r0 r1 tk vo du nd wt wx wb wn tp tn ts dn) sz)) 0 0 (va_A (tdW κ T S ad bs sm pl r0 r1 tk vo du nd wt wx wb wn tp tn ts dn) sz) := by
  refine Met.ofW (cc := cX3_space) (maxL := 3) (ret := (some .int)) (by decide) rfl ?_
  intro p e s m args below meth c s₁ B hml hv
  obtain ⟨rfl, hsz, hP, hK, hD0⟩ := hv
  have hx := B.exec
  have hb := B.bytes
  have hr := B.returns
  have hts := atoms_spec (ws := wsX3_space) B.pre
  have hown : s.vm.findClass RX3 = some m.cls := findClass_of_methodNamed B.named
  have hlocks := B.notSynchronized
  subst hsz
  have hD := hD0.self (sz := s.heap.size)
  generalize hAe : va_A (tdW κ T S ad bs sm pl r0 r1 tk vo du nd wt wx wb wn tp tn ts dn) s.heap.size = A at hD ⊢
  have hA : ∀ q : Nat, s.heap.size ≤ q → A q := fun q h => by rw [← hAe]; exact Or.inr h
  refine W.gen (P := fun H locs => va_P D vwCl (tdW κ T S ad bs sm pl r0 r1 tk vo du nd wt wx wb wn tp tn ts dn) H ∧ va_S A s.heap H locs) (fun H locs h => ?_) ⟨hP, va_S.rf⟩
  clear hP
  obtain ⟨hP, hS⟩ := h
  have hl := lv_entry ([.ref ((ad 0)), .int x, .int y]) (n := 3) (Nat.le_of_ble_eq_true rfl)
  rw [lg_entry_eq]
  generalize (lg_sl ([.ref ((ad 0)), .int x, .int y]) ++ List.replicate (3 - (lg_sl ([.ref ((ad 0)), .int x, .int y])).length) Slot.unset).toArray = ls at hl ⊢
  have hl : lv_has ls 3 [(0, .ref ((ad 0))), (1, .int x), (2, .int y)] := hl
  refine lv_iload_n hx hb dX3_space_0 rfl (lv_at hl 1 rfl) ?_
  refine lv_if_lt (tgt := 17) hx hb dX3_space_1 (by decide) (fun c_1 => ?_) (fun c_1 => ?_)
  · skip
    refine lv_bipush (v := (-2)) hx hb dX3_space_17 (by decide) ?_
    have hP9 : va_P D vwCl (tdW κ T S ad bs sm pl r0 r1 tk vo du nd wt wx wb wn tp tn ts dn) H := hP
    have hD9 : va_D A (tdW κ T S ad bs sm pl r0 r1 tk vo du nd wt wx wb wn tp tn ts dn) := hD
    exact W.iret hx hb hr (fun t ht _ => ⟨⟨rfl, by rw [ht]; exact hP9, hD9⟩, hS.F ht⟩) hS.2.2 dX3_space_19 hlocks
  · skip
    refine lv_iload_n hx hb dX3_space_4 rfl (lv_at hl 1 rfl) ?_
    refine lv_iconst (v := nI 1) hx hb dX3_space_5 (by decide) ?_
    refine lv_icmp_gt (tgt := 17) hx hb dX3_space_6 (by decide) (fun c_6 => ?_) (fun c_6 => ?_)
    · skip
      refine lv_bipush (v := (-2)) hx hb dX3_space_17 (by decide) ?_
      have hP9 : va_P D vwCl (tdW κ T S ad bs sm pl r0 r1 tk vo du nd wt wx wb wn tp tn ts dn) H := hP
      have hD9 : va_D A (tdW κ T S ad bs sm pl r0 r1 tk vo du nd wt wx wb wn tp tn ts dn) := hD
      exact W.iret hx hb hr (fun t ht _ => ⟨⟨rfl, by rw [ht]; exact hP9, hD9⟩, hS.F ht⟩) hS.2.2 dX3_space_19 hlocks
    · skip
      refine lv_aload_n hx hb dX3_space_9 rfl (lv_at hl 0 rfl) ?_
      refine lv_iload_n hx hb dX3_space_10 rfl (lv_at hl 2 rfl) ?_
      have hPc := hP.sub (ws' := tdW κ T S ad bs sm pl r0 r1 tk vo du nd wt wx wb wn tp tn ts dn) [0, 1, 2, 3, 4, 5, 6, 7, 8, 9, 10, 11, 12, 13] rfl
      refine pu_call (va_runV (As := [.int y]) (rest := []) ⟨hx, hb, hml, hown, hts⟩ (c_hasTrack l D κ T S ad bs sm pl r0 r1 tk vo du nd wt wx wb wn tp tn ts dn y) (cwV 1 hts gX3_space_X3_hasTrack rfl rfl rfl (by decide +kernel) ⟨Nat.le_of_ble_eq_true rfl, Nat.le_of_ble_eq_true rfl⟩) ⟨pu_blind, va_recv hK hPc (ci := 4) (q0 := 0) rfl rfl, pu_pre hK hPc⟩ rfl rfl hl.1 rfl (lv_room (Nat.le_of_ble_eq_true rfl)) dX3_space_11 ⟨Nat.le_of_ble_eq_true rfl, Nat.le_of_ble_eq_true rfl⟩) ?_
      refine lv_if_ne (tgt := 20) hx hb dX3_space_14 (by decide) (fun c_14 => ?_) (fun c_14 => ?_)
      · exact absurd hno (by rw [bI_ne c_14, inF_t c_1 (fun q => c_6 (Int32.lt_of_lt_of_le (by decide) q))]; decide)
      · skip
        refine lv_bipush (v := (-2)) hx hb dX3_space_17 (by decide) ?_
        have hP9 : va_P D vwCl (tdW κ T S ad bs sm pl r0 r1 tk vo du nd wt wx wb wn tp tn ts dn) H := hP
        have hD9 : va_D A (tdW κ T S ad bs sm pl r0 r1 tk vo du nd wt wx wb wn tp tn ts dn) := hD
        exact W.iret hx hb hr (fun t ht _ => ⟨⟨rfl, by rw [ht]; exact hP9, hD9⟩, hS.F ht⟩) hS.2.2 dX3_space_19 hlocks

set_option maxHeartbeats 4000000 in
set_option maxRecDepth 100000 in
/-- space 0 -/
theorem c_space_0 (l : Launch) (D : va_G) (κ : Nat → ClassId) (sz : Nat) (T S : Nat) (ad : Nat → Nat) (bs sm pl r0 r1 : Nat → Int32) (tk vo : Int32) (du : Nat → Option Nat) (nd : Int32) (wt wx wb : Nat → Int32) (wn : Int32) (tp : Nat → Int32) (tn ts dn : Int32) (hT : T ≤ 12) (hS8 : S ≤ 8) (t : Nat) (ht : t < T) : Met l yX3_space wsX3_space ({ frames := 1, cells := 0, slots := 0, locals := 21 }) (va_Pc [.ref ((ad 0)), .int (nI 0), .int (nI t)] (mu_B D κ (tdW κ T S ad bs sm pl r0 r1 tk vo du nd wt wx wb wn tp tn ts dn) sz)) (mu_Q D (some (.int (r0 t))) (tdW κ T S ad bs sm pl r0 r1 tk vo du nd wt wx wb wn tp tn ts dn) (va_A (tdW κ T S ad bs sm pl r0 r1 tk vo du nd wt wx wb wn tp tn ts dn) sz)) 0 0 (va_A (tdW κ T S ad bs sm pl r0 r1 tk vo du nd wt wx wb wn tp tn ts dn) sz) := by
  refine Met.ofW (cc := cX3_space) (maxL := 3) (ret := (some .int)) (by decide) rfl ?_
  intro p e s m args below meth c s₁ B hml hv
  obtain ⟨rfl, hsz, hP, hK, hD0⟩ := hv
  have hx := B.exec
  have hb := B.bytes
  have hr := B.returns
  have hts := atoms_spec (ws := wsX3_space) B.pre
  have hown : s.vm.findClass RX3 = some m.cls := findClass_of_methodNamed B.named
  have hlocks := B.notSynchronized
  subst hsz
  have hD := hD0.self (sz := s.heap.size)
  generalize hAe : va_A (tdW κ T S ad bs sm pl r0 r1 tk vo du nd wt wx wb wn tp tn ts dn) s.heap.size = A at hD ⊢
  have hA : ∀ q : Nat, s.heap.size ≤ q → A q := fun q h => by rw [← hAe]; exact Or.inr h
  refine W.gen (P := fun H locs => va_P D vwCl (tdW κ T S ad bs sm pl r0 r1 tk vo du nd wt wx wb wn tp tn ts dn) H ∧ va_S A s.heap H locs) (fun H locs h => ?_) ⟨hP, va_S.rf⟩
  clear hP
  obtain ⟨hP, hS⟩ := h
  have hl := lv_entry ([.ref ((ad 0)), .int (nI 0), .int (nI t)]) (n := 3) (Nat.le_of_ble_eq_true rfl)
  rw [lg_entry_eq]
  generalize (lg_sl ([.ref ((ad 0)), .int (nI 0), .int (nI t)]) ++ List.replicate (3 - (lg_sl ([.ref ((ad 0)), .int (nI 0), .int (nI t)])).length) Slot.unset).toArray = ls at hl ⊢
  have hl : lv_has ls 3 [(0, .ref ((ad 0))), (1, .int (nI 0)), (2, .int (nI t))] := hl
  refine lv_iload_n hx hb dX3_space_0 rfl (lv_at hl 1 rfl) ?_
  refine lv_if_lt (tgt := 17) hx hb dX3_space_1 (by decide) (fun c_1 => ?_) (fun c_1 => ?_)
  · exact absurd c_1 (by decide)
  · skip
    refine lv_iload_n hx hb dX3_space_4 rfl (lv_at hl 1 rfl) ?_
    refine lv_iconst (v := nI 1) hx hb dX3_space_5 (by decide) ?_
    refine lv_icmp_gt (tgt := 17) hx hb dX3_space_6 (by decide) (fun c_6 => ?_) (fun c_6 => ?_)
    · exact absurd c_6 (by decide)
    · skip
      refine lv_aload_n hx hb dX3_space_9 rfl (lv_at hl 0 rfl) ?_
      refine lv_iload_n hx hb dX3_space_10 rfl (lv_at hl 2 rfl) ?_
      have hPc := hP.sub (ws' := tdW κ T S ad bs sm pl r0 r1 tk vo du nd wt wx wb wn tp tn ts dn) [0, 1, 2, 3, 4, 5, 6, 7, 8, 9, 10, 11, 12, 13] rfl
      refine pu_call (va_runV (As := [.int (nI t)]) (rest := []) ⟨hx, hb, hml, hown, hts⟩ (c_hasTrack l D κ T S ad bs sm pl r0 r1 tk vo du nd wt wx wb wn tp tn ts dn (nI t)) (cwV 1 hts gX3_space_X3_hasTrack rfl rfl rfl (by decide +kernel) ⟨Nat.le_of_ble_eq_true rfl, Nat.le_of_ble_eq_true rfl⟩) ⟨pu_blind, va_recv hK hPc (ci := 4) (q0 := 0) rfl rfl, pu_pre hK hPc⟩ rfl rfl hl.1 rfl (lv_room (Nat.le_of_ble_eq_true rfl)) dX3_space_11 ⟨Nat.le_of_ble_eq_true rfl, Nat.le_of_ble_eq_true rfl⟩) ?_
      refine lv_if_ne (tgt := 20) hx hb dX3_space_14 (by decide) (fun c_14 => ?_) (fun c_14 => ?_)
      · skip
        refine lv_iload_n hx hb dX3_space_20 rfl (lv_at hl 1 rfl) ?_
        refine lv_if_ne (tgt := 36) hx hb dX3_space_21 (by decide) (fun c_21 => ?_) (fun c_21 => ?_)
        · exact absurd (by decide) c_21
        · skip
          refine lv_aload_n hx hb dX3_space_24 rfl (lv_at hl 0 rfl) ?_
          refine va_get (D := D) (ci := 4) (v := .ref ((ad 1))) (C := RX3) (T := TX3) (N := 8) hx hb hts (by decide +kernel) hown hK hP 0 rfl rfl 2 (by decide) (hts (.fieldLink RX3 25 "TrackDisk" "disk" "LTrackDisk$Surface;") (by decide +kernel)) (fun _ h9 => h9) rfl dX3_space_25 ?_
          refine va_get (D := D) (ci := 2) (v := .ref ((ad 5))) (C := RX1) (T := TX1) (N := 9) hx hb hts (by decide +kernel) hown hK hP 1 rfl rfl 5 (by decide) (hts (.fieldLink RX3 112 "TrackDisk$Surface" "usedByRow0" "[I") (by decide +kernel)) (fun _ h9 => h9) rfl dX3_space_28 ?_
          refine lv_iload_n hx hb dX3_space_31 rfl (lv_at hl 2 rfl) ?_
          refine va_iald hx hb hK hP 5 0 rfl rfl (vp_in_nI (by omega) (by omega)) dX3_space_32 ?_
          refine tp_i (y := r0 t) (by rw [nI_clamp (by omega)]) ?_
          refine lv_goto (tgt := 45) hx hb dX3_space_33 (by decide) ?_
          have hP9 : va_P D vwCl (tdW κ T S ad bs sm pl r0 r1 tk vo du nd wt wx wb wn tp tn ts dn) H := hP
          have hD9 : va_D A (tdW κ T S ad bs sm pl r0 r1 tk vo du nd wt wx wb wn tp tn ts dn) := hD
          exact W.iret hx hb hr (fun t ht _ => ⟨⟨rfl, by rw [ht]; exact hP9, hD9⟩, hS.F ht⟩) hS.2.2 dX3_space_45 hlocks
      · exact (bI_ct (inF_nI ht (by omega)) c_14).elim

set_option maxHeartbeats 4000000 in
set_option maxRecDepth 100000 in
/-- space 1 -/
theorem c_space_1 (l : Launch) (D : va_G) (κ : Nat → ClassId) (sz : Nat) (T S : Nat) (ad : Nat → Nat) (bs sm pl r0 r1 : Nat → Int32) (tk vo : Int32) (du : Nat → Option Nat) (nd : Int32) (wt wx wb : Nat → Int32) (wn : Int32) (tp : Nat → Int32) (tn ts dn : Int32) (hT : T ≤ 12) (hS8 : S ≤ 8) (t : Nat) (ht : t < T) : Met l yX3_space wsX3_space ({ frames := 1, cells := 0, slots := 0, locals := 21 }) (va_Pc [.ref ((ad 0)), .int (nI 1), .int (nI t)] (mu_B D κ (tdW κ T S ad bs sm pl r0 r1 tk vo du nd wt wx wb wn tp tn ts dn) sz)) (mu_Q D (some (.int (r1 t))) (tdW κ T S ad bs sm pl r0 r1 tk vo du nd wt wx wb wn tp tn ts dn) (va_A (tdW κ T S ad bs sm pl r0 r1 tk vo du nd wt wx wb wn tp tn ts dn) sz)) 0 0 (va_A (tdW κ T S ad bs sm pl r0 r1 tk vo du nd wt wx wb wn tp tn ts dn) sz) := by
  refine Met.ofW (cc := cX3_space) (maxL := 3) (ret := (some .int)) (by decide) rfl ?_
  intro p e s m args below meth c s₁ B hml hv
  obtain ⟨rfl, hsz, hP, hK, hD0⟩ := hv
  have hx := B.exec
  have hb := B.bytes
  have hr := B.returns
  have hts := atoms_spec (ws := wsX3_space) B.pre
  have hown : s.vm.findClass RX3 = some m.cls := findClass_of_methodNamed B.named
  have hlocks := B.notSynchronized
  subst hsz
  have hD := hD0.self (sz := s.heap.size)
  generalize hAe : va_A (tdW κ T S ad bs sm pl r0 r1 tk vo du nd wt wx wb wn tp tn ts dn) s.heap.size = A at hD ⊢
  have hA : ∀ q : Nat, s.heap.size ≤ q → A q := fun q h => by rw [← hAe]; exact Or.inr h
  refine W.gen (P := fun H locs => va_P D vwCl (tdW κ T S ad bs sm pl r0 r1 tk vo du nd wt wx wb wn tp tn ts dn) H ∧ va_S A s.heap H locs) (fun H locs h => ?_) ⟨hP, va_S.rf⟩
  clear hP
  obtain ⟨hP, hS⟩ := h
  have hl := lv_entry ([.ref ((ad 0)), .int (nI 1), .int (nI t)]) (n := 3) (Nat.le_of_ble_eq_true rfl)
  rw [lg_entry_eq]
  generalize (lg_sl ([.ref ((ad 0)), .int (nI 1), .int (nI t)]) ++ List.replicate (3 - (lg_sl ([.ref ((ad 0)), .int (nI 1), .int (nI t)])).length) Slot.unset).toArray = ls at hl ⊢
  have hl : lv_has ls 3 [(0, .ref ((ad 0))), (1, .int (nI 1)), (2, .int (nI t))] := hl
  refine lv_iload_n hx hb dX3_space_0 rfl (lv_at hl 1 rfl) ?_
  refine lv_if_lt (tgt := 17) hx hb dX3_space_1 (by decide) (fun c_1 => ?_) (fun c_1 => ?_)
  · exact absurd c_1 (by decide)
  · skip
    refine lv_iload_n hx hb dX3_space_4 rfl (lv_at hl 1 rfl) ?_
    refine lv_iconst (v := nI 1) hx hb dX3_space_5 (by decide) ?_
    refine lv_icmp_gt (tgt := 17) hx hb dX3_space_6 (by decide) (fun c_6 => ?_) (fun c_6 => ?_)
    · exact absurd c_6 (by decide)
    · skip
      refine lv_aload_n hx hb dX3_space_9 rfl (lv_at hl 0 rfl) ?_
      refine lv_iload_n hx hb dX3_space_10 rfl (lv_at hl 2 rfl) ?_
      have hPc := hP.sub (ws' := tdW κ T S ad bs sm pl r0 r1 tk vo du nd wt wx wb wn tp tn ts dn) [0, 1, 2, 3, 4, 5, 6, 7, 8, 9, 10, 11, 12, 13] rfl
      refine pu_call (va_runV (As := [.int (nI t)]) (rest := []) ⟨hx, hb, hml, hown, hts⟩ (c_hasTrack l D κ T S ad bs sm pl r0 r1 tk vo du nd wt wx wb wn tp tn ts dn (nI t)) (cwV 1 hts gX3_space_X3_hasTrack rfl rfl rfl (by decide +kernel) ⟨Nat.le_of_ble_eq_true rfl, Nat.le_of_ble_eq_true rfl⟩) ⟨pu_blind, va_recv hK hPc (ci := 4) (q0 := 0) rfl rfl, pu_pre hK hPc⟩ rfl rfl hl.1 rfl (lv_room (Nat.le_of_ble_eq_true rfl)) dX3_space_11 ⟨Nat.le_of_ble_eq_true rfl, Nat.le_of_ble_eq_true rfl⟩) ?_
      refine lv_if_ne (tgt := 20) hx hb dX3_space_14 (by decide) (fun c_14 => ?_) (fun c_14 => ?_)
      · skip
        refine lv_iload_n hx hb dX3_space_20 rfl (lv_at hl 1 rfl) ?_
        refine lv_if_ne (tgt := 36) hx hb dX3_space_21 (by decide) (fun c_21 => ?_) (fun c_21 => ?_)
        · skip
          refine lv_aload_n hx hb dX3_space_36 rfl (lv_at hl 0 rfl) ?_
          refine va_get (D := D) (ci := 4) (v := .ref ((ad 1))) (C := RX3) (T := TX3) (N := 8) hx hb hts (by decide +kernel) hown hK hP 0 rfl rfl 2 (by decide) (hts (.fieldLink RX3 25 "TrackDisk" "disk" "LTrackDisk$Surface;") (by decide +kernel)) (fun _ h9 => h9) rfl dX3_space_37 ?_
          refine va_get (D := D) (ci := 2) (v := .ref ((ad 6))) (C := RX1) (T := TX1) (N := 9) hx hb hts (by decide +kernel) hown hK hP 1 rfl rfl 6 (by decide) (hts (.fieldLink RX3 115 "TrackDisk$Surface" "usedByRow1" "[I") (by decide +kernel)) (fun _ h9 => h9) rfl dX3_space_40 ?_
          refine lv_iload_n hx hb dX3_space_43 rfl (lv_at hl 2 rfl) ?_
          refine va_iald hx hb hK hP 6 0 rfl rfl (vp_in_nI (by omega) (by omega)) dX3_space_44 ?_
          refine tp_i (y := r1 t) (by rw [nI_clamp (by omega)]) ?_
          have hP9 : va_P D vwCl (tdW κ T S ad bs sm pl r0 r1 tk vo du nd wt wx wb wn tp tn ts dn) H := hP
          have hD9 : va_D A (tdW κ T S ad bs sm pl r0 r1 tk vo du nd wt wx wb wn tp tn ts dn) := hD
          exact W.iret hx hb hr (fun t ht _ => ⟨⟨rfl, by rw [ht]; exact hP9, hD9⟩, hS.F ht⟩) hS.2.2 dX3_space_45 hlocks
        · exact absurd c_21 (by decide)
      · exact (bI_ct (inF_nI ht (by omega)) c_14).elim

set_option maxHeartbeats 4000000 in
set_option maxRecDepth 100000 in
/-- mend: down -/
theorem c_mend_down (l : Launch) (D : va_G) (κ : Nat → ClassId) (sz : Nat) (T S : Nat) (ad : Nat → Nat) (bs sm pl r0 r1 : Nat → Int32) (tk vo : Int32) (du : Nat → Option Nat) (nd : Int32) (wt wx wb : Nat → Int32) (wn : Int32) (tp : Nat → Int32) (tn ts : Int32)   : Met l yX3_mend wsX3_mend ({ frames := 0, cells := 0, slots := 0, locals := 0 }) (va_Pc [.ref ((ad 0))] (mu_B D κ (tdW κ T S ad bs sm pl r0 r1 tk vo du nd wt wx wb wn tp tn ts (nI 1)) sz)) (mu_Q D (some (.int ((-5)))) (tdW κ T S ad bs sm pl r0 r1 tk vo du nd wt wx wb wn tp tn ts (nI 1)) (va_A (tdW κ T S ad bs sm pl r0 r1 tk vo du nd wt wx wb wn tp tn ts (nI 1)) sz)) 0 0 (va_A (tdW κ T S ad bs sm pl r0 r1 tk vo du nd wt wx wb wn tp tn ts (nI 1)) sz) := by
  refine Met.ofW (cc := cX3_mend) (maxL := 1) (ret := (some .int)) (by decide) rfl ?_
  intro p e s m args below meth c s₁ B hml hv
  obtain ⟨rfl, hsz, hP, hK, hD0⟩ := hv
  have hx := B.exec
  have hb := B.bytes
  have hr := B.returns
  have hts := atoms_spec (ws := wsX3_mend) B.pre
  have hown : s.vm.findClass RX3 = some m.cls := findClass_of_methodNamed B.named
  have hlocks := B.notSynchronized
  subst hsz
  have hD := hD0.self (sz := s.heap.size)
  generalize hAe : va_A (tdW κ T S ad bs sm pl r0 r1 tk vo du nd wt wx wb wn tp tn ts (nI 1)) s.heap.size = A at hD ⊢
  have hA : ∀ q : Nat, s.heap.size ≤ q → A q := fun q h => by rw [← hAe]; exact Or.inr h
  refine W.gen (P := fun H locs => va_P D vwCl (tdW κ T S ad bs sm pl r0 r1 tk vo du nd wt wx wb wn tp tn ts (nI 1)) H ∧ va_S A s.heap H locs) (fun H locs h => ?_) ⟨hP, va_S.rf⟩
  clear hP
  obtain ⟨hP, hS⟩ := h
  have hl := lv_entry ([.ref ((ad 0))]) (n := 1) (Nat.le_of_ble_eq_true rfl)
  rw [lg_entry_eq]
  generalize (lg_sl ([.ref ((ad 0))]) ++ List.replicate (1 - (lg_sl ([.ref ((ad 0))])).length) Slot.unset).toArray = ls at hl ⊢
  have hl : lv_has ls 1 [(0, .ref ((ad 0)))] := hl
  refine lv_aload_n hx hb dX3_mend_0 rfl (lv_at hl 0 rfl) ?_
  refine va_get (D := D) (ci := 4) (v := .int (nI 1)) (C := RX3) (T := TX3) (N := 8) hx hb hts (by decide +kernel) hown hK hP 0 rfl rfl 7 (by decide) (hts (.fieldLink RX3 50 "TrackDisk" "down" "Z") (by decide +kernel)) (fun _ h9 => h9) rfl dX3_mend_1 ?_
  refine lv_if_eq (tgt := 10) hx hb dX3_mend_4 (by decide) (fun c_4 => ?_) (fun c_4 => ?_)
  · exact absurd c_4 (by decide)
  · skip
    refine lv_bipush (v := (-5)) hx hb dX3_mend_7 (by decide) ?_
    have hP9 : va_P D vwCl (tdW κ T S ad bs sm pl r0 r1 tk vo du nd wt wx wb wn tp tn ts (nI 1)) H := hP
    have hD9 : va_D A (tdW κ T S ad bs sm pl r0 r1 tk vo du nd wt wx wb wn tp tn ts (nI 1)) := hD
    exact W.iret hx hb hr (fun t ht _ => ⟨⟨rfl, by rw [ht]; exact hP9, hD9⟩, hS.F ht⟩) hS.2.2 dX3_mend_9 hlocks

set_option maxHeartbeats 4000000 in
set_option maxRecDepth 100000 in
/-- mend -/
theorem c_mend (l : Launch) (D : va_G) (κ : Nat → ClassId) (sz : Nat) (T S : Nat) (ad : Nat → Nat) (bs sm pl r0 r1 : Nat → Int32) (tk vo : Int32) (du : Nat → Option Nat) (nd : Int32) (wt wx wb : Nat → Int32) (wn : Int32) (tp : Nat → Int32) (tn ts : Int32)  (hT : T ≤ 12) (hS8 : S ≤ 8) (hpl : ∀ t, t < T → vp_in (pl t) (T + 2))  : Met l yX3_mend wsX3_mend ({ frames := 4, cells := 0, slots := 0, locals := 90 }) (va_Pc [.ref ((ad 0))] (mu_B D κ (tdW κ T S ad bs sm pl r0 r1 tk vo du nd wt wx wb wn tp tn ts (nI 0)) sz)) (mu_Q D (some (.int (nI (cnt (dfF r0 r1) T)))) (tdW κ T S ad bs sm pl (mdR (usF bs pl S) r0 r1 r0 T) (mdR (usF bs pl S) r0 r1 r1 T) tk vo du nd wt wx wb wn tp tn ts (nI 0)) (va_A (tdW κ T S ad bs sm pl r0 r1 tk vo du nd wt wx wb wn tp tn ts (nI 0)) sz)) 0 0 (va_A (tdW κ T S ad bs sm pl r0 r1 tk vo du nd wt wx wb wn tp tn ts (nI 0)) sz) := by
  refine Met.ofW (cc := cX3_mend) (maxL := 1) (ret := (some .int)) (by decide) rfl ?_
  intro p e s m args below meth c s₁ B hml hv
  obtain ⟨rfl, hsz, hP, hK, hD0⟩ := hv
  have hx := B.exec
  have hb := B.bytes
  have hr := B.returns
  have hts := atoms_spec (ws := wsX3_mend) B.pre
  have hown : s.vm.findClass RX3 = some m.cls := findClass_of_methodNamed B.named
  have hlocks := B.notSynchronized
  subst hsz
  have hD := hD0.self (sz := s.heap.size)
  generalize hAe : va_A (tdW κ T S ad bs sm pl r0 r1 tk vo du nd wt wx wb wn tp tn ts (nI 0)) s.heap.size = A at hD ⊢
  have hA : ∀ q : Nat, s.heap.size ≤ q → A q := fun q h => by rw [← hAe]; exact Or.inr h
  refine W.gen (P := fun H locs => va_P D vwCl (tdW κ T S ad bs sm pl r0 r1 tk vo du nd wt wx wb wn tp tn ts (nI 0)) H ∧ va_S A s.heap H locs) (fun H locs h => ?_) ⟨hP, va_S.rf⟩
  clear hP
  obtain ⟨hP, hS⟩ := h
  have hl := lv_entry ([.ref ((ad 0))]) (n := 1) (Nat.le_of_ble_eq_true rfl)
  rw [lg_entry_eq]
  generalize (lg_sl ([.ref ((ad 0))]) ++ List.replicate (1 - (lg_sl ([.ref ((ad 0))])).length) Slot.unset).toArray = ls at hl ⊢
  have hl : lv_has ls 1 [(0, .ref ((ad 0)))] := hl
  refine lv_aload_n hx hb dX3_mend_0 rfl (lv_at hl 0 rfl) ?_
  refine va_get (D := D) (ci := 4) (v := .int (nI 0)) (C := RX3) (T := TX3) (N := 8) hx hb hts (by decide +kernel) hown hK hP 0 rfl rfl 7 (by decide) (hts (.fieldLink RX3 50 "TrackDisk" "down" "Z") (by decide +kernel)) (fun _ h9 => h9) rfl dX3_mend_1 ?_
  refine lv_if_eq (tgt := 10) hx hb dX3_mend_4 (by decide) (fun c_4 => ?_) (fun c_4 => ?_)
  · skip
    refine lv_aload_n hx hb dX3_mend_10 rfl (lv_at hl 0 rfl) ?_
    refine va_get (D := D) (ci := 4) (v := .ref ((ad 1))) (C := RX3) (T := TX3) (N := 8) hx hb hts (by decide +kernel) hown hK hP 0 rfl rfl 2 (by decide) (hts (.fieldLink RX3 25 "TrackDisk" "disk" "LTrackDisk$Surface;") (by decide +kernel)) (fun _ h9 => h9) rfl dX3_mend_11 ?_
    have hPc := hP.sub (ws' := sfW κ T S (fun j => ad (j + 1)) bs sm pl r0 r1 tk vo) [1, 2, 3, 4, 5, 6] rfl
    have hDc := hD.sub (ws' := sfW κ T S (fun j => ad (j + 1)) bs sm pl r0 r1 tk vo) [1, 2, 3, 4, 5, 6] (by decide) rfl
    refine mu_call (wc := sfW κ T S (fun j => ad (j + 1)) bs sm pl r0 r1 tk vo) (wc' := sfW κ T S (fun j => ad (j + 1)) bs sm pl (mdR (usF bs pl S) r0 r1 r0 T) (mdR (usF bs pl S) r0 r1 r1 T) tk vo) (ws' := tdW κ T S ad bs sm pl (mdR (usF bs pl S) r0 r1 r0 T) (mdR (usF bs pl S) r0 r1 r1 T) tk vo du nd wt wx wb wn tp tn ts (nI 0)) (wr := (([0, 7, 8, 9, 10, 11, 12, 13] : List Nat).filterMap fun i => (tdW κ T S ad bs sm pl r0 r1 tk vo du nd wt wx wb wn tp tn ts (nI 0))[i]?)) (va_runV (As := []) (rest := []) ⟨hx, hb, hml, hown, hts⟩ (c_mendRows l D κ H.size T S (fun j => ad (j + 1)) bs sm pl r0 r1 tk vo hT hS8 hpl) (cwV 0 hts gX3_mend_X1_mendRows rfl rfl rfl (by decide +kernel) ⟨Nat.le_of_ble_eq_true rfl, Nat.le_of_ble_eq_true rfl⟩) ⟨mu_blind, va_recv hK hPc (ci := 2) (q0 := 0) rfl rfl, mu_pre hK hPc hDc⟩ rfl rfl hl.1 rfl (lv_room (Nat.le_of_ble_eq_true rfl)) dX3_mend_14 ⟨Nat.le_of_ble_eq_true rfl, Nat.le_of_ble_eq_true rfl⟩) hP hD hS hA [1, 2, 3, 4, 5, 6] [0, 7, 8, 9, 10, 11, 12, 13] [0, 8, 9, 10, 11, 12, 13, 1, 2, 3, 4, 5, 6, 7] rfl rfl (by decide) (by decide) rfl rfl (by decide) (fun H locs hP hD hS => ?_)
    refine W.eq (g2 := F0 m 17 ls [.int (nI (cnt (dfF r0 r1) T))]) rfl ?_
    have hP9 : va_P D vwCl (tdW κ T S ad bs sm pl (mdR (usF bs pl S) r0 r1 r0 T) (mdR (usF bs pl S) r0 r1 r1 T) tk vo du nd wt wx wb wn tp tn ts (nI 0)) H := hP
    have hD9 : va_D A (tdW κ T S ad bs sm pl (mdR (usF bs pl S) r0 r1 r0 T) (mdR (usF bs pl S) r0 r1 r1 T) tk vo du nd wt wx wb wn tp tn ts (nI 0)) := hD
    exact W.iret hx hb hr (fun t ht _ => ⟨⟨rfl, by rw [ht]; exact hP9, hD9⟩, hS.F ht⟩) hS.2.2 dX3_mend_17 hlocks
  · exact absurd (by decide) c_4
end
section
/-! TrackDisk: the other methods (but dumps) -/
theorem nI_nm1 {n : Nat} (h : n < 2 ^ 31) : ¬ nI n = -1 := by
  intro q
  have a := nI_toInt h
  rw [q] at a
  have b : (-1 : Int32).toInt = -1 := by decide
  omega
def isB (f : Nat → Int32) : Prop := ∀ j, (f j).toInt8.toInt32 = f j
theorem isB.fit {f : Nat → Int32} (h : isB f) : sb_Fit f := fun j => by rw [← h j]; exact pk_fb _
theorem isB.nar {f : Nat → Int32} (h : isB f) (j : Nat) : narrow .byte (.int (f j)) = .int (f j) := by rw [← h j]; exact pk_nb _
section PU2
variable {p : Program} {l : Launch} {e : Env} {R : Room} {s : State} {m : MethodId} {args : Array Value} {below : List Frame} {meth : Method} {c : Code} {H : Heap} {locs : List Loc} {cells slots : Nat} {Q : State → Prop} {pc : Nat} {ls : Array Slot} {rest : List Value}
theorem tp_v {x y : Value} (h : x = y) (k : W p l e R s m args below meth c H locs cells slots Q (F0 m pc ls (y :: rest))) : W p l e R s m args below meth c H locs cells slots Q (F0 m pc ls (x :: rest)) := by rw [h]; exact k
theorem pu_aret {cc : ByteArray} {v : Value} {rt : FieldType} (hexec : p.tables.exec = Jvm.exec) (hb : c.code = cc) (hr : meth.sig.returnType = some rt) (hlocks : meth.locks = false) (hrt : (∃ n, rt = .object n) ∨ ∃ t, rt = .array t) (hv : v = .null ∨ ∃ a, v = .ref a) (hdg : decode cc pc = .ok (.areturn, 1)) : W p l e R s m args below meth c s.heap [] cells slots (MQ below (pu_Q v) args s cells slots pu_N) (F0 m pc ls [v]) :=
  W.aret hexec hb hr hrt hv (fun t ht _ => ⟨rfl, ht⟩) (fun q hq => by cases hq) hdg hlocks
end PU2

set_option maxHeartbeats 4000000 in
set_option maxRecDepth 100000 in
/-- poke: no such sector -/
theorem c_poke_no (l : Launch) (D : va_G) (κ : Nat → ClassId) (sz : Nat) (T S : Nat) (ad : Nat → Nat) (bs sm pl r0 r1 : Nat → Int32) (tk vo : Int32) (du : Nat → Option Nat) (nd : Int32) (wt wx wb : Nat → Int32) (wn : Int32) (tp : Nat → Int32) (tn ts dn : Int32) (x y i m0 : Int32) (hno : (inF x T && inF y S) = false) : Met l yX3_poke wsX3_poke ({ frames := 2, cells := 0, slots := 0, locals := 43 }) (va_Pc [.ref ((ad 0)), .int x, .int y, .int i, .int m0] (mu_B D κ (tdW κ T S ad bs sm pl r0 r1 tk vo du nd wt wx wb wn tp tn ts dn) sz)) (mu_Q D (some (.int ((-2)))) (tdW κ T S ad bs sm pl r0 r1 tk vo du nd wt wx wb wn tp tn ts dn) (va_A (tdW κ T S ad bs sm pl r0 r1 tk vo du nd wt wx wb wn tp tn ts dn) sz)) 0 0 (va_A (tdW κ T S ad bs sm pl r0 r1 tk vo du nd wt wx wb wn tp tn ts dn) sz) := by
  refine Met.ofW (cc := cX3_poke) (maxL := 8) (ret := (some .int)) (by decide) rfl ?_
  intro p e s m args below meth c s₁ B hml hv
  obtain ⟨rfl, hsz, hP, hK, hD0⟩ := hv
  have hx := B.exec
  have hb := B.bytes
  have hr := B.returns
  have hts := atoms_spec (ws := wsX3_poke) B.pre
  have hown : s.vm.findClass RX3 = some m.cls := findClass_of_methodNamed B.named
  have hlocks := B.notSynchronized
  subst hsz
  have hD := hD0.self (sz := s.heap.size)
  generalize hAe : va_A (tdW κ T S ad bs sm pl r0 r1 tk vo du nd wt wx wb wn tp tn ts dn) s.heap.size = A at hD ⊢
  have hA : ∀ q : Nat, s.heap.size ≤ q → A q := fun q h => by rw [← hAe]; exact Or.inr h
  refine W.gen (P := fun H locs => va_P D vwCl (tdW κ T S ad bs sm pl r0 r1 tk vo du nd wt wx wb wn tp tn ts dn) H ∧ va_S A s.heap H locs) (fun H locs h => ?_) ⟨hP, va_S.rf⟩
  clear hP
  obtain ⟨hP, hS⟩ := h
  have hl := lv_entry ([.ref ((ad 0)), .int x, .int y, .int i, .int m0]) (n := 8) (Nat.le_of_ble_eq_true rfl)
  rw [lg_entry_eq]
  generalize (lg_sl ([.ref ((ad 0)), .int x, .int y, .int i, .int m0]) ++ List.replicate (8 - (lg_sl ([.ref ((ad 0)), .int x, .int y, .int i, .int m0])).length) Slot.unset).toArray = ls at hl ⊢
  have hl : lv_has ls 8 [(0, .ref ((ad 0))), (1, .int x), (2, .int y), (3, .int i), (4, .int m0)] := hl
  refine lv_aload_n hx hb dX3_poke_0 rfl (lv_at hl 0 rfl) ?_
  refine lv_iload_n hx hb dX3_poke_1 rfl (lv_at hl 1 rfl) ?_
  refine lv_iload_n hx hb dX3_poke_2 rfl (lv_at hl 2 rfl) ?_
  have hPc := hP.sub (ws' := tdW κ T S ad bs sm pl r0 r1 tk vo du nd wt wx wb wn tp tn ts dn) [0, 1, 2, 3, 4, 5, 6, 7, 8, 9, 10, 11, 12, 13] rfl
  refine pu_call (va_runV (As := [.int x, .int y]) (rest := []) ⟨hx, hb, hml, hown, hts⟩ (c_hasSector l D κ T S ad bs sm pl r0 r1 tk vo du nd wt wx wb wn tp tn ts dn x y) (cwV 2 hts gX3_poke_X3_hasSector rfl rfl rfl (by decide +kernel) ⟨Nat.le_of_ble_eq_true rfl, Nat.le_of_ble_eq_true rfl⟩) ⟨pu_blind, va_recv hK hPc (ci := 4) (q0 := 0) rfl rfl, pu_pre hK hPc⟩ rfl rfl hl.1 rfl (lv_room (Nat.le_of_ble_eq_true rfl)) dX3_poke_3 ⟨Nat.le_of_ble_eq_true rfl, Nat.le_of_ble_eq_true rfl⟩) ?_
  refine lv_if_ne (tgt := 12) hx hb dX3_poke_6 (by decide) (fun c_6 => ?_) (fun c_6 => ?_)
  · exact (bI_cf hno c_6).elim
  · skip
    refine lv_bipush (v := (-2)) hx hb dX3_poke_9 (by decide) ?_
    have hP9 : va_P D vwCl (tdW κ T S ad bs sm pl r0 r1 tk vo du nd wt wx wb wn tp tn ts dn) H := hP
    have hD9 : va_D A (tdW κ T S ad bs sm pl r0 r1 tk vo du nd wt wx wb wn tp tn ts dn) := hD
    exact W.iret hx hb hr (fun t ht _ => ⟨⟨rfl, by rw [ht]; exact hP9, hD9⟩, hS.F ht⟩) hS.2.2 dX3_poke_11 hlocks

set_option maxHeartbeats 4000000 in
set_option maxRecDepth 100000 in
/-- poke: i -/
theorem c_poke_bi (l : Launch) (D : va_G) (κ : Nat → ClassId) (sz : Nat) (T S : Nat) (ad : Nat → Nat) (bs sm pl r0 r1 : Nat → Int32) (tk vo : Int32) (du : Nat → Option Nat) (nd : Int32) (wt wx wb : Nat → Int32) (wn : Int32) (tp : Nat → Int32) (tn ts dn : Int32) (hT : T ≤ 12) (hS8 : S ≤ 8) (t b : Nat) (ht : t < T) (hb0 : b < S) (i m0 : Int32) (hi : inF i 16 = false) : Met l yX3_poke wsX3_poke ({ frames := 2, cells := 0, slots := 0, locals := 43 }) (va_Pc [.ref ((ad 0)), .int (nI t), .int (nI b), .int i, .int m0] (mu_B D κ (tdW κ T S ad bs sm pl r0 r1 tk vo du nd wt wx wb wn tp tn ts dn) sz)) (mu_Q D (some (.int ((-4)))) (tdW κ T S ad bs sm pl r0 r1 tk vo du nd wt wx wb wn tp tn ts dn) (va_A (tdW κ T S ad bs sm pl r0 r1 tk vo du nd wt wx wb wn tp tn ts dn) sz)) 0 0 (va_A (tdW κ T S ad bs sm pl r0 r1 tk vo du nd wt wx wb wn tp tn ts dn) sz) := by
  refine Met.ofW (cc := cX3_poke) (maxL := 8) (ret := (some .int)) (by decide) rfl ?_
  intro p e s m args below meth c s₁ B hml hv
  obtain ⟨rfl, hsz, hP, hK, hD0⟩ := hv
  have hx := B.exec
  have hb := B.bytes
  have hr := B.returns
  have hts := atoms_spec (ws := wsX3_poke) B.pre
  have hown : s.vm.findClass RX3 = some m.cls := findClass_of_methodNamed B.named
  have hlocks := B.notSynchronized
  subst hsz
  have hD := hD0.self (sz := s.heap.size)
  generalize hAe : va_A (tdW κ T S ad bs sm pl r0 r1 tk vo du nd wt wx wb wn tp tn ts dn) s.heap.size = A at hD ⊢
  have hA : ∀ q : Nat, s.heap.size ≤ q → A q := fun q h => by rw [← hAe]; exact Or.inr h
  refine W.gen (P := fun H locs => va_P D vwCl (tdW κ T S ad bs sm pl r0 r1 tk vo du nd wt wx wb wn tp tn ts dn) H ∧ va_S A s.heap H locs) (fun H locs h => ?_) ⟨hP, va_S.rf⟩
  clear hP
  obtain ⟨hP, hS⟩ := h
  have hl := lv_entry ([.ref ((ad 0)), .int (nI t), .int (nI b), .int i, .int m0]) (n := 8) (Nat.le_of_ble_eq_true rfl)
  rw [lg_entry_eq]
  generalize (lg_sl ([.ref ((ad 0)), .int (nI t), .int (nI b), .int i, .int m0]) ++ List.replicate (8 - (lg_sl ([.ref ((ad 0)), .int (nI t), .int (nI b), .int i, .int m0])).length) Slot.unset).toArray = ls at hl ⊢
  have hl : lv_has ls 8 [(0, .ref ((ad 0))), (1, .int (nI t)), (2, .int (nI b)), (3, .int i), (4, .int m0)] := hl
  refine lv_aload_n hx hb dX3_poke_0 rfl (lv_at hl 0 rfl) ?_
  refine lv_iload_n hx hb dX3_poke_1 rfl (lv_at hl 1 rfl) ?_
  refine lv_iload_n hx hb dX3_poke_2 rfl (lv_at hl 2 rfl) ?_
  have hPc := hP.sub (ws' := tdW κ T S ad bs sm pl r0 r1 tk vo du nd wt wx wb wn tp tn ts dn) [0, 1, 2, 3, 4, 5, 6, 7, 8, 9, 10, 11, 12, 13] rfl
  refine pu_call (va_runV (As := [.int (nI t), .int (nI b)]) (rest := []) ⟨hx, hb, hml, hown, hts⟩ (c_hasSector l D κ T S ad bs sm pl r0 r1 tk vo du nd wt wx wb wn tp tn ts dn (nI t) (nI b)) (cwV 2 hts gX3_poke_X3_hasSector rfl rfl rfl (by decide +kernel) ⟨Nat.le_of_ble_eq_true rfl, Nat.le_of_ble_eq_true rfl⟩) ⟨pu_blind, va_recv hK hPc (ci := 4) (q0 := 0) rfl rfl, pu_pre hK hPc⟩ rfl rfl hl.1 rfl (lv_room (Nat.le_of_ble_eq_true rfl)) dX3_poke_3 ⟨Nat.le_of_ble_eq_true rfl, Nat.le_of_ble_eq_true rfl⟩) ?_
  refine lv_if_ne (tgt := 12) hx hb dX3_poke_6 (by decide) (fun c_6 => ?_) (fun c_6 => ?_)
  · skip
    refine lv_iload hx hb dX3_poke_12 (lv_at hl 4 rfl) ?_
    refine lv_sipush (v := nI 255) hx hb dX3_poke_14 (by decide) ?_
    refine lv_iand hx hb dX3_poke_17 ?_
    refine lv_istore (lv' := [(5, .int ((m0 &&& (nI 255)))), (0, .ref ((ad 0))), (1, .int (nI t)), (2, .int (nI b)), (3, .int i), (4, .int m0)]) hx hb dX3_poke_18 hl (by decide) rfl (fun ls hl => ?_)
    refine lv_iload_n hx hb dX3_poke_20 rfl (lv_at hl 4 rfl) ?_
    have hPc := hP.sub (ws' := []) [] rfl
    refine pu_call (va_runS (As := [.int i]) (rest := []) ⟨hx, hb, hml, hown, hts⟩ (c_isByte l D κ i) (va_cwS 1 hts gX3_poke_X3_isByteNumber rfl rfl rfl (by decide +kernel) ⟨Nat.le_of_ble_eq_true rfl, Nat.le_of_ble_eq_true rfl⟩) ⟨pu_blind, pu_pre hK hPc⟩ rfl rfl hl.1 rfl (lv_room (Nat.le_of_ble_eq_true rfl)) dX3_poke_21 ⟨Nat.le_of_ble_eq_true rfl, Nat.le_of_ble_eq_true rfl⟩) ?_
    refine lv_if_eq (tgt := 32) hx hb dX3_poke_24 (by decide) (fun c_24 => ?_) (fun c_24 => ?_)
    · skip
      refine lv_bipush (v := (-4)) hx hb dX3_poke_32 (by decide) ?_
      have hP9 : va_P D vwCl (tdW κ T S ad bs sm pl r0 r1 tk vo du nd wt wx wb wn tp tn ts dn) H := hP
      have hD9 : va_D A (tdW κ T S ad bs sm pl r0 r1 tk vo du nd wt wx wb wn tp tn ts dn) := hD
      exact W.iret hx hb hr (fun t ht _ => ⟨⟨rfl, by rw [ht]; exact hP9, hD9⟩, hS.F ht⟩) hS.2.2 dX3_poke_34 hlocks
    · exact (bI_cf hi c_24).elim
  · exact (bI_ct (by rw [inF_nI ht (by omega), inF_nI hb0 (by omega)]; rfl) c_6).elim

set_option maxHeartbeats 4000000 in
set_option maxRecDepth 100000 in
/-- poke: mask 0 -/
theorem c_poke_bm (l : Launch) (D : va_G) (κ : Nat → ClassId) (sz : Nat) (T S : Nat) (ad : Nat → Nat) (bs sm pl r0 r1 : Nat → Int32) (tk vo : Int32) (du : Nat → Option Nat) (nd : Int32) (wt wx wb : Nat → Int32) (wn : Int32) (tp : Nat → Int32) (tn ts dn : Int32) (hT : T ≤ 12) (hS8 : S ≤ 8) (t b : Nat) (ht : t < T) (hb0 : b < S) (i m0 : Int32) (hi : inF i 16 = true) (hm : (m0 &&& nI 255) = 0) : Met l yX3_poke wsX3_poke ({ frames := 2, cells := 0, slots := 0, locals := 43 }) (va_Pc [.ref ((ad 0)), .int (nI t), .int (nI b), .int i, .int m0] (mu_B D κ (tdW κ T S ad bs sm pl r0 r1 tk vo du nd wt wx wb wn tp tn ts dn) sz)) (mu_Q D (some (.int ((-4)))) (tdW κ T S ad bs sm pl r0 r1 tk vo du nd wt wx wb wn tp tn ts dn) (va_A (tdW κ T S ad bs sm pl r0 r1 tk vo du nd wt wx wb wn tp tn ts dn) sz)) 0 0 (va_A (tdW κ T S ad bs sm pl r0 r1 tk vo du nd wt wx wb wn tp tn ts dn) sz) := by
  refine Met.ofW (cc := cX3_poke) (maxL := 8) (ret := (some .int)) (by decide) rfl ?_
  intro p e s m args below meth c s₁ B hml hv
  obtain ⟨rfl, hsz, hP, hK, hD0⟩ := hv
  have hx := B.exec
  have hb := B.bytes
  have hr := B.returns
  have hts := atoms_spec (ws := wsX3_poke) B.pre
  have hown : s.vm.findClass RX3 = some m.cls := findClass_of_methodNamed B.named
  have hlocks := B.notSynchronized
  subst hsz
  have hD := hD0.self (sz := s.heap.size)
  generalize hAe : va_A (tdW κ T S ad bs sm pl r0 r1 tk vo du nd wt wx wb wn tp tn ts dn) s.heap.size = A at hD ⊢
  have hA : ∀ q : Nat, s.heap.size ≤ q → A q := fun q h => by rw [← hAe]; exact Or.inr h
  refine W.gen (P := fun H locs => va_P D vwCl (tdW κ T S ad bs sm pl r0 r1 tk vo du nd wt wx wb wn tp tn ts dn) H ∧ va_S A s.heap H locs) (fun H locs h => ?_) ⟨hP, va_S.rf⟩
  clear hP
  obtain ⟨hP, hS⟩ := h
  have hl := lv_entry ([.ref ((ad 0)), .int (nI t), .int (nI b), .int i, .int m0]) (n := 8) (Nat.le_of_ble_eq_true rfl)
  rw [lg_entry_eq]
  generalize (lg_sl ([.ref ((ad 0)), .int (nI t), .int (nI b), .int i, .int m0]) ++ List.replicate (8 - (lg_sl ([.ref ((ad 0)), .int (nI t), .int (nI b), .int i, .int m0])).length) Slot.unset).toArray = ls at hl ⊢
  have hl : lv_has ls 8 [(0, .ref ((ad 0))), (1, .int (nI t)), (2, .int (nI b)), (3, .int i), (4, .int m0)] := hl
  refine lv_aload_n hx hb dX3_poke_0 rfl (lv_at hl 0 rfl) ?_
  refine lv_iload_n hx hb dX3_poke_1 rfl (lv_at hl 1 rfl) ?_
  refine lv_iload_n hx hb dX3_poke_2 rfl (lv_at hl 2 rfl) ?_
  have hPc := hP.sub (ws' := tdW κ T S ad bs sm pl r0 r1 tk vo du nd wt wx wb wn tp tn ts dn) [0, 1, 2, 3, 4, 5, 6, 7, 8, 9, 10, 11, 12, 13] rfl
  refine pu_call (va_runV (As := [.int (nI t), .int (nI b)]) (rest := []) ⟨hx, hb, hml, hown, hts⟩ (c_hasSector l D κ T S ad bs sm pl r0 r1 tk vo du nd wt wx wb wn tp tn ts dn (nI t) (nI b)) (cwV 2 hts gX3_poke_X3_hasSector rfl rfl rfl (by decide +kernel) ⟨Nat.le_of_ble_eq_true rfl, Nat.le_of_ble_eq_true rfl⟩) ⟨pu_blind, va_recv hK hPc (ci := 4) (q0 := 0) rfl rfl, pu_pre hK hPc⟩ rfl rfl hl.1 rfl (lv_room (Nat.le_of_ble_eq_true rfl)) dX3_poke_3 ⟨Nat.le_of_ble_eq_true rfl, Nat.le_of_ble_eq_true rfl⟩) ?_
  refine lv_if_ne (tgt := 12) hx hb dX3_poke_6 (by decide) (fun c_6 => ?_) (fun c_6 => ?_)
  · skip
    refine lv_iload hx hb dX3_poke_12 (lv_at hl 4 rfl) ?_
    refine lv_sipush (v := nI 255) hx hb dX3_poke_14 (by decide) ?_
    refine lv_iand hx hb dX3_poke_17 ?_
    refine lv_istore (lv' := [(5, .int ((m0 &&& (nI 255)))), (0, .ref ((ad 0))), (1, .int (nI t)), (2, .int (nI b)), (3, .int i), (4, .int m0)]) hx hb dX3_poke_18 hl (by decide) rfl (fun ls hl => ?_)
    refine lv_iload_n hx hb dX3_poke_20 rfl (lv_at hl 4 rfl) ?_
    have hPc := hP.sub (ws' := []) [] rfl
    refine pu_call (va_runS (As := [.int i]) (rest := []) ⟨hx, hb, hml, hown, hts⟩ (c_isByte l D κ i) (va_cwS 1 hts gX3_poke_X3_isByteNumber rfl rfl rfl (by decide +kernel) ⟨Nat.le_of_ble_eq_true rfl, Nat.le_of_ble_eq_true rfl⟩) ⟨pu_blind, pu_pre hK hPc⟩ rfl rfl hl.1 rfl (lv_room (Nat.le_of_ble_eq_true rfl)) dX3_poke_21 ⟨Nat.le_of_ble_eq_true rfl, Nat.le_of_ble_eq_true rfl⟩) ?_
    refine lv_if_eq (tgt := 32) hx hb dX3_poke_24 (by decide) (fun c_24 => ?_) (fun c_24 => ?_)
    · exact (bI_ct hi c_24).elim
    · skip
      refine lv_iload hx hb dX3_poke_27 (lv_at hl 0 rfl) ?_
      refine lv_if_ne (tgt := 35) hx hb dX3_poke_29 (by decide) (fun c_29 => ?_) (fun c_29 => ?_)
      · exact absurd hm c_29
      · skip
        refine lv_bipush (v := (-4)) hx hb dX3_poke_32 (by decide) ?_
        have hP9 : va_P D vwCl (tdW κ T S ad bs sm pl r0 r1 tk vo du nd wt wx wb wn tp tn ts dn) H := hP
        have hD9 : va_D A (tdW κ T S ad bs sm pl r0 r1 tk vo du nd wt wx wb wn tp tn ts dn) := hD
        exact W.iret hx hb hr (fun t ht _ => ⟨⟨rfl, by rw [ht]; exact hP9, hD9⟩, hS.F ht⟩) hS.2.2 dX3_poke_34 hlocks
  · exact (bI_ct (by rw [inF_nI ht (by omega), inF_nI hb0 (by omega)]; rfl) c_6).elim

set_option maxHeartbeats 4000000 in
set_option maxRecDepth 100000 in
/-- poke -/
theorem c_poke (l : Launch) (D : va_G) (κ : Nat → ClassId) (sz : Nat) (T S : Nat) (ad : Nat → Nat) (bs sm pl r0 r1 : Nat → Int32) (tk vo : Int32) (du : Nat → Option Nat) (nd : Int32) (wt wx wb : Nat → Int32) (wn : Int32) (tp : Nat → Int32) (tn ts dn : Int32) (hT : T ≤ 12) (hS8 : S ≤ 8) (hpl : ∀ t, t < T → vp_in (pl t) (T + 2)) (t b : Nat) (ht : t < T) (hb0 : b < S) (i : Nat) (hi : i < 16) (m0 : Int32) (hm : ¬ (m0 &&& nI 255) = 0) : Met l yX3_poke wsX3_poke ({ frames := 2, cells := 0, slots := 0, locals := 44 }) (va_Pc [.ref ((ad 0)), .int (nI t), .int (nI b), .int (nI i), .int m0] (mu_B D κ (tdW κ T S ad bs sm pl r0 r1 tk vo du nd wt wx wb wn tp tn ts dn) sz)) (mu_Q D (some (.int (bs ((cl (pl t) * S + b) * 16 + i) &&& nI 255))) (tdW κ T S ad (upd bs ((cl (pl t) * S + b) * 16 + i) (((bs ((cl (pl t) * S + b) * 16 + i) &&& nI 255) ^^^ (m0 &&& nI 255)).toInt8.toInt32)) sm pl r0 r1 tk vo du nd wt wx wb wn tp tn ts dn) (va_A (tdW κ T S ad bs sm pl r0 r1 tk vo du nd wt wx wb wn tp tn ts dn) sz)) 0 0 (va_A (tdW κ T S ad bs sm pl r0 r1 tk vo du nd wt wx wb wn tp tn ts dn) sz) := by
  refine Met.ofW (cc := cX3_poke) (maxL := 8) (ret := (some .int)) (by decide) rfl ?_
  intro p e s m args below meth c s₁ B hml hv
  obtain ⟨rfl, hsz, hP, hK, hD0⟩ := hv
  have hx := B.exec
  have hb := B.bytes
  have hr := B.returns
  have hts := atoms_spec (ws := wsX3_poke) B.pre
  have hown : s.vm.findClass RX3 = some m.cls := findClass_of_methodNamed B.named
  have hlocks := B.notSynchronized
  subst hsz
  have hD := hD0.self (sz := s.heap.size)
  generalize hAe : va_A (tdW κ T S ad bs sm pl r0 r1 tk vo du nd wt wx wb wn tp tn ts dn) s.heap.size = A at hD ⊢
  have hA : ∀ q : Nat, s.heap.size ≤ q → A q := fun q h => by rw [← hAe]; exact Or.inr h
  refine W.gen (P := fun H locs => va_P D vwCl (tdW κ T S ad bs sm pl r0 r1 tk vo du nd wt wx wb wn tp tn ts dn) H ∧ va_S A s.heap H locs) (fun H locs h => ?_) ⟨hP, va_S.rf⟩
  clear hP
  obtain ⟨hP, hS⟩ := h
  have hl := lv_entry ([.ref ((ad 0)), .int (nI t), .int (nI b), .int (nI i), .int m0]) (n := 8) (Nat.le_of_ble_eq_true rfl)
  rw [lg_entry_eq]
  generalize (lg_sl ([.ref ((ad 0)), .int (nI t), .int (nI b), .int (nI i), .int m0]) ++ List.replicate (8 - (lg_sl ([.ref ((ad 0)), .int (nI t), .int (nI b), .int (nI i), .int m0])).length) Slot.unset).toArray = ls at hl ⊢
  have hl : lv_has ls 8 [(0, .ref ((ad 0))), (1, .int (nI t)), (2, .int (nI b)), (3, .int (nI i)), (4, .int m0)] := hl
  have hmx := sf_max hT hS8
  have hplt := cl_nI (hpl t ht) (by omega)
  have hlt := sf_lt hplt.2 hb0 hi
  refine lv_aload_n hx hb dX3_poke_0 rfl (lv_at hl 0 rfl) ?_
  refine lv_iload_n hx hb dX3_poke_1 rfl (lv_at hl 1 rfl) ?_
  refine lv_iload_n hx hb dX3_poke_2 rfl (lv_at hl 2 rfl) ?_
  have hPc := hP.sub (ws' := tdW κ T S ad bs sm pl r0 r1 tk vo du nd wt wx wb wn tp tn ts dn) [0, 1, 2, 3, 4, 5, 6, 7, 8, 9, 10, 11, 12, 13] rfl
  refine pu_call (va_runV (As := [.int (nI t), .int (nI b)]) (rest := []) ⟨hx, hb, hml, hown, hts⟩ (c_hasSector l D κ T S ad bs sm pl r0 r1 tk vo du nd wt wx wb wn tp tn ts dn (nI t) (nI b)) (cwV 2 hts gX3_poke_X3_hasSector rfl rfl rfl (by decide +kernel) ⟨Nat.le_of_ble_eq_true rfl, Nat.le_of_ble_eq_true rfl⟩) ⟨pu_blind, va_recv hK hPc (ci := 4) (q0 := 0) rfl rfl, pu_pre hK hPc⟩ rfl rfl hl.1 rfl (lv_room (Nat.le_of_ble_eq_true rfl)) dX3_poke_3 ⟨Nat.le_of_ble_eq_true rfl, Nat.le_of_ble_eq_true rfl⟩) ?_
  refine lv_if_ne (tgt := 12) hx hb dX3_poke_6 (by decide) (fun c_6 => ?_) (fun c_6 => ?_)
  · skip
    refine lv_iload hx hb dX3_poke_12 (lv_at hl 4 rfl) ?_
    refine lv_sipush (v := nI 255) hx hb dX3_poke_14 (by decide) ?_
    refine lv_iand hx hb dX3_poke_17 ?_
    refine lv_istore (lv' := [(5, .int ((m0 &&& (nI 255)))), (0, .ref ((ad 0))), (1, .int (nI t)), (2, .int (nI b)), (3, .int (nI i)), (4, .int m0)]) hx hb dX3_poke_18 hl (by decide) rfl (fun ls hl => ?_)
    refine lv_iload_n hx hb dX3_poke_20 rfl (lv_at hl 4 rfl) ?_
    have hPc := hP.sub (ws' := []) [] rfl
    refine pu_call (va_runS (As := [.int (nI i)]) (rest := []) ⟨hx, hb, hml, hown, hts⟩ (c_isByte l D κ (nI i)) (va_cwS 1 hts gX3_poke_X3_isByteNumber rfl rfl rfl (by decide +kernel) ⟨Nat.le_of_ble_eq_true rfl, Nat.le_of_ble_eq_true rfl⟩) ⟨pu_blind, pu_pre hK hPc⟩ rfl rfl hl.1 rfl (lv_room (Nat.le_of_ble_eq_true rfl)) dX3_poke_21 ⟨Nat.le_of_ble_eq_true rfl, Nat.le_of_ble_eq_true rfl⟩) ?_
    refine lv_if_eq (tgt := 32) hx hb dX3_poke_24 (by decide) (fun c_24 => ?_) (fun c_24 => ?_)
    · exact (bI_ct (inF_nI hi (by omega)) c_24).elim
    · skip
      refine lv_iload hx hb dX3_poke_27 (lv_at hl 0 rfl) ?_
      refine lv_if_ne (tgt := 35) hx hb dX3_poke_29 (by decide) (fun c_29 => ?_) (fun c_29 => ?_)
      · skip
        refine lv_aload_n hx hb dX3_poke_35 rfl (lv_at hl 1 rfl) ?_
        refine va_get (D := D) (ci := 4) (v := .ref ((ad 1))) (C := RX3) (T := TX3) (N := 8) hx hb hts (by decide +kernel) hown hK hP 0 rfl rfl 2 (by decide) (hts (.fieldLink RX3 25 "TrackDisk" "disk" "LTrackDisk$Surface;") (by decide +kernel)) (fun _ h9 => h9) rfl dX3_poke_36 ?_
        refine lv_iload_n hx hb dX3_poke_39 rfl (lv_at hl 2 rfl) ?_
        refine lv_iload_n hx hb dX3_poke_40 rfl (lv_at hl 3 rfl) ?_
        have hPc := hP.sub (ws' := sfW κ T S (fun j => ad (j + 1)) bs sm pl r0 r1 tk vo) [1, 2, 3, 4, 5, 6] rfl
        refine pu_call (va_runV (As := [.int (nI t), .int (nI b)]) (rest := []) ⟨hx, hb, hml, hown, hts⟩ (c_firstByte l D κ T S (fun j => ad (j + 1)) bs sm pl r0 r1 tk vo hT hS8 hpl t b ht) (cwV 2 hts gX3_poke_X1_firstByte rfl rfl rfl (by decide +kernel) ⟨Nat.le_of_ble_eq_true rfl, Nat.le_of_ble_eq_true rfl⟩) ⟨pu_blind, va_recv hK hPc (ci := 2) (q0 := 0) rfl rfl, pu_pre hK hPc⟩ rfl rfl hl.1 rfl (lv_room (Nat.le_of_ble_eq_true rfl)) dX3_poke_41 ⟨Nat.le_of_ble_eq_true rfl, Nat.le_of_ble_eq_true rfl⟩) ?_
        refine lv_iload_n hx hb dX3_poke_44 rfl (lv_at hl 4 rfl) ?_
        refine lv_iadd hx hb dX3_poke_45 ?_
        refine tp_i (y := nI (((cl (pl t) * S + b) * 16) + i)) (by exact nI_add _ _) ?_
        refine lv_istore (lv' := [(6, .int (nI (((cl (pl t) * S + b) * 16) + i))), (5, .int ((m0 &&& (nI 255)))), (0, .ref ((ad 0))), (1, .int (nI t)), (2, .int (nI b)), (3, .int (nI i)), (4, .int m0)]) hx hb dX3_poke_46 hl (by decide) rfl (fun ls hl => ?_)
        refine lv_aload_n hx hb dX3_poke_48 rfl (lv_at hl 2 rfl) ?_
        refine va_get (D := D) (ci := 4) (v := .ref ((ad 1))) (C := RX3) (T := TX3) (N := 8) hx hb hts (by decide +kernel) hown hK hP 0 rfl rfl 2 (by decide) (hts (.fieldLink RX3 25 "TrackDisk" "disk" "LTrackDisk$Surface;") (by decide +kernel)) (fun _ h9 => h9) rfl dX3_poke_49 ?_
        refine va_get (D := D) (ci := 2) (v := .ref ((ad 2))) (C := RX1) (T := TX1) (N := 9) hx hb hts (by decide +kernel) hown hK hP 1 rfl rfl 2 (by decide) (hts (.fieldLink RX3 76 "TrackDisk$Surface" "bytes" "[B") (by decide +kernel)) (fun _ h9 => h9) rfl dX3_poke_52 ?_
        refine lv_iload hx hb dX3_poke_55 (lv_at hl 0 rfl) ?_
        refine va_bald hx hb hK hP 2 1 rfl rfl (vp_in_nI (by omega) (by omega)) dX3_poke_57 ?_
        refine tp_i (y := bs (((cl (pl t) * S + b) * 16) + i)) (by rw [nI_clamp (by omega)]) ?_
        refine lv_sipush (v := nI 255) hx hb dX3_poke_58 (by decide) ?_
        refine lv_iand hx hb dX3_poke_61 ?_
        refine lv_istore (lv' := [(7, .int (((bs (((cl (pl t) * S + b) * 16) + i)) &&& (nI 255)))), (6, .int (nI (((cl (pl t) * S + b) * 16) + i))), (5, .int ((m0 &&& (nI 255)))), (0, .ref ((ad 0))), (1, .int (nI t)), (2, .int (nI b)), (3, .int (nI i)), (4, .int m0)]) hx hb dX3_poke_62 hl (by decide) rfl (fun ls hl => ?_)
        refine lv_aload_n hx hb dX3_poke_64 rfl (lv_at hl 3 rfl) ?_
        refine va_get (D := D) (ci := 4) (v := .ref ((ad 1))) (C := RX3) (T := TX3) (N := 8) hx hb hts (by decide +kernel) hown hK hP 0 rfl rfl 2 (by decide) (hts (.fieldLink RX3 25 "TrackDisk" "disk" "LTrackDisk$Surface;") (by decide +kernel)) (fun _ h9 => h9) rfl dX3_poke_65 ?_
        refine va_get (D := D) (ci := 2) (v := .ref ((ad 2))) (C := RX1) (T := TX1) (N := 9) hx hb hts (by decide +kernel) hown hK hP 1 rfl rfl 2 (by decide) (hts (.fieldLink RX3 76 "TrackDisk$Surface" "bytes" "[B") (by decide +kernel)) (fun _ h9 => h9) rfl dX3_poke_68 ?_
        refine lv_iload hx hb dX3_poke_71 (lv_at hl 1 rfl) ?_
        refine lv_iload hx hb dX3_poke_73 (lv_at hl 0 rfl) ?_
        refine lv_iload hx hb dX3_poke_75 (lv_at hl 2 rfl) ?_
        refine lv_ixor hx hb dX3_poke_77 ?_
        refine lv_i2b (v := ((((bs (((cl (pl t) * S + b) * 16) + i)) &&& (nI 255)) ^^^ (m0 &&& (nI 255)))).toInt8.toInt32) hx hb dX3_poke_78 rfl ?_
        refine va_bast hx hb hK hP hD hS 2 1 rfl rfl (vp_in_nI (by omega) (by omega)) dX3_poke_79 (fun H locs hP hD hS => ?_)
        rw [nI_clamp (n := ((cl (pl t) * S + b) * 16) + i) (by omega)] at hP hD
        rw [pk_vb] at hP hD
        have hP : va_P D vwCl (tdW κ T S ad (upd (bs) (((cl (pl t) * S + b) * 16) + i) (((((bs (((cl (pl t) * S + b) * 16) + i)) &&& (nI 255)) ^^^ (m0 &&& (nI 255)))).toInt8.toInt32)) sm pl r0 r1 tk vo du nd wt wx wb wn tp tn ts dn) H := hP
        have hD : va_D A (tdW κ T S ad (upd (bs) (((cl (pl t) * S + b) * 16) + i) (((((bs (((cl (pl t) * S + b) * 16) + i)) &&& (nI 255)) ^^^ (m0 &&& (nI 255)))).toInt8.toInt32)) sm pl r0 r1 tk vo du nd wt wx wb wn tp tn ts dn) := hD
        refine lv_iload hx hb dX3_poke_80 (lv_at hl 0 rfl) ?_
        have hP9 : va_P D vwCl (tdW κ T S ad (upd bs ((cl (pl t) * S + b) * 16 + i) (((bs ((cl (pl t) * S + b) * 16 + i) &&& nI 255) ^^^ (m0 &&& nI 255)).toInt8.toInt32)) sm pl r0 r1 tk vo du nd wt wx wb wn tp tn ts dn) H := hP
        have hD9 : va_D A (tdW κ T S ad (upd bs ((cl (pl t) * S + b) * 16 + i) (((bs ((cl (pl t) * S + b) * 16 + i) &&& nI 255) ^^^ (m0 &&& nI 255)).toInt8.toInt32)) sm pl r0 r1 tk vo du nd wt wx wb wn tp tn ts dn) := hD
        refine tp_i (y := bs ((cl (pl t) * S + b) * 16 + i) &&& nI 255) (by rfl) ?_
        exact W.iret hx hb hr (fun t ht _ => ⟨⟨rfl, by rw [ht]; exact hP9, hD9⟩, hS.F ht⟩) hS.2.2 dX3_poke_82 hlocks
      · exact absurd c_29 hm
  · exact (bI_ct (by rw [inF_nI ht (by omega), inF_nI hb0 (by omega)]; rfl) c_6).elim

set_option maxHeartbeats 4000000 in
set_option maxRecDepth 100000 in
/-- read -/
theorem c_read (l : Launch) (D : va_G) (κ : Nat → ClassId) (sz : Nat) (T S : Nat) (ad : Nat → Nat) (bs sm pl r0 r1 : Nat → Int32) (tk vo : Int32) (du : Nat → Option Nat) (nd : Int32) (wt wx wb : Nat → Int32) (wn : Int32) (tp : Nat → Int32) (tn ts dn : Int32) (hT : T ≤ 12) (hS8 : S ≤ 8) (hpl : ∀ t, t < T → vp_in (pl t) (T + 2)) (t b : Nat) (ht : t < T) (hb0 : b < S) (i : Nat) (hi : i < 16) (hby : isB bs) : Met l yX3_read wsX3_read ({ frames := 2, cells := 0, slots := 0, locals := 44 }) (va_Pc [.ref ((ad 0)), .int (nI t), .int (nI b), .int (nI i)] (mu_B D κ (tdW κ T S ad bs sm pl r0 r1 tk vo du nd wt wx wb wn tp tn ts dn) sz)) (mu_Q D (some (.int (bs ((cl (pl t) * S + b) * 16 + i)))) (tdW κ T S ad bs sm pl r0 r1 tk vo du nd wt wx wb wn tp tn ts dn) (va_A (tdW κ T S ad bs sm pl r0 r1 tk vo du nd wt wx wb wn tp tn ts dn) sz)) 0 0 (va_A (tdW κ T S ad bs sm pl r0 r1 tk vo du nd wt wx wb wn tp tn ts dn) sz) := by
  refine Met.ofW (cc := cX3_read) (maxL := 4) (ret := (some .byte)) (by decide) rfl ?_
  intro p e s m args below meth c s₁ B hml hv
  obtain ⟨rfl, hsz, hP, hK, hD0⟩ := hv
  have hx := B.exec
  have hb := B.bytes
  have hr := B.returns
  have hts := atoms_spec (ws := wsX3_read) B.pre
  have hown : s.vm.findClass RX3 = some m.cls := findClass_of_methodNamed B.named
  have hlocks := B.notSynchronized
  subst hsz
  have hD := hD0.self (sz := s.heap.size)
  generalize hAe : va_A (tdW κ T S ad bs sm pl r0 r1 tk vo du nd wt wx wb wn tp tn ts dn) s.heap.size = A at hD ⊢
  have hA : ∀ q : Nat, s.heap.size ≤ q → A q := fun q h => by rw [← hAe]; exact Or.inr h
  refine W.gen (P := fun H locs => va_P D vwCl (tdW κ T S ad bs sm pl r0 r1 tk vo du nd wt wx wb wn tp tn ts dn) H ∧ va_S A s.heap H locs) (fun H locs h => ?_) ⟨hP, va_S.rf⟩
  clear hP
  obtain ⟨hP, hS⟩ := h
  have hl := lv_entry ([.ref ((ad 0)), .int (nI t), .int (nI b), .int (nI i)]) (n := 4) (Nat.le_of_ble_eq_true rfl)
  rw [lg_entry_eq]
  generalize (lg_sl ([.ref ((ad 0)), .int (nI t), .int (nI b), .int (nI i)]) ++ List.replicate (4 - (lg_sl ([.ref ((ad 0)), .int (nI t), .int (nI b), .int (nI i)])).length) Slot.unset).toArray = ls at hl ⊢
  have hl : lv_has ls 4 [(0, .ref ((ad 0))), (1, .int (nI t)), (2, .int (nI b)), (3, .int (nI i))] := hl
  have hmx := sf_max hT hS8
  have hplt := cl_nI (hpl t ht) (by omega)
  have hlt := sf_lt hplt.2 hb0 hi
  refine lv_aload_n hx hb dX3_read_0 rfl (lv_at hl 0 rfl) ?_
  refine lv_iload_n hx hb dX3_read_1 rfl (lv_at hl 1 rfl) ?_
  refine lv_iload_n hx hb dX3_read_2 rfl (lv_at hl 2 rfl) ?_
  have hPc := hP.sub (ws' := tdW κ T S ad bs sm pl r0 r1 tk vo du nd wt wx wb wn tp tn ts dn) [0, 1, 2, 3, 4, 5, 6, 7, 8, 9, 10, 11, 12, 13] rfl
  refine pu_call (va_runV (As := [.int (nI t), .int (nI b)]) (rest := []) ⟨hx, hb, hml, hown, hts⟩ (c_hasSector l D κ T S ad bs sm pl r0 r1 tk vo du nd wt wx wb wn tp tn ts dn (nI t) (nI b)) (cwV 2 hts gX3_read_X3_hasSector rfl rfl rfl (by decide +kernel) ⟨Nat.le_of_ble_eq_true rfl, Nat.le_of_ble_eq_true rfl⟩) ⟨pu_blind, va_recv hK hPc (ci := 4) (q0 := 0) rfl rfl, pu_pre hK hPc⟩ rfl rfl hl.1 rfl (lv_room (Nat.le_of_ble_eq_true rfl)) dX3_read_3 ⟨Nat.le_of_ble_eq_true rfl, Nat.le_of_ble_eq_true rfl⟩) ?_
  refine lv_if_eq (tgt := 16) hx hb dX3_read_6 (by decide) (fun c_6 => ?_) (fun c_6 => ?_)
  · exact (bI_ct (by rw [inF_nI ht (by omega), inF_nI hb0 (by omega)]; rfl) c_6).elim
  · skip
    refine lv_iload_n hx hb dX3_read_9 rfl (lv_at hl 3 rfl) ?_
    have hPc := hP.sub (ws' := []) [] rfl
    refine pu_call (va_runS (As := [.int (nI i)]) (rest := []) ⟨hx, hb, hml, hown, hts⟩ (c_isByte l D κ (nI i)) (va_cwS 1 hts gX3_read_X3_isByteNumber rfl rfl rfl (by decide +kernel) ⟨Nat.le_of_ble_eq_true rfl, Nat.le_of_ble_eq_true rfl⟩) ⟨pu_blind, pu_pre hK hPc⟩ rfl rfl hl.1 rfl (lv_room (Nat.le_of_ble_eq_true rfl)) dX3_read_10 ⟨Nat.le_of_ble_eq_true rfl, Nat.le_of_ble_eq_true rfl⟩) ?_
    refine lv_if_ne (tgt := 26) hx hb dX3_read_13 (by decide) (fun c_13 => ?_) (fun c_13 => ?_)
    · skip
      refine lv_aload_n hx hb dX3_read_26 rfl (lv_at hl 0 rfl) ?_
      refine va_get (D := D) (ci := 4) (v := .ref ((ad 1))) (C := RX3) (T := TX3) (N := 8) hx hb hts (by decide +kernel) hown hK hP 0 rfl rfl 2 (by decide) (hts (.fieldLink RX3 25 "TrackDisk" "disk" "LTrackDisk$Surface;") (by decide +kernel)) (fun _ h9 => h9) rfl dX3_read_27 ?_
      refine va_get (D := D) (ci := 2) (v := .ref ((ad 2))) (C := RX1) (T := TX1) (N := 9) hx hb hts (by decide +kernel) hown hK hP 1 rfl rfl 2 (by decide) (hts (.fieldLink RX3 76 "TrackDisk$Surface" "bytes" "[B") (by decide +kernel)) (fun _ h9 => h9) rfl dX3_read_30 ?_
      refine lv_aload_n hx hb dX3_read_33 rfl (lv_at hl 0 rfl) ?_
      refine va_get (D := D) (ci := 4) (v := .ref ((ad 1))) (C := RX3) (T := TX3) (N := 8) hx hb hts (by decide +kernel) hown hK hP 0 rfl rfl 2 (by decide) (hts (.fieldLink RX3 25 "TrackDisk" "disk" "LTrackDisk$Surface;") (by decide +kernel)) (fun _ h9 => h9) rfl dX3_read_34 ?_
      refine lv_iload_n hx hb dX3_read_37 rfl (lv_at hl 1 rfl) ?_
      refine lv_iload_n hx hb dX3_read_38 rfl (lv_at hl 2 rfl) ?_
      have hPc := hP.sub (ws' := sfW κ T S (fun j => ad (j + 1)) bs sm pl r0 r1 tk vo) [1, 2, 3, 4, 5, 6] rfl
      refine pu_call (va_runV (As := [.int (nI t), .int (nI b)]) (rest := [.ref ((ad 2))]) ⟨hx, hb, hml, hown, hts⟩ (c_firstByte l D κ T S (fun j => ad (j + 1)) bs sm pl r0 r1 tk vo hT hS8 hpl t b ht) (cwV 2 hts gX3_read_X1_firstByte rfl rfl rfl (by decide +kernel) ⟨Nat.le_of_ble_eq_true rfl, Nat.le_of_ble_eq_true rfl⟩) ⟨pu_blind, va_recv hK hPc (ci := 2) (q0 := 0) rfl rfl, pu_pre hK hPc⟩ rfl rfl hl.1 rfl (lv_room (Nat.le_of_ble_eq_true rfl)) dX3_read_39 ⟨Nat.le_of_ble_eq_true rfl, Nat.le_of_ble_eq_true rfl⟩) ?_
      refine lv_iload_n hx hb dX3_read_42 rfl (lv_at hl 3 rfl) ?_
      refine lv_iadd hx hb dX3_read_43 ?_
      refine tp_i (y := nI (((cl (pl t) * S + b) * 16) + i)) (by exact nI_add _ _) ?_
      refine va_bald hx hb hK hP 2 1 rfl rfl (vp_in_nI (by omega) (by omega)) dX3_read_44 ?_
      refine tp_i (y := bs (((cl (pl t) * S + b) * 16) + i)) (by rw [nI_clamp (by omega)]) ?_
      have hP9 : va_P D vwCl (tdW κ T S ad bs sm pl r0 r1 tk vo du nd wt wx wb wn tp tn ts dn) H := hP
      have hD9 : va_D A (tdW κ T S ad bs sm pl r0 r1 tk vo du nd wt wx wb wn tp tn ts dn) := hD
      refine tp_i (y := bs ((cl (pl t) * S + b) * 16 + i)) (by rfl) ?_
      exact W.zret hx hb hr (hby.nar _) (fun t ht _  => ⟨⟨rfl, by rw [ht]; exact hP9, hD9⟩, hS.F ht⟩) hS.2.2 dX3_read_45 hlocks
    · exact (bI_ct (inF_nI hi (by omega)) c_13).elim

set_option maxHeartbeats 4000000 in
set_option maxRecDepth 100000 in
/-- wrong(0) -/
theorem c_wrong_0 (l : Launch) (D : va_G) (κ : Nat → ClassId) (sz : Nat) (T S : Nat) (ad : Nat → Nat) (bs sm pl r0 r1 : Nat → Int32) (tk vo : Int32) (du : Nat → Option Nat) (nd : Int32) (wt wx wb : Nat → Int32) (wn : Int32) (tp : Nat → Int32) (tn ts dn : Int32) (hT : T ≤ 12) (hS8 : S ≤ 8) (hpl : ∀ t, t < T → vp_in (pl t) (T + 2))  : Met l yX3_wrong wsX3_wrong ({ frames := 4, cells := 0, slots := 0, locals := 94 }) (va_Pc [.ref ((ad 0)), .int (nI 0)] (mu_B D κ (tdW κ T S ad bs sm pl r0 r1 tk vo du nd wt wx wb wn tp tn ts dn) sz)) (mu_Q D (some (.int (nI (cn2 (iwF bs sm pl S) S T)))) (tdW κ T S ad bs sm pl r0 r1 tk vo du nd wt wx wb wn tp tn ts dn) (va_A (tdW κ T S ad bs sm pl r0 r1 tk vo du nd wt wx wb wn tp tn ts dn) sz)) 0 0 (va_A (tdW κ T S ad bs sm pl r0 r1 tk vo du nd wt wx wb wn tp tn ts dn) sz) := by
  refine Met.ofW (cc := cX3_wrong) (maxL := 3) (ret := (some .int)) (by decide) rfl ?_
  intro p e s m args below meth c s₁ B hml hv
  obtain ⟨rfl, hsz, hP, hK, hD0⟩ := hv
  have hx := B.exec
  have hb := B.bytes
  have hr := B.returns
  have hts := atoms_spec (ws := wsX3_wrong) B.pre
  have hown : s.vm.findClass RX3 = some m.cls := findClass_of_methodNamed B.named
  have hlocks := B.notSynchronized
  subst hsz
  have hD := hD0.self (sz := s.heap.size)
  generalize hAe : va_A (tdW κ T S ad bs sm pl r0 r1 tk vo du nd wt wx wb wn tp tn ts dn) s.heap.size = A at hD ⊢
  have hA : ∀ q : Nat, s.heap.size ≤ q → A q := fun q h => by rw [← hAe]; exact Or.inr h
  refine W.gen (P := fun H locs => va_P D vwCl (tdW κ T S ad bs sm pl r0 r1 tk vo du nd wt wx wb wn tp tn ts dn) H ∧ va_S A s.heap H locs) (fun H locs h => ?_) ⟨hP, va_S.rf⟩
  clear hP
  obtain ⟨hP, hS⟩ := h
  have hl := lv_entry ([.ref ((ad 0)), .int (nI 0)]) (n := 3) (Nat.le_of_ble_eq_true rfl)
  rw [lg_entry_eq]
  generalize (lg_sl ([.ref ((ad 0)), .int (nI 0)]) ++ List.replicate (3 - (lg_sl ([.ref ((ad 0)), .int (nI 0)])).length) Slot.unset).toArray = ls at hl ⊢
  have hl : lv_has ls 3 [(0, .ref ((ad 0))), (1, .int (nI 0))] := hl
  refine lv_iload_n hx hb dX3_wrong_0 rfl (lv_at hl 1 rfl) ?_
  refine lv_if_ne (tgt := 12) hx hb dX3_wrong_1 (by decide) (fun c_1 => ?_) (fun c_1 => ?_)
  · exact absurd (by decide) c_1
  · skip
    refine lv_aload_n hx hb dX3_wrong_4 rfl (lv_at hl 0 rfl) ?_
    refine va_get (D := D) (ci := 4) (v := .ref ((ad 1))) (C := RX3) (T := TX3) (N := 8) hx hb hts (by decide +kernel) hown hK hP 0 rfl rfl 2 (by decide) (hts (.fieldLink RX3 25 "TrackDisk" "disk" "LTrackDisk$Surface;") (by decide +kernel)) (fun _ h9 => h9) rfl dX3_wrong_5 ?_
    have hPc := hP.sub (ws' := sfW κ T S (fun j => ad (j + 1)) bs sm pl r0 r1 tk vo) [1, 2, 3, 4, 5, 6] rfl
    refine pu_call (va_runV (As := []) (rest := []) ⟨hx, hb, hml, hown, hts⟩ (c_wrongSectors l D κ T S (fun j => ad (j + 1)) bs sm pl r0 r1 tk vo hT hS8 hpl) (cwV 0 hts gX3_wrong_X1_wrongSectors rfl rfl rfl (by decide +kernel) ⟨Nat.le_of_ble_eq_true rfl, Nat.le_of_ble_eq_true rfl⟩) ⟨pu_blind, va_recv hK hPc (ci := 2) (q0 := 0) rfl rfl, pu_pre hK hPc⟩ rfl rfl hl.1 rfl (lv_room (Nat.le_of_ble_eq_true rfl)) dX3_wrong_8 ⟨Nat.le_of_ble_eq_true rfl, Nat.le_of_ble_eq_true rfl⟩) ?_
    have hP9 : va_P D vwCl (tdW κ T S ad bs sm pl r0 r1 tk vo du nd wt wx wb wn tp tn ts dn) H := hP
    have hD9 : va_D A (tdW κ T S ad bs sm pl r0 r1 tk vo du nd wt wx wb wn tp tn ts dn) := hD
    exact W.iret hx hb hr (fun t ht _ => ⟨⟨rfl, by rw [ht]; exact hP9, hD9⟩, hS.F ht⟩) hS.2.2 dX3_wrong_11 hlocks

set_option maxHeartbeats 4000000 in
set_option maxRecDepth 100000 in
/-- wrong of others -/
theorem c_wrong_no (l : Launch) (D : va_G) (κ : Nat → ClassId) (sz : Nat) (T S : Nat) (ad : Nat → Nat) (bs sm pl r0 r1 : Nat → Int32) (tk vo : Int32) (du : Nat → Option Nat) (nd : Int32) (wt wx wb : Nat → Int32) (wn : Int32) (tp : Nat → Int32) (tn ts dn : Int32) (x : Int32) (h0 : ¬ x = 0) (h1 : ¬ x = nI 1) (h2 : ¬ x = nI 2) : Met l yX3_wrong wsX3_wrong ({ frames := 0, cells := 0, slots := 0, locals := 0 }) (va_Pc [.ref ((ad 0)), .int x] (mu_B D κ (tdW κ T S ad bs sm pl r0 r1 tk vo du nd wt wx wb wn tp tn ts dn) sz)) (mu_Q D (some (.int ((-1)))) (tdW κ T S ad bs sm pl r0 r1 tk vo du nd wt wx wb wn tp tn ts dn) (va_A (tdW κ T S ad bs sm pl r0 r1 tk vo du nd wt wx wb wn tp tn ts dn) sz)) 0 0 (va_A (tdW κ T S ad bs sm pl r0 r1 tk vo du nd wt wx wb wn tp tn ts dn) sz) := by
  refine Met.ofW (cc := cX3_wrong) (maxL := 3) (ret := (some .int)) (by decide) rfl ?_
  intro p e s m args below meth c s₁ B hml hv
  obtain ⟨rfl, hsz, hP, hK, hD0⟩ := hv
  have hx := B.exec
  have hb := B.bytes
  have hr := B.returns
  have hts := atoms_spec (ws := wsX3_wrong) B.pre
  have hown : s.vm.findClass RX3 = some m.cls := findClass_of_methodNamed B.named
  have hlocks := B.notSynchronized
  subst hsz
  have hD := hD0.self (sz := s.heap.size)
  generalize hAe : va_A (tdW κ T S ad bs sm pl r0 r1 tk vo du nd wt wx wb wn tp tn ts dn) s.heap.size = A at hD ⊢
  have hA : ∀ q : Nat, s.heap.size ≤ q → A q := fun q h => by rw [← hAe]; exact Or.inr h
  refine W.gen (P := fun H locs => va_P D vwCl (tdW κ T S ad bs sm pl r0 r1 tk vo du nd wt wx wb wn tp tn ts dn) H ∧ va_S A s.heap H locs) (fun H locs h => ?_) ⟨hP, va_S.rf⟩
  clear hP
  obtain ⟨hP, hS⟩ := h
  have hl := lv_entry ([.ref ((ad 0)), .int x]) (n := 3) (Nat.le_of_ble_eq_true rfl)
  rw [lg_entry_eq]
  generalize (lg_sl ([.ref ((ad 0)), .int x]) ++ List.replicate (3 - (lg_sl ([.ref ((ad 0)), .int x])).length) Slot.unset).toArray = ls at hl ⊢
  have hl : lv_has ls 3 [(0, .ref ((ad 0))), (1, .int x)] := hl
  refine lv_iload_n hx hb dX3_wrong_0 rfl (lv_at hl 1 rfl) ?_
  refine lv_if_ne (tgt := 12) hx hb dX3_wrong_1 (by decide) (fun c_1 => ?_) (fun c_1 => ?_)
  · skip
    refine lv_iload_n hx hb dX3_wrong_12 rfl (lv_at hl 1 rfl) ?_
    refine lv_iconst (v := nI 1) hx hb dX3_wrong_13 (by decide) ?_
    refine lv_icmp_eq (tgt := 24) hx hb dX3_wrong_14 (by decide) (fun c_14 => ?_) (fun c_14 => ?_)
    · exact absurd c_14 h1
    · skip
      refine lv_iload_n hx hb dX3_wrong_17 rfl (lv_at hl 1 rfl) ?_
      refine lv_iconst (v := nI 2) hx hb dX3_wrong_18 (by decide) ?_
      refine lv_icmp_eq (tgt := 24) hx hb dX3_wrong_19 (by decide) (fun c_19 => ?_) (fun c_19 => ?_)
      · exact absurd c_19 h2
      · skip
        refine lv_iconst (v := (-1)) hx hb dX3_wrong_22 (by decide) ?_
        have hP9 : va_P D vwCl (tdW κ T S ad bs sm pl r0 r1 tk vo du nd wt wx wb wn tp tn ts dn) H := hP
        have hD9 : va_D A (tdW κ T S ad bs sm pl r0 r1 tk vo du nd wt wx wb wn tp tn ts dn) := hD
        exact W.iret hx hb hr (fun t ht _ => ⟨⟨rfl, by rw [ht]; exact hP9, hD9⟩, hS.F ht⟩) hS.2.2 dX3_wrong_23 hlocks
  · exact absurd c_1 h0

set_option maxHeartbeats 4000000 in
set_option maxRecDepth 100000 in
/-- wrong(1): none -/
theorem c_wrong_n1 (l : Launch) (D : va_G) (κ : Nat → ClassId) (sz : Nat) (T S : Nat) (ad : Nat → Nat) (bs sm pl r0 r1 : Nat → Int32) (tk vo : Int32) (du : Nat → Option Nat) (nd : Int32) (wt wx wb : Nat → Int32) (wn : Int32) (tp : Nat → Int32) (tn ts dn : Int32) (hT : T ≤ 12) (hS8 : S ≤ 8) (hpl : ∀ t, t < T → vp_in (pl t) (T + 2)) (hfw : fwS (iwF bs sm pl S) T S (-1)) : Met l yX3_wrong wsX3_wrong ({ frames := 4, cells := 0, slots := 0, locals := 93 }) (va_Pc [.ref ((ad 0)), .int (nI 1)] (mu_B D κ (tdW κ T S ad bs sm pl r0 r1 tk vo du nd wt wx wb wn tp tn ts dn) sz)) (mu_Q D (some (.int ((-1)))) (tdW κ T S ad bs sm pl r0 r1 tk vo du nd wt wx wb wn tp tn ts dn) (va_A (tdW κ T S ad bs sm pl r0 r1 tk vo du nd wt wx wb wn tp tn ts dn) sz)) 0 0 (va_A (tdW κ T S ad bs sm pl r0 r1 tk vo du nd wt wx wb wn tp tn ts dn) sz) := by
  refine Met.ofW (cc := cX3_wrong) (maxL := 3) (ret := (some .int)) (by decide) rfl ?_
  intro p e s m args below meth c s₁ B hml hv
  obtain ⟨rfl, hsz, hP, hK, hD0⟩ := hv
  have hx := B.exec
  have hb := B.bytes
  have hr := B.returns
  have hts := atoms_spec (ws := wsX3_wrong) B.pre
  have hown : s.vm.findClass RX3 = some m.cls := findClass_of_methodNamed B.named
  have hlocks := B.notSynchronized
  subst hsz
  have hD := hD0.self (sz := s.heap.size)
  generalize hAe : va_A (tdW κ T S ad bs sm pl r0 r1 tk vo du nd wt wx wb wn tp tn ts dn) s.heap.size = A at hD ⊢
  have hA : ∀ q : Nat, s.heap.size ≤ q → A q := fun q h => by rw [← hAe]; exact Or.inr h
  refine W.gen (P := fun H locs => va_P D vwCl (tdW κ T S ad bs sm pl r0 r1 tk vo du nd wt wx wb wn tp tn ts dn) H ∧ va_S A s.heap H locs) (fun H locs h => ?_) ⟨hP, va_S.rf⟩
  clear hP
  obtain ⟨hP, hS⟩ := h
  have hl := lv_entry ([.ref ((ad 0)), .int (nI 1)]) (n := 3) (Nat.le_of_ble_eq_true rfl)
  rw [lg_entry_eq]
  generalize (lg_sl ([.ref ((ad 0)), .int (nI 1)]) ++ List.replicate (3 - (lg_sl ([.ref ((ad 0)), .int (nI 1)])).length) Slot.unset).toArray = ls at hl ⊢
  have hl : lv_has ls 3 [(0, .ref ((ad 0))), (1, .int (nI 1))] := hl
  refine lv_iload_n hx hb dX3_wrong_0 rfl (lv_at hl 1 rfl) ?_
  refine lv_if_ne (tgt := 12) hx hb dX3_wrong_1 (by decide) (fun c_1 => ?_) (fun c_1 => ?_)
  · skip
    refine lv_iload_n hx hb dX3_wrong_12 rfl (lv_at hl 1 rfl) ?_
    refine lv_iconst (v := nI 1) hx hb dX3_wrong_13 (by decide) ?_
    refine lv_icmp_eq (tgt := 24) hx hb dX3_wrong_14 (by decide) (fun c_14 => ?_) (fun c_14 => ?_)
    · skip
      refine lv_aload_n hx hb dX3_wrong_24 rfl (lv_at hl 0 rfl) ?_
      refine va_get (D := D) (ci := 4) (v := .ref ((ad 1))) (C := RX3) (T := TX3) (N := 8) hx hb hts (by decide +kernel) hown hK hP 0 rfl rfl 2 (by decide) (hts (.fieldLink RX3 25 "TrackDisk" "disk" "LTrackDisk$Surface;") (by decide +kernel)) (fun _ h9 => h9) rfl dX3_wrong_25 ?_
      have hPc := hP.sub (ws' := sfW κ T S (fun j => ad (j + 1)) bs sm pl r0 r1 tk vo) [1, 2, 3, 4, 5, 6] rfl
      refine pu_call (va_runV (As := []) (rest := []) ⟨hx, hb, hml, hown, hts⟩ (c_firstWrong l D κ T S (fun j => ad (j + 1)) bs sm pl r0 r1 tk vo hT hS8 hpl (-1) hfw) (cwV 0 hts gX3_wrong_X1_firstWrong rfl rfl rfl (by decide +kernel) ⟨Nat.le_of_ble_eq_true rfl, Nat.le_of_ble_eq_true rfl⟩) ⟨pu_blind, va_recv hK hPc (ci := 2) (q0 := 0) rfl rfl, pu_pre hK hPc⟩ rfl rfl hl.1 rfl (lv_room (Nat.le_of_ble_eq_true rfl)) dX3_wrong_28 ⟨Nat.le_of_ble_eq_true rfl, Nat.le_of_ble_eq_true rfl⟩) ?_
      refine lv_istore_n (lv' := [(2, .int ((-1))), (0, .ref ((ad 0))), (1, .int (nI 1))]) hx hb dX3_wrong_31 rfl hl (by decide) rfl (fun ls hl => ?_)
      refine lv_iload_n hx hb dX3_wrong_32 rfl (lv_at hl 0 rfl) ?_
      refine lv_iconst (v := (-1)) hx hb dX3_wrong_33 (by decide) ?_
      refine lv_icmp_ne (tgt := 39) hx hb dX3_wrong_34 (by decide) (fun c_34 => ?_) (fun c_34 => ?_)
      · exact absurd (by decide) c_34
      · skip
        refine lv_iconst (v := (-1)) hx hb dX3_wrong_37 (by decide) ?_
        have hP9 : va_P D vwCl (tdW κ T S ad bs sm pl r0 r1 tk vo du nd wt wx wb wn tp tn ts dn) H := hP
        have hD9 : va_D A (tdW κ T S ad bs sm pl r0 r1 tk vo du nd wt wx wb wn tp tn ts dn) := hD
        exact W.iret hx hb hr (fun t ht _ => ⟨⟨rfl, by rw [ht]; exact hP9, hD9⟩, hS.F ht⟩) hS.2.2 dX3_wrong_38 hlocks
    · exact absurd (by decide) c_14
  · exact absurd c_1 (by decide)

set_option maxHeartbeats 4000000 in
set_option maxRecDepth 100000 in
/-- wrong(1) -/
theorem c_wrong_1 (l : Launch) (D : va_G) (κ : Nat → ClassId) (sz : Nat) (T S : Nat) (ad : Nat → Nat) (bs sm pl r0 r1 : Nat → Int32) (tk vo : Int32) (du : Nat → Option Nat) (nd : Int32) (wt wx wb : Nat → Int32) (wn : Int32) (tp : Nat → Int32) (tn ts dn : Int32) (hT : T ≤ 12) (hS8 : S ≤ 8) (hpl : ∀ t, t < T → vp_in (pl t) (T + 2)) (u v : Nat) (hu : u < T) (hv : v < S) (hfw : fwS (iwF bs sm pl S) T S (nI (u * 8 + v))) : Met l yX3_wrong wsX3_wrong ({ frames := 4, cells := 0, slots := 0, locals := 93 }) (va_Pc [.ref ((ad 0)), .int (nI 1)] (mu_B D κ (tdW κ T S ad bs sm pl r0 r1 tk vo du nd wt wx wb wn tp tn ts dn) sz)) (mu_Q D (some (.int (nI u))) (tdW κ T S ad bs sm pl r0 r1 tk vo du nd wt wx wb wn tp tn ts dn) (va_A (tdW κ T S ad bs sm pl r0 r1 tk vo du nd wt wx wb wn tp tn ts dn) sz)) 0 0 (va_A (tdW κ T S ad bs sm pl r0 r1 tk vo du nd wt wx wb wn tp tn ts dn) sz) := by
  refine Met.ofW (cc := cX3_wrong) (maxL := 3) (ret := (some .int)) (by decide) rfl ?_
  intro p e s m args below meth c s₁ B hml hv
  obtain ⟨rfl, hsz, hP, hK, hD0⟩ := hv
  have hx := B.exec
  have hb := B.bytes
  have hr := B.returns
  have hts := atoms_spec (ws := wsX3_wrong) B.pre
  have hown : s.vm.findClass RX3 = some m.cls := findClass_of_methodNamed B.named
  have hlocks := B.notSynchronized
  subst hsz
  have hD := hD0.self (sz := s.heap.size)
  generalize hAe : va_A (tdW κ T S ad bs sm pl r0 r1 tk vo du nd wt wx wb wn tp tn ts dn) s.heap.size = A at hD ⊢
  have hA : ∀ q : Nat, s.heap.size ≤ q → A q := fun q h => by rw [← hAe]; exact Or.inr h
  refine W.gen (P := fun H locs => va_P D vwCl (tdW κ T S ad bs sm pl r0 r1 tk vo du nd wt wx wb wn tp tn ts dn) H ∧ va_S A s.heap H locs) (fun H locs h => ?_) ⟨hP, va_S.rf⟩
  clear hP
  obtain ⟨hP, hS⟩ := h
  have hl := lv_entry ([.ref ((ad 0)), .int (nI 1)]) (n := 3) (Nat.le_of_ble_eq_true rfl)
  rw [lg_entry_eq]
  generalize (lg_sl ([.ref ((ad 0)), .int (nI 1)]) ++ List.replicate (3 - (lg_sl ([.ref ((ad 0)), .int (nI 1)])).length) Slot.unset).toArray = ls at hl ⊢
  have hl : lv_has ls 3 [(0, .ref ((ad 0))), (1, .int (nI 1))] := hl
  refine lv_iload_n hx hb dX3_wrong_0 rfl (lv_at hl 1 rfl) ?_
  refine lv_if_ne (tgt := 12) hx hb dX3_wrong_1 (by decide) (fun c_1 => ?_) (fun c_1 => ?_)
  · skip
    refine lv_iload_n hx hb dX3_wrong_12 rfl (lv_at hl 1 rfl) ?_
    refine lv_iconst (v := nI 1) hx hb dX3_wrong_13 (by decide) ?_
    refine lv_icmp_eq (tgt := 24) hx hb dX3_wrong_14 (by decide) (fun c_14 => ?_) (fun c_14 => ?_)
    · skip
      refine lv_aload_n hx hb dX3_wrong_24 rfl (lv_at hl 0 rfl) ?_
      refine va_get (D := D) (ci := 4) (v := .ref ((ad 1))) (C := RX3) (T := TX3) (N := 8) hx hb hts (by decide +kernel) hown hK hP 0 rfl rfl 2 (by decide) (hts (.fieldLink RX3 25 "TrackDisk" "disk" "LTrackDisk$Surface;") (by decide +kernel)) (fun _ h9 => h9) rfl dX3_wrong_25 ?_
      have hPc := hP.sub (ws' := sfW κ T S (fun j => ad (j + 1)) bs sm pl r0 r1 tk vo) [1, 2, 3, 4, 5, 6] rfl
      refine pu_call (va_runV (As := []) (rest := []) ⟨hx, hb, hml, hown, hts⟩ (c_firstWrong l D κ T S (fun j => ad (j + 1)) bs sm pl r0 r1 tk vo hT hS8 hpl (nI (u * 8 + v)) hfw) (cwV 0 hts gX3_wrong_X1_firstWrong rfl rfl rfl (by decide +kernel) ⟨Nat.le_of_ble_eq_true rfl, Nat.le_of_ble_eq_true rfl⟩) ⟨pu_blind, va_recv hK hPc (ci := 2) (q0 := 0) rfl rfl, pu_pre hK hPc⟩ rfl rfl hl.1 rfl (lv_room (Nat.le_of_ble_eq_true rfl)) dX3_wrong_28 ⟨Nat.le_of_ble_eq_true rfl, Nat.le_of_ble_eq_true rfl⟩) ?_
      refine lv_istore_n (lv' := [(2, .int ((nI (u * 8 + v)))), (0, .ref ((ad 0))), (1, .int (nI 1))]) hx hb dX3_wrong_31 rfl hl (by decide) rfl (fun ls hl => ?_)
      refine lv_iload_n hx hb dX3_wrong_32 rfl (lv_at hl 0 rfl) ?_
      refine lv_iconst (v := (-1)) hx hb dX3_wrong_33 (by decide) ?_
      refine lv_icmp_ne (tgt := 39) hx hb dX3_wrong_34 (by decide) (fun c_34 => ?_) (fun c_34 => ?_)
      · skip
        refine lv_iload_n hx hb dX3_wrong_39 rfl (lv_at hl 2 rfl) ?_
        refine lv_iconst (v := nI 1) hx hb dX3_wrong_40 (by decide) ?_
        refine lv_icmp_ne (tgt := 51) hx hb dX3_wrong_41 (by decide) (fun c_41 => ?_) (fun c_41 => ?_)
        · exact absurd (by decide) c_41
        · skip
          refine lv_iload_n hx hb dX3_wrong_44 rfl (lv_at hl 0 rfl) ?_
          refine lv_bipush (v := nI 8) hx hb dX3_wrong_45 (by decide) ?_
          refine lv_idiv hx hb dX3_wrong_47 (by decide) ?_
          refine tp_i (y := nI u) (by rw [pk_div (by omega) (by omega) (by omega)]; congr 1; omega) ?_
          refine lv_goto (tgt := 55) hx hb dX3_wrong_48 (by decide) ?_
          have hP9 : va_P D vwCl (tdW κ T S ad bs sm pl r0 r1 tk vo du nd wt wx wb wn tp tn ts dn) H := hP
          have hD9 : va_D A (tdW κ T S ad bs sm pl r0 r1 tk vo du nd wt wx wb wn tp tn ts dn) := hD
          exact W.iret hx hb hr (fun t ht _ => ⟨⟨rfl, by rw [ht]; exact hP9, hD9⟩, hS.F ht⟩) hS.2.2 dX3_wrong_55 hlocks
      · exact absurd c_34 (nI_nm1 (by omega))
    · exact absurd (by decide) c_14
  · exact absurd c_1 (by decide)

set_option maxHeartbeats 4000000 in
set_option maxRecDepth 100000 in
/-- wrong(2): none -/
theorem c_wrong_n2 (l : Launch) (D : va_G) (κ : Nat → ClassId) (sz : Nat) (T S : Nat) (ad : Nat → Nat) (bs sm pl r0 r1 : Nat → Int32) (tk vo : Int32) (du : Nat → Option Nat) (nd : Int32) (wt wx wb : Nat → Int32) (wn : Int32) (tp : Nat → Int32) (tn ts dn : Int32) (hT : T ≤ 12) (hS8 : S ≤ 8) (hpl : ∀ t, t < T → vp_in (pl t) (T + 2)) (hfw : fwS (iwF bs sm pl S) T S (-1)) : Met l yX3_wrong wsX3_wrong ({ frames := 4, cells := 0, slots := 0, locals := 93 }) (va_Pc [.ref ((ad 0)), .int (nI 2)] (mu_B D κ (tdW κ T S ad bs sm pl r0 r1 tk vo du nd wt wx wb wn tp tn ts dn) sz)) (mu_Q D (some (.int ((-1)))) (tdW κ T S ad bs sm pl r0 r1 tk vo du nd wt wx wb wn tp tn ts dn) (va_A (tdW κ T S ad bs sm pl r0 r1 tk vo du nd wt wx wb wn tp tn ts dn) sz)) 0 0 (va_A (tdW κ T S ad bs sm pl r0 r1 tk vo du nd wt wx wb wn tp tn ts dn) sz) := by
  refine Met.ofW (cc := cX3_wrong) (maxL := 3) (ret := (some .int)) (by decide) rfl ?_
  intro p e s m args below meth c s₁ B hml hv
  obtain ⟨rfl, hsz, hP, hK, hD0⟩ := hv
  have hx := B.exec
  have hb := B.bytes
  have hr := B.returns
  have hts := atoms_spec (ws := wsX3_wrong) B.pre
  have hown : s.vm.findClass RX3 = some m.cls := findClass_of_methodNamed B.named
  have hlocks := B.notSynchronized
  subst hsz
  have hD := hD0.self (sz := s.heap.size)
  generalize hAe : va_A (tdW κ T S ad bs sm pl r0 r1 tk vo du nd wt wx wb wn tp tn ts dn) s.heap.size = A at hD ⊢
  have hA : ∀ q : Nat, s.heap.size ≤ q → A q := fun q h => by rw [← hAe]; exact Or.inr h
  refine W.gen (P := fun H locs => va_P D vwCl (tdW κ T S ad bs sm pl r0 r1 tk vo du nd wt wx wb wn tp tn ts dn) H ∧ va_S A s.heap H locs) (fun H locs h => ?_) ⟨hP, va_S.rf⟩
  clear hP
  obtain ⟨hP, hS⟩ := h
  have hl := lv_entry ([.ref ((ad 0)), .int (nI 2)]) (n := 3) (Nat.le_of_ble_eq_true rfl)
  rw [lg_entry_eq]
  generalize (lg_sl ([.ref ((ad 0)), .int (nI 2)]) ++ List.replicate (3 - (lg_sl ([.ref ((ad 0)), .int (nI 2)])).length) Slot.unset).toArray = ls at hl ⊢
  have hl : lv_has ls 3 [(0, .ref ((ad 0))), (1, .int (nI 2))] := hl
  refine lv_iload_n hx hb dX3_wrong_0 rfl (lv_at hl 1 rfl) ?_
  refine lv_if_ne (tgt := 12) hx hb dX3_wrong_1 (by decide) (fun c_1 => ?_) (fun c_1 => ?_)
  · skip
    refine lv_iload_n hx hb dX3_wrong_12 rfl (lv_at hl 1 rfl) ?_
    refine lv_iconst (v := nI 1) hx hb dX3_wrong_13 (by decide) ?_
    refine lv_icmp_eq (tgt := 24) hx hb dX3_wrong_14 (by decide) (fun c_14 => ?_) (fun c_14 => ?_)
    · exact absurd c_14 (by decide)
    · skip
      refine lv_iload_n hx hb dX3_wrong_17 rfl (lv_at hl 1 rfl) ?_
      refine lv_iconst (v := nI 2) hx hb dX3_wrong_18 (by decide) ?_
      refine lv_icmp_eq (tgt := 24) hx hb dX3_wrong_19 (by decide) (fun c_19 => ?_) (fun c_19 => ?_)
      · skip
        refine lv_aload_n hx hb dX3_wrong_24 rfl (lv_at hl 0 rfl) ?_
        refine va_get (D := D) (ci := 4) (v := .ref ((ad 1))) (C := RX3) (T := TX3) (N := 8) hx hb hts (by decide +kernel) hown hK hP 0 rfl rfl 2 (by decide) (hts (.fieldLink RX3 25 "TrackDisk" "disk" "LTrackDisk$Surface;") (by decide +kernel)) (fun _ h9 => h9) rfl dX3_wrong_25 ?_
        have hPc := hP.sub (ws' := sfW κ T S (fun j => ad (j + 1)) bs sm pl r0 r1 tk vo) [1, 2, 3, 4, 5, 6] rfl
        refine pu_call (va_runV (As := []) (rest := []) ⟨hx, hb, hml, hown, hts⟩ (c_firstWrong l D κ T S (fun j => ad (j + 1)) bs sm pl r0 r1 tk vo hT hS8 hpl (-1) hfw) (cwV 0 hts gX3_wrong_X1_firstWrong rfl rfl rfl (by decide +kernel) ⟨Nat.le_of_ble_eq_true rfl, Nat.le_of_ble_eq_true rfl⟩) ⟨pu_blind, va_recv hK hPc (ci := 2) (q0 := 0) rfl rfl, pu_pre hK hPc⟩ rfl rfl hl.1 rfl (lv_room (Nat.le_of_ble_eq_true rfl)) dX3_wrong_28 ⟨Nat.le_of_ble_eq_true rfl, Nat.le_of_ble_eq_true rfl⟩) ?_
        refine lv_istore_n (lv' := [(2, .int ((-1))), (0, .ref ((ad 0))), (1, .int (nI 2))]) hx hb dX3_wrong_31 rfl hl (by decide) rfl (fun ls hl => ?_)
        refine lv_iload_n hx hb dX3_wrong_32 rfl (lv_at hl 0 rfl) ?_
        refine lv_iconst (v := (-1)) hx hb dX3_wrong_33 (by decide) ?_
        refine lv_icmp_ne (tgt := 39) hx hb dX3_wrong_34 (by decide) (fun c_34 => ?_) (fun c_34 => ?_)
        · exact absurd (by decide) c_34
        · skip
          refine lv_iconst (v := (-1)) hx hb dX3_wrong_37 (by decide) ?_
          have hP9 : va_P D vwCl (tdW κ T S ad bs sm pl r0 r1 tk vo du nd wt wx wb wn tp tn ts dn) H := hP
          have hD9 : va_D A (tdW κ T S ad bs sm pl r0 r1 tk vo du nd wt wx wb wn tp tn ts dn) := hD
          exact W.iret hx hb hr (fun t ht _ => ⟨⟨rfl, by rw [ht]; exact hP9, hD9⟩, hS.F ht⟩) hS.2.2 dX3_wrong_38 hlocks
      · exact absurd (by decide) c_19
  · exact absurd c_1 (by decide)

set_option maxHeartbeats 4000000 in
set_option maxRecDepth 100000 in
/-- wrong(2) -/
theorem c_wrong_2 (l : Launch) (D : va_G) (κ : Nat → ClassId) (sz : Nat) (T S : Nat) (ad : Nat → Nat) (bs sm pl r0 r1 : Nat → Int32) (tk vo : Int32) (du : Nat → Option Nat) (nd : Int32) (wt wx wb : Nat → Int32) (wn : Int32) (tp : Nat → Int32) (tn ts dn : Int32) (hT : T ≤ 12) (hS8 : S ≤ 8) (hpl : ∀ t, t < T → vp_in (pl t) (T + 2)) (u v : Nat) (hu : u < T) (hv : v < S) (hfw : fwS (iwF bs sm pl S) T S (nI (u * 8 + v))) : Met l yX3_wrong wsX3_wrong ({ frames := 4, cells := 0, slots := 0, locals := 93 }) (va_Pc [.ref ((ad 0)), .int (nI 2)] (mu_B D κ (tdW κ T S ad bs sm pl r0 r1 tk vo du nd wt wx wb wn tp tn ts dn) sz)) (mu_Q D (some (.int (nI v))) (tdW κ T S ad bs sm pl r0 r1 tk vo du nd wt wx wb wn tp tn ts dn) (va_A (tdW κ T S ad bs sm pl r0 r1 tk vo du nd wt wx wb wn tp tn ts dn) sz)) 0 0 (va_A (tdW κ T S ad bs sm pl r0 r1 tk vo du nd wt wx wb wn tp tn ts dn) sz) := by
  refine Met.ofW (cc := cX3_wrong) (maxL := 3) (ret := (some .int)) (by decide) rfl ?_
  intro p e s m args below meth c s₁ B hml hv
  obtain ⟨rfl, hsz, hP, hK, hD0⟩ := hv
  have hx := B.exec
  have hb := B.bytes
  have hr := B.returns
  have hts := atoms_spec (ws := wsX3_wrong) B.pre
  have hown : s.vm.findClass RX3 = some m.cls := findClass_of_methodNamed B.named
  have hlocks := B.notSynchronized
  subst hsz
  have hD := hD0.self (sz := s.heap.size)
  generalize hAe : va_A (tdW κ T S ad bs sm pl r0 r1 tk vo du nd wt wx wb wn tp tn ts dn) s.heap.size = A at hD ⊢
  have hA : ∀ q : Nat, s.heap.size ≤ q → A q := fun q h => by rw [← hAe]; exact Or.inr h
  refine W.gen (P := fun H locs => va_P D vwCl (tdW κ T S ad bs sm pl r0 r1 tk vo du nd wt wx wb wn tp tn ts dn) H ∧ va_S A s.heap H locs) (fun H locs h => ?_) ⟨hP, va_S.rf⟩
  clear hP
  obtain ⟨hP, hS⟩ := h
  have hl := lv_entry ([.ref ((ad 0)), .int (nI 2)]) (n := 3) (Nat.le_of_ble_eq_true rfl)
  rw [lg_entry_eq]
  generalize (lg_sl ([.ref ((ad 0)), .int (nI 2)]) ++ List.replicate (3 - (lg_sl ([.ref ((ad 0)), .int (nI 2)])).length) Slot.unset).toArray = ls at hl ⊢
  have hl : lv_has ls 3 [(0, .ref ((ad 0))), (1, .int (nI 2))] := hl
  refine lv_iload_n hx hb dX3_wrong_0 rfl (lv_at hl 1 rfl) ?_
  refine lv_if_ne (tgt := 12) hx hb dX3_wrong_1 (by decide) (fun c_1 => ?_) (fun c_1 => ?_)
  · skip
    refine lv_iload_n hx hb dX3_wrong_12 rfl (lv_at hl 1 rfl) ?_
    refine lv_iconst (v := nI 1) hx hb dX3_wrong_13 (by decide) ?_
    refine lv_icmp_eq (tgt := 24) hx hb dX3_wrong_14 (by decide) (fun c_14 => ?_) (fun c_14 => ?_)
    · exact absurd c_14 (by decide)
    · skip
      refine lv_iload_n hx hb dX3_wrong_17 rfl (lv_at hl 1 rfl) ?_
      refine lv_iconst (v := nI 2) hx hb dX3_wrong_18 (by decide) ?_
      refine lv_icmp_eq (tgt := 24) hx hb dX3_wrong_19 (by decide) (fun c_19 => ?_) (fun c_19 => ?_)
      · skip
        refine lv_aload_n hx hb dX3_wrong_24 rfl (lv_at hl 0 rfl) ?_
        refine va_get (D := D) (ci := 4) (v := .ref ((ad 1))) (C := RX3) (T := TX3) (N := 8) hx hb hts (by decide +kernel) hown hK hP 0 rfl rfl 2 (by decide) (hts (.fieldLink RX3 25 "TrackDisk" "disk" "LTrackDisk$Surface;") (by decide +kernel)) (fun _ h9 => h9) rfl dX3_wrong_25 ?_
        have hPc := hP.sub (ws' := sfW κ T S (fun j => ad (j + 1)) bs sm pl r0 r1 tk vo) [1, 2, 3, 4, 5, 6] rfl
        refine pu_call (va_runV (As := []) (rest := []) ⟨hx, hb, hml, hown, hts⟩ (c_firstWrong l D κ T S (fun j => ad (j + 1)) bs sm pl r0 r1 tk vo hT hS8 hpl (nI (u * 8 + v)) hfw) (cwV 0 hts gX3_wrong_X1_firstWrong rfl rfl rfl (by decide +kernel) ⟨Nat.le_of_ble_eq_true rfl, Nat.le_of_ble_eq_true rfl⟩) ⟨pu_blind, va_recv hK hPc (ci := 2) (q0 := 0) rfl rfl, pu_pre hK hPc⟩ rfl rfl hl.1 rfl (lv_room (Nat.le_of_ble_eq_true rfl)) dX3_wrong_28 ⟨Nat.le_of_ble_eq_true rfl, Nat.le_of_ble_eq_true rfl⟩) ?_
        refine lv_istore_n (lv' := [(2, .int ((nI (u * 8 + v)))), (0, .ref ((ad 0))), (1, .int (nI 2))]) hx hb dX3_wrong_31 rfl hl (by decide) rfl (fun ls hl => ?_)
        refine lv_iload_n hx hb dX3_wrong_32 rfl (lv_at hl 0 rfl) ?_
        refine lv_iconst (v := (-1)) hx hb dX3_wrong_33 (by decide) ?_
        refine lv_icmp_ne (tgt := 39) hx hb dX3_wrong_34 (by decide) (fun c_34 => ?_) (fun c_34 => ?_)
        · skip
          refine lv_iload_n hx hb dX3_wrong_39 rfl (lv_at hl 2 rfl) ?_
          refine lv_iconst (v := nI 1) hx hb dX3_wrong_40 (by decide) ?_
          refine lv_icmp_ne (tgt := 51) hx hb dX3_wrong_41 (by decide) (fun c_41 => ?_) (fun c_41 => ?_)
          · skip
            refine lv_iload_n hx hb dX3_wrong_51 rfl (lv_at hl 0 rfl) ?_
            refine lv_bipush (v := nI 8) hx hb dX3_wrong_52 (by decide) ?_
            refine lv_irem hx hb dX3_wrong_54 (by decide) ?_
            refine tp_i (y := nI v) (by rw [pk_rem (by omega) (by omega) (by omega)]; congr 1; omega) ?_
            have hP9 : va_P D vwCl (tdW κ T S ad bs sm pl r0 r1 tk vo du nd wt wx wb wn tp tn ts dn) H := hP
            have hD9 : va_D A (tdW κ T S ad bs sm pl r0 r1 tk vo du nd wt wx wb wn tp tn ts dn) := hD
            exact W.iret hx hb hr (fun t ht _ => ⟨⟨rfl, by rw [ht]; exact hP9, hD9⟩, hS.F ht⟩) hS.2.2 dX3_wrong_55 hlocks
          · exact absurd c_41 (by decide)
        · exact absurd c_34 (nI_nm1 (by omega))
      · exact absurd (by decide) c_19
  · exact absurd c_1 (by decide)

set_option maxHeartbeats 4000000 in
set_option maxRecDepth 100000 in
/-- alternate: no such track -/
theorem c_alt_no (l : Launch) (D : va_G) (κ : Nat → ClassId) (sz : Nat) (T S : Nat) (ad : Nat → Nat) (bs sm pl r0 r1 : Nat → Int32) (tk vo : Int32) (du : Nat → Option Nat) (nd : Int32) (wt wx wb : Nat → Int32) (wn : Int32) (tp : Nat → Int32) (tn ts dn : Int32) (x : Int32) (hno : inF x T = false) : Met l yX3_alternate wsX3_alternate ({ frames := 1, cells := 0, slots := 0, locals := 21 }) (va_Pc [.ref ((ad 0)), .int x] (mu_B D κ (tdW κ T S ad bs sm pl r0 r1 tk vo du nd wt wx wb wn tp tn ts dn) sz)) (mu_Q D (some (.int ((-2)))) (tdW κ T S ad bs sm pl r0 r1 tk vo du nd wt wx wb wn tp tn ts dn) (va_A (tdW κ T S ad bs sm pl r0 r1 tk vo du nd wt wx wb wn tp tn ts dn) sz)) 0 0 (va_A (tdW κ T S ad bs sm pl r0 r1 tk vo du nd wt wx wb wn tp tn ts dn) sz) := by
  refine Met.ofW (cc := cX3_alternate) (maxL := 2) (ret := (some .int)) (by decide) rfl ?_
  intro p e s m args below meth c s₁ B hml hv
  obtain ⟨rfl, hsz, hP, hK, hD0⟩ := hv
  have hx := B.exec
  have hb := B.bytes
  have hr := B.returns
  have hts := atoms_spec (ws := wsX3_alternate) B.pre
  have hown : s.vm.findClass RX3 = some m.cls := findClass_of_methodNamed B.named
  have hlocks := B.notSynchronized
  subst hsz
  have hD := hD0.self (sz := s.heap.size)
  generalize hAe : va_A (tdW κ T S ad bs sm pl r0 r1 tk vo du nd wt wx wb wn tp tn ts dn) s.heap.size = A at hD ⊢
  have hA : ∀ q : Nat, s.heap.size ≤ q → A q := fun q h => by rw [← hAe]; exact Or.inr h
  refine W.gen (P := fun H locs => va_P D vwCl (tdW κ T S ad bs sm pl r0 r1 tk vo du nd wt wx wb wn tp tn ts dn) H ∧ va_S A s.heap H locs) (fun H locs h => ?_) ⟨hP, va_S.rf⟩
  clear hP
  obtain ⟨hP, hS⟩ := h
  have hl := lv_entry ([.ref ((ad 0)), .int x]) (n := 2) (Nat.le_of_ble_eq_true rfl)
  rw [lg_entry_eq]
  generalize (lg_sl ([.ref ((ad 0)), .int x]) ++ List.replicate (2 - (lg_sl ([.ref ((ad 0)), .int x])).length) Slot.unset).toArray = ls at hl ⊢
  have hl : lv_has ls 2 [(0, .ref ((ad 0))), (1, .int x)] := hl
  refine lv_aload_n hx hb dX3_alternate_0 rfl (lv_at hl 0 rfl) ?_
  refine lv_iload_n hx hb dX3_alternate_1 rfl (lv_at hl 1 rfl) ?_
  have hPc := hP.sub (ws' := tdW κ T S ad bs sm pl r0 r1 tk vo du nd wt wx wb wn tp tn ts dn) [0, 1, 2, 3, 4, 5, 6, 7, 8, 9, 10, 11, 12, 13] rfl
  refine pu_call (va_runV (As := [.int x]) (rest := []) ⟨hx, hb, hml, hown, hts⟩ (c_hasTrack l D κ T S ad bs sm pl r0 r1 tk vo du nd wt wx wb wn tp tn ts dn x) (cwV 1 hts gX3_alternate_X3_hasTrack rfl rfl rfl (by decide +kernel) ⟨Nat.le_of_ble_eq_true rfl, Nat.le_of_ble_eq_true rfl⟩) ⟨pu_blind, va_recv hK hPc (ci := 4) (q0 := 0) rfl rfl, pu_pre hK hPc⟩ rfl rfl hl.1 rfl (lv_room (Nat.le_of_ble_eq_true rfl)) dX3_alternate_2 ⟨Nat.le_of_ble_eq_true rfl, Nat.le_of_ble_eq_true rfl⟩) ?_
  refine lv_if_ne (tgt := 11) hx hb dX3_alternate_5 (by decide) (fun c_5 => ?_) (fun c_5 => ?_)
  · exact (bI_cf hno c_5).elim
  · skip
    refine lv_bipush (v := (-2)) hx hb dX3_alternate_8 (by decide) ?_
    have hP9 : va_P D vwCl (tdW κ T S ad bs sm pl r0 r1 tk vo du nd wt wx wb wn tp tn ts dn) H := hP
    have hD9 : va_D A (tdW κ T S ad bs sm pl r0 r1 tk vo du nd wt wx wb wn tp tn ts dn) := hD
    exact W.iret hx hb hr (fun t ht _ => ⟨⟨rfl, by rw [ht]; exact hP9, hD9⟩, hS.F ht⟩) hS.2.2 dX3_alternate_10 hlocks

set_option maxHeartbeats 4000000 in
set_option maxRecDepth 100000 in
/-- alternate: down -/
theorem c_alt_down (l : Launch) (D : va_G) (κ : Nat → ClassId) (sz : Nat) (T S : Nat) (ad : Nat → Nat) (bs sm pl r0 r1 : Nat → Int32) (tk vo : Int32) (du : Nat → Option Nat) (nd : Int32) (wt wx wb : Nat → Int32) (wn : Int32) (tp : Nat → Int32) (tn ts : Int32)  (hT : T ≤ 12) (hS8 : S ≤ 8) (t : Nat) (ht : t < T)  : Met l yX3_alternate wsX3_alternate ({ frames := 1, cells := 0, slots := 0, locals := 21 }) (va_Pc [.ref ((ad 0)), .int (nI t)] (mu_B D κ (tdW κ T S ad bs sm pl r0 r1 tk vo du nd wt wx wb wn tp tn ts (nI 1)) sz)) (mu_Q D (some (.int ((-5)))) (tdW κ T S ad bs sm pl r0 r1 tk vo du nd wt wx wb wn tp tn ts (nI 1)) (va_A (tdW κ T S ad bs sm pl r0 r1 tk vo du nd wt wx wb wn tp tn ts (nI 1)) sz)) 0 0 (va_A (tdW κ T S ad bs sm pl r0 r1 tk vo du nd wt wx wb wn tp tn ts (nI 1)) sz) := by
  refine Met.ofW (cc := cX3_alternate) (maxL := 2) (ret := (some .int)) (by decide) rfl ?_
  intro p e s m args below meth c s₁ B hml hv
  obtain ⟨rfl, hsz, hP, hK, hD0⟩ := hv
  have hx := B.exec
  have hb := B.bytes
  have hr := B.returns
  have hts := atoms_spec (ws := wsX3_alternate) B.pre
  have hown : s.vm.findClass RX3 = some m.cls := findClass_of_methodNamed B.named
  have hlocks := B.notSynchronized
  subst hsz
  have hD := hD0.self (sz := s.heap.size)
  generalize hAe : va_A (tdW κ T S ad bs sm pl r0 r1 tk vo du nd wt wx wb wn tp tn ts (nI 1)) s.heap.size = A at hD ⊢
  have hA : ∀ q : Nat, s.heap.size ≤ q → A q := fun q h => by rw [← hAe]; exact Or.inr h
  refine W.gen (P := fun H locs => va_P D vwCl (tdW κ T S ad bs sm pl r0 r1 tk vo du nd wt wx wb wn tp tn ts (nI 1)) H ∧ va_S A s.heap H locs) (fun H locs h => ?_) ⟨hP, va_S.rf⟩
  clear hP
  obtain ⟨hP, hS⟩ := h
  have hl := lv_entry ([.ref ((ad 0)), .int (nI t)]) (n := 2) (Nat.le_of_ble_eq_true rfl)
  rw [lg_entry_eq]
  generalize (lg_sl ([.ref ((ad 0)), .int (nI t)]) ++ List.replicate (2 - (lg_sl ([.ref ((ad 0)), .int (nI t)])).length) Slot.unset).toArray = ls at hl ⊢
  have hl : lv_has ls 2 [(0, .ref ((ad 0))), (1, .int (nI t))] := hl
  refine lv_aload_n hx hb dX3_alternate_0 rfl (lv_at hl 0 rfl) ?_
  refine lv_iload_n hx hb dX3_alternate_1 rfl (lv_at hl 1 rfl) ?_
  have hPc := hP.sub (ws' := tdW κ T S ad bs sm pl r0 r1 tk vo du nd wt wx wb wn tp tn ts (nI 1)) [0, 1, 2, 3, 4, 5, 6, 7, 8, 9, 10, 11, 12, 13] rfl
  refine pu_call (va_runV (As := [.int (nI t)]) (rest := []) ⟨hx, hb, hml, hown, hts⟩ (c_hasTrack l D κ T S ad bs sm pl r0 r1 tk vo du nd wt wx wb wn tp tn ts (nI 1) (nI t)) (cwV 1 hts gX3_alternate_X3_hasTrack rfl rfl rfl (by decide +kernel) ⟨Nat.le_of_ble_eq_true rfl, Nat.le_of_ble_eq_true rfl⟩) ⟨pu_blind, va_recv hK hPc (ci := 4) (q0 := 0) rfl rfl, pu_pre hK hPc⟩ rfl rfl hl.1 rfl (lv_room (Nat.le_of_ble_eq_true rfl)) dX3_alternate_2 ⟨Nat.le_of_ble_eq_true rfl, Nat.le_of_ble_eq_true rfl⟩) ?_
  refine lv_if_ne (tgt := 11) hx hb dX3_alternate_5 (by decide) (fun c_5 => ?_) (fun c_5 => ?_)
  · skip
    refine lv_aload_n hx hb dX3_alternate_11 rfl (lv_at hl 0 rfl) ?_
    refine va_get (D := D) (ci := 4) (v := .int (nI 1)) (C := RX3) (T := TX3) (N := 8) hx hb hts (by decide +kernel) hown hK hP 0 rfl rfl 7 (by decide) (hts (.fieldLink RX3 50 "TrackDisk" "down" "Z") (by decide +kernel)) (fun _ h9 => h9) rfl dX3_alternate_12 ?_
    refine lv_if_eq (tgt := 21) hx hb dX3_alternate_15 (by decide) (fun c_15 => ?_) (fun c_15 => ?_)
    · exact absurd c_15 (by decide)
    · skip
      refine lv_bipush (v := (-5)) hx hb dX3_alternate_18 (by decide) ?_
      have hP9 : va_P D vwCl (tdW κ T S ad bs sm pl r0 r1 tk vo du nd wt wx wb wn tp tn ts (nI 1)) H := hP
      have hD9 : va_D A (tdW κ T S ad bs sm pl r0 r1 tk vo du nd wt wx wb wn tp tn ts (nI 1)) := hD
      exact W.iret hx hb hr (fun t ht _ => ⟨⟨rfl, by rw [ht]; exact hP9, hD9⟩, hS.F ht⟩) hS.2.2 dX3_alternate_20 hlocks
  · exact (bI_ct (inF_nI ht (by omega)) c_5).elim

set_option maxHeartbeats 4000000 in
set_option maxRecDepth 100000 in
/-- alternate: sent -/
theorem c_alt_sent (l : Launch) (D : va_G) (κ : Nat → ClassId) (sz : Nat) (T S : Nat) (ad : Nat → Nat) (bs sm pl r0 r1 : Nat → Int32) (tk vo : Int32) (du : Nat → Option Nat) (nd : Int32) (wt wx wb : Nat → Int32) (wn : Int32) (tp : Nat → Int32) (tn ts : Int32)  (hT : T ≤ 12) (hS8 : S ≤ 8) (hpl : ∀ t, t < T → vp_in (pl t) (T + 2)) (t : Nat) (ht : t < T) (hse : isF pl T t = true) : Met l yX3_alternate wsX3_alternate ({ frames := 1, cells := 0, slots := 0, locals := 21 }) (va_Pc [.ref ((ad 0)), .int (nI t)] (mu_B D κ (tdW κ T S ad bs sm pl r0 r1 tk vo du nd wt wx wb wn tp tn ts (nI 0)) sz)) (mu_Q D (some (.int (nI 0))) (tdW κ T S ad bs sm pl r0 r1 tk vo du nd wt wx wb wn tp tn ts (nI 0)) (va_A (tdW κ T S ad bs sm pl r0 r1 tk vo du nd wt wx wb wn tp tn ts (nI 0)) sz)) 0 0 (va_A (tdW κ T S ad bs sm pl r0 r1 tk vo du nd wt wx wb wn tp tn ts (nI 0)) sz) := by
  refine Met.ofW (cc := cX3_alternate) (maxL := 2) (ret := (some .int)) (by decide) rfl ?_
  intro p e s m args below meth c s₁ B hml hv
  obtain ⟨rfl, hsz, hP, hK, hD0⟩ := hv
  have hx := B.exec
  have hb := B.bytes
  have hr := B.returns
  have hts := atoms_spec (ws := wsX3_alternate) B.pre
  have hown : s.vm.findClass RX3 = some m.cls := findClass_of_methodNamed B.named
  have hlocks := B.notSynchronized
  subst hsz
  have hD := hD0.self (sz := s.heap.size)
  generalize hAe : va_A (tdW κ T S ad bs sm pl r0 r1 tk vo du nd wt wx wb wn tp tn ts (nI 0)) s.heap.size = A at hD ⊢
  have hA : ∀ q : Nat, s.heap.size ≤ q → A q := fun q h => by rw [← hAe]; exact Or.inr h
  refine W.gen (P := fun H locs => va_P D vwCl (tdW κ T S ad bs sm pl r0 r1 tk vo du nd wt wx wb wn tp tn ts (nI 0)) H ∧ va_S A s.heap H locs) (fun H locs h => ?_) ⟨hP, va_S.rf⟩
  clear hP
  obtain ⟨hP, hS⟩ := h
  have hl := lv_entry ([.ref ((ad 0)), .int (nI t)]) (n := 2) (Nat.le_of_ble_eq_true rfl)
  rw [lg_entry_eq]
  generalize (lg_sl ([.ref ((ad 0)), .int (nI t)]) ++ List.replicate (2 - (lg_sl ([.ref ((ad 0)), .int (nI t)])).length) Slot.unset).toArray = ls at hl ⊢
  have hl : lv_has ls 2 [(0, .ref ((ad 0))), (1, .int (nI t))] := hl
  refine lv_aload_n hx hb dX3_alternate_0 rfl (lv_at hl 0 rfl) ?_
  refine lv_iload_n hx hb dX3_alternate_1 rfl (lv_at hl 1 rfl) ?_
  have hPc := hP.sub (ws' := tdW κ T S ad bs sm pl r0 r1 tk vo du nd wt wx wb wn tp tn ts (nI 0)) [0, 1, 2, 3, 4, 5, 6, 7, 8, 9, 10, 11, 12, 13] rfl
  refine pu_call (va_runV (As := [.int (nI t)]) (rest := []) ⟨hx, hb, hml, hown, hts⟩ (c_hasTrack l D κ T S ad bs sm pl r0 r1 tk vo du nd wt wx wb wn tp tn ts (nI 0) (nI t)) (cwV 1 hts gX3_alternate_X3_hasTrack rfl rfl rfl (by decide +kernel) ⟨Nat.le_of_ble_eq_true rfl, Nat.le_of_ble_eq_true rfl⟩) ⟨pu_blind, va_recv hK hPc (ci := 4) (q0 := 0) rfl rfl, pu_pre hK hPc⟩ rfl rfl hl.1 rfl (lv_room (Nat.le_of_ble_eq_true rfl)) dX3_alternate_2 ⟨Nat.le_of_ble_eq_true rfl, Nat.le_of_ble_eq_true rfl⟩) ?_
  refine lv_if_ne (tgt := 11) hx hb dX3_alternate_5 (by decide) (fun c_5 => ?_) (fun c_5 => ?_)
  · skip
    refine lv_aload_n hx hb dX3_alternate_11 rfl (lv_at hl 0 rfl) ?_
    refine va_get (D := D) (ci := 4) (v := .int (nI 0)) (C := RX3) (T := TX3) (N := 8) hx hb hts (by decide +kernel) hown hK hP 0 rfl rfl 7 (by decide) (hts (.fieldLink RX3 50 "TrackDisk" "down" "Z") (by decide +kernel)) (fun _ h9 => h9) rfl dX3_alternate_12 ?_
    refine lv_if_eq (tgt := 21) hx hb dX3_alternate_15 (by decide) (fun c_15 => ?_) (fun c_15 => ?_)
    · skip
      refine lv_aload_n hx hb dX3_alternate_21 rfl (lv_at hl 0 rfl) ?_
      refine va_get (D := D) (ci := 4) (v := .ref ((ad 1))) (C := RX3) (T := TX3) (N := 8) hx hb hts (by decide +kernel) hown hK hP 0 rfl rfl 2 (by decide) (hts (.fieldLink RX3 25 "TrackDisk" "disk" "LTrackDisk$Surface;") (by decide +kernel)) (fun _ h9 => h9) rfl dX3_alternate_22 ?_
      refine lv_iload_n hx hb dX3_alternate_25 rfl (lv_at hl 1 rfl) ?_
      have hPc := hP.sub (ws' := sfW κ T S (fun j => ad (j + 1)) bs sm pl r0 r1 tk vo) [1, 2, 3, 4, 5, 6] rfl
      refine pu_call (va_runV (As := [.int (nI t)]) (rest := []) ⟨hx, hb, hml, hown, hts⟩ (c_isSent l D κ T S (fun j => ad (j + 1)) bs sm pl r0 r1 tk vo hT hS8 hpl t ht) (cwV 1 hts gX3_alternate_X1_isSent rfl rfl rfl (by decide +kernel) ⟨Nat.le_of_ble_eq_true rfl, Nat.le_of_ble_eq_true rfl⟩) ⟨pu_blind, va_recv hK hPc (ci := 2) (q0 := 0) rfl rfl, pu_pre hK hPc⟩ rfl rfl hl.1 rfl (lv_room (Nat.le_of_ble_eq_true rfl)) dX3_alternate_26 ⟨Nat.le_of_ble_eq_true rfl, Nat.le_of_ble_eq_true rfl⟩) ?_
      refine lv_if_ne (tgt := 43) hx hb dX3_alternate_29 (by decide) (fun c_29 => ?_) (fun c_29 => ?_)
      · skip
        refine lv_iconst (v := nI 0) hx hb dX3_alternate_43 (by decide) ?_
        have hP9 : va_P D vwCl (tdW κ T S ad bs sm pl r0 r1 tk vo du nd wt wx wb wn tp tn ts (nI 0)) H := hP
        have hD9 : va_D A (tdW κ T S ad bs sm pl r0 r1 tk vo du nd wt wx wb wn tp tn ts (nI 0)) := hD
        exact W.iret hx hb hr (fun t ht _ => ⟨⟨rfl, by rw [ht]; exact hP9, hD9⟩, hS.F ht⟩) hS.2.2 dX3_alternate_44 hlocks
      · exact (bI_ct hse c_29).elim
    · exact absurd (by decide) c_15
  · exact (bI_ct (inF_nI ht (by omega)) c_5).elim

set_option maxHeartbeats 4000000 in
set_option maxRecDepth 100000 in
/-- alternate: none free -/
theorem c_alt_full (l : Launch) (D : va_G) (κ : Nat → ClassId) (sz : Nat) (T S : Nat) (ad : Nat → Nat) (bs sm pl r0 r1 : Nat → Int32) ( vo : Int32) (du : Nat → Option Nat) (nd : Int32) (wt wx wb : Nat → Int32) (wn : Int32) (tp : Nat → Int32) (tn ts : Int32)  (hT : T ≤ 12) (hS8 : S ≤ 8) (hpl : ∀ t, t < T → vp_in (pl t) (T + 2)) (t : Nat) (ht : t < T) (hse : isF pl T t = false) : Met l yX3_alternate wsX3_alternate ({ frames := 1, cells := 0, slots := 0, locals := 21 }) (va_Pc [.ref ((ad 0)), .int (nI t)] (mu_B D κ (tdW κ T S ad bs sm pl r0 r1 (nI 2) vo du nd wt wx wb wn tp tn ts (nI 0)) sz)) (mu_Q D (some (.int (nI 0))) (tdW κ T S ad bs sm pl r0 r1 (nI 2) vo du nd wt wx wb wn tp tn ts (nI 0)) (va_A (tdW κ T S ad bs sm pl r0 r1 (nI 2) vo du nd wt wx wb wn tp tn ts (nI 0)) sz)) 0 0 (va_A (tdW κ T S ad bs sm pl r0 r1 (nI 2) vo du nd wt wx wb wn tp tn ts (nI 0)) sz) := by
  refine Met.ofW (cc := cX3_alternate) (maxL := 2) (ret := (some .int)) (by decide) rfl ?_
  intro p e s m args below meth c s₁ B hml hv
  obtain ⟨rfl, hsz, hP, hK, hD0⟩ := hv
  have hx := B.exec
  have hb := B.bytes
  have hr := B.returns
  have hts := atoms_spec (ws := wsX3_alternate) B.pre
  have hown : s.vm.findClass RX3 = some m.cls := findClass_of_methodNamed B.named
  have hlocks := B.notSynchronized
  subst hsz
  have hD := hD0.self (sz := s.heap.size)
  generalize hAe : va_A (tdW κ T S ad bs sm pl r0 r1 (nI 2) vo du nd wt wx wb wn tp tn ts (nI 0)) s.heap.size = A at hD ⊢
  have hA : ∀ q : Nat, s.heap.size ≤ q → A q := fun q h => by rw [← hAe]; exact Or.inr h
  refine W.gen (P := fun H locs => va_P D vwCl (tdW κ T S ad bs sm pl r0 r1 (nI 2) vo du nd wt wx wb wn tp tn ts (nI 0)) H ∧ va_S A s.heap H locs) (fun H locs h => ?_) ⟨hP, va_S.rf⟩
  clear hP
  obtain ⟨hP, hS⟩ := h
  have hl := lv_entry ([.ref ((ad 0)), .int (nI t)]) (n := 2) (Nat.le_of_ble_eq_true rfl)
  rw [lg_entry_eq]
  generalize (lg_sl ([.ref ((ad 0)), .int (nI t)]) ++ List.replicate (2 - (lg_sl ([.ref ((ad 0)), .int (nI t)])).length) Slot.unset).toArray = ls at hl ⊢
  have hl : lv_has ls 2 [(0, .ref ((ad 0))), (1, .int (nI t))] := hl
  refine lv_aload_n hx hb dX3_alternate_0 rfl (lv_at hl 0 rfl) ?_
  refine lv_iload_n hx hb dX3_alternate_1 rfl (lv_at hl 1 rfl) ?_
  have hPc := hP.sub (ws' := tdW κ T S ad bs sm pl r0 r1 (nI 2) vo du nd wt wx wb wn tp tn ts (nI 0)) [0, 1, 2, 3, 4, 5, 6, 7, 8, 9, 10, 11, 12, 13] rfl
  refine pu_call (va_runV (As := [.int (nI t)]) (rest := []) ⟨hx, hb, hml, hown, hts⟩ (c_hasTrack l D κ T S ad bs sm pl r0 r1 (nI 2) vo du nd wt wx wb wn tp tn ts (nI 0) (nI t)) (cwV 1 hts gX3_alternate_X3_hasTrack rfl rfl rfl (by decide +kernel) ⟨Nat.le_of_ble_eq_true rfl, Nat.le_of_ble_eq_true rfl⟩) ⟨pu_blind, va_recv hK hPc (ci := 4) (q0 := 0) rfl rfl, pu_pre hK hPc⟩ rfl rfl hl.1 rfl (lv_room (Nat.le_of_ble_eq_true rfl)) dX3_alternate_2 ⟨Nat.le_of_ble_eq_true rfl, Nat.le_of_ble_eq_true rfl⟩) ?_
  refine lv_if_ne (tgt := 11) hx hb dX3_alternate_5 (by decide) (fun c_5 => ?_) (fun c_5 => ?_)
  · skip
    refine lv_aload_n hx hb dX3_alternate_11 rfl (lv_at hl 0 rfl) ?_
    refine va_get (D := D) (ci := 4) (v := .int (nI 0)) (C := RX3) (T := TX3) (N := 8) hx hb hts (by decide +kernel) hown hK hP 0 rfl rfl 7 (by decide) (hts (.fieldLink RX3 50 "TrackDisk" "down" "Z") (by decide +kernel)) (fun _ h9 => h9) rfl dX3_alternate_12 ?_
    refine lv_if_eq (tgt := 21) hx hb dX3_alternate_15 (by decide) (fun c_15 => ?_) (fun c_15 => ?_)
    · skip
      refine lv_aload_n hx hb dX3_alternate_21 rfl (lv_at hl 0 rfl) ?_
      refine va_get (D := D) (ci := 4) (v := .ref ((ad 1))) (C := RX3) (T := TX3) (N := 8) hx hb hts (by decide +kernel) hown hK hP 0 rfl rfl 2 (by decide) (hts (.fieldLink RX3 25 "TrackDisk" "disk" "LTrackDisk$Surface;") (by decide +kernel)) (fun _ h9 => h9) rfl dX3_alternate_22 ?_
      refine lv_iload_n hx hb dX3_alternate_25 rfl (lv_at hl 1 rfl) ?_
      have hPc := hP.sub (ws' := sfW κ T S (fun j => ad (j + 1)) bs sm pl r0 r1 (nI 2) vo) [1, 2, 3, 4, 5, 6] rfl
      refine pu_call (va_runV (As := [.int (nI t)]) (rest := []) ⟨hx, hb, hml, hown, hts⟩ (c_isSent l D κ T S (fun j => ad (j + 1)) bs sm pl r0 r1 (nI 2) vo hT hS8 hpl t ht) (cwV 1 hts gX3_alternate_X1_isSent rfl rfl rfl (by decide +kernel) ⟨Nat.le_of_ble_eq_true rfl, Nat.le_of_ble_eq_true rfl⟩) ⟨pu_blind, va_recv hK hPc (ci := 2) (q0 := 0) rfl rfl, pu_pre hK hPc⟩ rfl rfl hl.1 rfl (lv_room (Nat.le_of_ble_eq_true rfl)) dX3_alternate_26 ⟨Nat.le_of_ble_eq_true rfl, Nat.le_of_ble_eq_true rfl⟩) ?_
      refine lv_if_ne (tgt := 43) hx hb dX3_alternate_29 (by decide) (fun c_29 => ?_) (fun c_29 => ?_)
      · exact (bI_cf hse c_29).elim
      · skip
        refine lv_aload_n hx hb dX3_alternate_32 rfl (lv_at hl 0 rfl) ?_
        refine va_get (D := D) (ci := 4) (v := .ref ((ad 1))) (C := RX3) (T := TX3) (N := 8) hx hb hts (by decide +kernel) hown hK hP 0 rfl rfl 2 (by decide) (hts (.fieldLink RX3 25 "TrackDisk" "disk" "LTrackDisk$Surface;") (by decide +kernel)) (fun _ h9 => h9) rfl dX3_alternate_33 ?_
        refine va_get (D := D) (ci := 2) (v := .int (nI 2)) (C := RX1) (T := TX1) (N := 9) hx hb hts (by decide +kernel) hown hK hP 1 rfl rfl 7 (by decide) (hts (.fieldLink RX3 127 "TrackDisk$Surface" "taken" "I") (by decide +kernel)) (fun _ h9 => h9) rfl dX3_alternate_36 ?_
        refine lv_iconst (v := nI 2) hx hb dX3_alternate_39 (by decide) ?_
        refine lv_icmp_lt (tgt := 45) hx hb dX3_alternate_40 (by decide) (fun c_40 => ?_) (fun c_40 => ?_)
        · exact absurd c_40 (by decide)
        · skip
          refine lv_iconst (v := nI 0) hx hb dX3_alternate_43 (by decide) ?_
          have hP9 : va_P D vwCl (tdW κ T S ad bs sm pl r0 r1 (nI 2) vo du nd wt wx wb wn tp tn ts (nI 0)) H := hP
          have hD9 : va_D A (tdW κ T S ad bs sm pl r0 r1 (nI 2) vo du nd wt wx wb wn tp tn ts (nI 0)) := hD
          exact W.iret hx hb hr (fun t ht _ => ⟨⟨rfl, by rw [ht]; exact hP9, hD9⟩, hS.F ht⟩) hS.2.2 dX3_alternate_44 hlocks
    · exact absurd (by decide) c_15
  · exact (bI_ct (inF_nI ht (by omega)) c_5).elim

set_option maxHeartbeats 4000000 in
set_option maxRecDepth 100000 in
/-- alternate -/
theorem c_alt (l : Launch) (D : va_G) (κ : Nat → ClassId) (sz : Nat) (T S : Nat) (ad : Nat → Nat) (bs sm pl r0 r1 : Nat → Int32) ( vo : Int32) (du : Nat → Option Nat) (nd : Int32) (wt wx wb : Nat → Int32) (wn : Int32) (tp : Nat → Int32) (tn ts : Int32)  (hT : T ≤ 12) (hS8 : S ≤ 8) (hpl : ∀ t, t < T → vp_in (pl t) (T + 2)) (t : Nat) (ht : t < T) (hse : isF pl T t = false) (k0 : Nat) (hk0 : k0 < 2) (hft : sb_Fit bs) : Met l yX3_alternate wsX3_alternate ({ frames := 4, cells := 0, slots := 0, locals := 92 }) (va_Pc [.ref ((ad 0)), .int (nI t)] (mu_B D κ (tdW κ T S ad bs sm pl r0 r1 (nI k0) vo du nd wt wx wb wn tp tn ts (nI 0)) sz)) (mu_Q D (some (.int (nI (T + k0)))) (tdW κ T S ad (va_cpy bs bs ((cl (pl t) * S + 0) * 16) (((T + k0) * S + 0) * 16) (S * 16)) (ssF (va_cpy bs bs ((cl (pl t) * S + 0) * 16) (((T + k0) * S + 0) * 16) (S * 16)) sm S (T + k0) S) (upd pl t (nI (T + k0))) r0 r1 (nI (k0 + 1)) vo du nd wt wx wb wn tp tn ts (nI 0)) (va_A (tdW κ T S ad bs sm pl r0 r1 (nI k0) vo du nd wt wx wb wn tp tn ts (nI 0)) sz)) 0 0 (va_A (tdW κ T S ad bs sm pl r0 r1 (nI k0) vo du nd wt wx wb wn tp tn ts (nI 0)) sz) := by
  refine Met.ofW (cc := cX3_alternate) (maxL := 2) (ret := (some .int)) (by decide) rfl ?_
  intro p e s m args below meth c s₁ B hml hv
  obtain ⟨rfl, hsz, hP, hK, hD0⟩ := hv
  have hx := B.exec
  have hb := B.bytes
  have hr := B.returns
  have hts := atoms_spec (ws := wsX3_alternate) B.pre
  have hown : s.vm.findClass RX3 = some m.cls := findClass_of_methodNamed B.named
  have hlocks := B.notSynchronized
  subst hsz
  have hD := hD0.self (sz := s.heap.size)
  generalize hAe : va_A (tdW κ T S ad bs sm pl r0 r1 (nI k0) vo du nd wt wx wb wn tp tn ts (nI 0)) s.heap.size = A at hD ⊢
  have hA : ∀ q : Nat, s.heap.size ≤ q → A q := fun q h => by rw [← hAe]; exact Or.inr h
  refine W.gen (P := fun H locs => va_P D vwCl (tdW κ T S ad bs sm pl r0 r1 (nI k0) vo du nd wt wx wb wn tp tn ts (nI 0)) H ∧ va_S A s.heap H locs) (fun H locs h => ?_) ⟨hP, va_S.rf⟩
  clear hP
  obtain ⟨hP, hS⟩ := h
  have hl := lv_entry ([.ref ((ad 0)), .int (nI t)]) (n := 2) (Nat.le_of_ble_eq_true rfl)
  rw [lg_entry_eq]
  generalize (lg_sl ([.ref ((ad 0)), .int (nI t)]) ++ List.replicate (2 - (lg_sl ([.ref ((ad 0)), .int (nI t)])).length) Slot.unset).toArray = ls at hl ⊢
  have hl : lv_has ls 2 [(0, .ref ((ad 0))), (1, .int (nI t))] := hl
  refine lv_aload_n hx hb dX3_alternate_0 rfl (lv_at hl 0 rfl) ?_
  refine lv_iload_n hx hb dX3_alternate_1 rfl (lv_at hl 1 rfl) ?_
  have hPc := hP.sub (ws' := tdW κ T S ad bs sm pl r0 r1 (nI k0) vo du nd wt wx wb wn tp tn ts (nI 0)) [0, 1, 2, 3, 4, 5, 6, 7, 8, 9, 10, 11, 12, 13] rfl
  refine pu_call (va_runV (As := [.int (nI t)]) (rest := []) ⟨hx, hb, hml, hown, hts⟩ (c_hasTrack l D κ T S ad bs sm pl r0 r1 (nI k0) vo du nd wt wx wb wn tp tn ts (nI 0) (nI t)) (cwV 1 hts gX3_alternate_X3_hasTrack rfl rfl rfl (by decide +kernel) ⟨Nat.le_of_ble_eq_true rfl, Nat.le_of_ble_eq_true rfl⟩) ⟨pu_blind, va_recv hK hPc (ci := 4) (q0 := 0) rfl rfl, pu_pre hK hPc⟩ rfl rfl hl.1 rfl (lv_room (Nat.le_of_ble_eq_true rfl)) dX3_alternate_2 ⟨Nat.le_of_ble_eq_true rfl, Nat.le_of_ble_eq_true rfl⟩) ?_
  refine lv_if_ne (tgt := 11) hx hb dX3_alternate_5 (by decide) (fun c_5 => ?_) (fun c_5 => ?_)
  · skip
    refine lv_aload_n hx hb dX3_alternate_11 rfl (lv_at hl 0 rfl) ?_
    refine va_get (D := D) (ci := 4) (v := .int (nI 0)) (C := RX3) (T := TX3) (N := 8) hx hb hts (by decide +kernel) hown hK hP 0 rfl rfl 7 (by decide) (hts (.fieldLink RX3 50 "TrackDisk" "down" "Z") (by decide +kernel)) (fun _ h9 => h9) rfl dX3_alternate_12 ?_
    refine lv_if_eq (tgt := 21) hx hb dX3_alternate_15 (by decide) (fun c_15 => ?_) (fun c_15 => ?_)
    · skip
      refine lv_aload_n hx hb dX3_alternate_21 rfl (lv_at hl 0 rfl) ?_
      refine va_get (D := D) (ci := 4) (v := .ref ((ad 1))) (C := RX3) (T := TX3) (N := 8) hx hb hts (by decide +kernel) hown hK hP 0 rfl rfl 2 (by decide) (hts (.fieldLink RX3 25 "TrackDisk" "disk" "LTrackDisk$Surface;") (by decide +kernel)) (fun _ h9 => h9) rfl dX3_alternate_22 ?_
      refine lv_iload_n hx hb dX3_alternate_25 rfl (lv_at hl 1 rfl) ?_
      have hPc := hP.sub (ws' := sfW κ T S (fun j => ad (j + 1)) bs sm pl r0 r1 (nI k0) vo) [1, 2, 3, 4, 5, 6] rfl
      refine pu_call (va_runV (As := [.int (nI t)]) (rest := []) ⟨hx, hb, hml, hown, hts⟩ (c_isSent l D κ T S (fun j => ad (j + 1)) bs sm pl r0 r1 (nI k0) vo hT hS8 hpl t ht) (cwV 1 hts gX3_alternate_X1_isSent rfl rfl rfl (by decide +kernel) ⟨Nat.le_of_ble_eq_true rfl, Nat.le_of_ble_eq_true rfl⟩) ⟨pu_blind, va_recv hK hPc (ci := 2) (q0 := 0) rfl rfl, pu_pre hK hPc⟩ rfl rfl hl.1 rfl (lv_room (Nat.le_of_ble_eq_true rfl)) dX3_alternate_26 ⟨Nat.le_of_ble_eq_true rfl, Nat.le_of_ble_eq_true rfl⟩) ?_
      refine lv_if_ne (tgt := 43) hx hb dX3_alternate_29 (by decide) (fun c_29 => ?_) (fun c_29 => ?_)
      · exact (bI_cf hse c_29).elim
      · skip
        refine lv_aload_n hx hb dX3_alternate_32 rfl (lv_at hl 0 rfl) ?_
        refine va_get (D := D) (ci := 4) (v := .ref ((ad 1))) (C := RX3) (T := TX3) (N := 8) hx hb hts (by decide +kernel) hown hK hP 0 rfl rfl 2 (by decide) (hts (.fieldLink RX3 25 "TrackDisk" "disk" "LTrackDisk$Surface;") (by decide +kernel)) (fun _ h9 => h9) rfl dX3_alternate_33 ?_
        refine va_get (D := D) (ci := 2) (v := .int (nI k0)) (C := RX1) (T := TX1) (N := 9) hx hb hts (by decide +kernel) hown hK hP 1 rfl rfl 7 (by decide) (hts (.fieldLink RX3 127 "TrackDisk$Surface" "taken" "I") (by decide +kernel)) (fun _ h9 => h9) rfl dX3_alternate_36 ?_
        refine lv_iconst (v := nI 2) hx hb dX3_alternate_39 (by decide) ?_
        refine lv_icmp_lt (tgt := 45) hx hb dX3_alternate_40 (by decide) (fun c_40 => ?_) (fun c_40 => ?_)
        · skip
          refine lv_aload_n hx hb dX3_alternate_45 rfl (lv_at hl 0 rfl) ?_
          refine va_get (D := D) (ci := 4) (v := .ref ((ad 1))) (C := RX3) (T := TX3) (N := 8) hx hb hts (by decide +kernel) hown hK hP 0 rfl rfl 2 (by decide) (hts (.fieldLink RX3 25 "TrackDisk" "disk" "LTrackDisk$Surface;") (by decide +kernel)) (fun _ h9 => h9) rfl dX3_alternate_46 ?_
          refine lv_iload_n hx hb dX3_alternate_49 rfl (lv_at hl 1 rfl) ?_
          have hPc := hP.sub (ws' := sfW κ T S (fun j => ad (j + 1)) bs sm pl r0 r1 (nI k0) vo) [1, 2, 3, 4, 5, 6] rfl
          have hDc := hD.sub (ws' := sfW κ T S (fun j => ad (j + 1)) bs sm pl r0 r1 (nI k0) vo) [1, 2, 3, 4, 5, 6] (by decide) rfl
          refine mu_call (wc := sfW κ T S (fun j => ad (j + 1)) bs sm pl r0 r1 (nI k0) vo) (wc' := sfW κ T S (fun j => ad (j + 1)) (va_cpy bs bs ((cl (pl t) * S + 0) * 16) (((T + k0) * S + 0) * 16) (S * 16)) (ssF (va_cpy bs bs ((cl (pl t) * S + 0) * 16) (((T + k0) * S + 0) * 16) (S * 16)) sm S (T + k0) S) (upd pl t (nI (T + k0))) r0 r1 (nI (k0 + 1)) vo) (ws' := tdW κ T S ad (va_cpy bs bs ((cl (pl t) * S + 0) * 16) (((T + k0) * S + 0) * 16) (S * 16)) (ssF (va_cpy bs bs ((cl (pl t) * S + 0) * 16) (((T + k0) * S + 0) * 16) (S * 16)) sm S (T + k0) S) (upd pl t (nI (T + k0))) r0 r1 (nI (k0 + 1)) vo du nd wt wx wb wn tp tn ts (nI 0)) (wr := (([0, 7, 8, 9, 10, 11, 12, 13] : List Nat).filterMap fun i => (tdW κ T S ad bs sm pl r0 r1 (nI k0) vo du nd wt wx wb wn tp tn ts (nI 0))[i]?)) (va_runV (As := [.int (nI t)]) (rest := []) ⟨hx, hb, hml, hown, hts⟩ (c_send l D κ H.size T S (fun j => ad (j + 1)) bs sm pl r0 r1 k0 vo hT hS8 hpl t ht hk0 hft) (cwV 1 hts gX3_alternate_X1_send rfl rfl rfl (by decide +kernel) ⟨Nat.le_of_ble_eq_true rfl, Nat.le_of_ble_eq_true rfl⟩) ⟨mu_blind, va_recv hK hPc (ci := 2) (q0 := 0) rfl rfl, mu_pre hK hPc hDc⟩ rfl rfl hl.1 rfl (lv_room (Nat.le_of_ble_eq_true rfl)) dX3_alternate_50 ⟨Nat.le_of_ble_eq_true rfl, Nat.le_of_ble_eq_true rfl⟩) hP hD hS hA [1, 2, 3, 4, 5, 6] [0, 7, 8, 9, 10, 11, 12, 13] [0, 8, 9, 10, 11, 12, 13, 1, 2, 3, 4, 5, 6, 7] rfl rfl (by decide) (by decide) rfl rfl (by decide) (fun H locs hP hD hS => ?_)
          refine W.eq (g2 := F0 m 53 ls [.int (nI (T + k0))]) rfl ?_
          have hP9 : va_P D vwCl (tdW κ T S ad (va_cpy bs bs ((cl (pl t) * S + 0) * 16) (((T + k0) * S + 0) * 16) (S * 16)) (ssF (va_cpy bs bs ((cl (pl t) * S + 0) * 16) (((T + k0) * S + 0) * 16) (S * 16)) sm S (T + k0) S) (upd pl t (nI (T + k0))) r0 r1 (nI (k0 + 1)) vo du nd wt wx wb wn tp tn ts (nI 0)) H := hP
          have hD9 : va_D A (tdW κ T S ad (va_cpy bs bs ((cl (pl t) * S + 0) * 16) (((T + k0) * S + 0) * 16) (S * 16)) (ssF (va_cpy bs bs ((cl (pl t) * S + 0) * 16) (((T + k0) * S + 0) * 16) (S * 16)) sm S (T + k0) S) (upd pl t (nI (T + k0))) r0 r1 (nI (k0 + 1)) vo du nd wt wx wb wn tp tn ts (nI 0)) := hD
          exact W.iret hx hb hr (fun t ht _ => ⟨⟨rfl, by rw [ht]; exact hP9, hD9⟩, hS.F ht⟩) hS.2.2 dX3_alternate_53 hlocks
        · exact absurd (nI_lt hk0 (by omega)) c_40
    · exact absurd (by decide) c_15
  · exact (bI_ct (inF_nI ht (by omega)) c_5).elim

set_option maxHeartbeats 4000000 in
set_option maxRecDepth 100000 in
/-- tape: wound back -/
theorem c_tape_back (l : Launch) (D : va_G) (κ : Nat → ClassId) (sz : Nat) (T S : Nat) (ad : Nat → Nat) (bs sm pl r0 r1 : Nat → Int32) (tk vo : Int32) (du : Nat → Option Nat) (nd : Int32) (wt wx wb : Nat → Int32) (wn : Int32) (tp : Nat → Int32) (tn ts dn : Int32) (x : Int32) (hneg : x < 0) : Met l yX3_tape wsX3_tape ({ frames := 0, cells := 0, slots := 0, locals := 0 }) (va_Pc [.ref ((ad 0)), .int x] (mu_B D κ (tdW κ T S ad bs sm pl r0 r1 tk vo du nd wt wx wb wn tp tn ts dn) sz)) (mu_Q D (some (.int (tn))) (tdW κ T S ad bs sm pl r0 r1 tk vo du nd wt wx wb wn tp tn (nI 0) dn) (va_A (tdW κ T S ad bs sm pl r0 r1 tk vo du nd wt wx wb wn tp tn ts dn) sz)) 0 0 (va_A (tdW κ T S ad bs sm pl r0 r1 tk vo du nd wt wx wb wn tp tn ts dn) sz) := by
  refine Met.ofW (cc := cX3_tape) (maxL := 2) (ret := (some .int)) (by decide) rfl ?_
  intro p e s m args below meth c s₁ B hml hv
  obtain ⟨rfl, hsz, hP, hK, hD0⟩ := hv
  have hx := B.exec
  have hb := B.bytes
  have hr := B.returns
  have hts := atoms_spec (ws := wsX3_tape) B.pre
  have hown : s.vm.findClass RX3 = some m.cls := findClass_of_methodNamed B.named
  have hlocks := B.notSynchronized
  subst hsz
  have hD := hD0.self (sz := s.heap.size)
  generalize hAe : va_A (tdW κ T S ad bs sm pl r0 r1 tk vo du nd wt wx wb wn tp tn ts dn) s.heap.size = A at hD ⊢
  have hA : ∀ q : Nat, s.heap.size ≤ q → A q := fun q h => by rw [← hAe]; exact Or.inr h
  refine W.gen (P := fun H locs => va_P D vwCl (tdW κ T S ad bs sm pl r0 r1 tk vo du nd wt wx wb wn tp tn ts dn) H ∧ va_S A s.heap H locs) (fun H locs h => ?_) ⟨hP, va_S.rf⟩
  clear hP
  obtain ⟨hP, hS⟩ := h
  have hl := lv_entry ([.ref ((ad 0)), .int x]) (n := 2) (Nat.le_of_ble_eq_true rfl)
  rw [lg_entry_eq]
  generalize (lg_sl ([.ref ((ad 0)), .int x]) ++ List.replicate (2 - (lg_sl ([.ref ((ad 0)), .int x])).length) Slot.unset).toArray = ls at hl ⊢
  have hl : lv_has ls 2 [(0, .ref ((ad 0))), (1, .int x)] := hl
  refine lv_iload_n hx hb dX3_tape_0 rfl (lv_at hl 1 rfl) ?_
  refine lv_if_ge (tgt := 15) hx hb dX3_tape_1 (by decide) (fun c_1 => ?_) (fun c_1 => ?_)
  · exact absurd c_1 (Int32.not_le.mpr hneg)
  · skip
    refine lv_aload_n hx hb dX3_tape_4 rfl (lv_at hl 0 rfl) ?_
    refine va_get (D := D) (ci := 4) (v := .ref ((ad 12))) (C := RX3) (T := TX3) (N := 8) hx hb hts (by decide +kernel) hown hK hP 0 rfl rfl 6 (by decide) (hts (.fieldLink RX3 46 "TrackDisk" "reel" "LTrackDisk$Reel;") (by decide +kernel)) (fun _ h9 => h9) rfl dX3_tape_5 ?_
    refine lv_iconst (v := nI 0) hx hb dX3_tape_8 (by decide) ?_
    refine va_put (D := D) (ci := 1) (v := .int (nI 0)) (ty := .int) (C := RX0) (T := TX0) (N := 3) hx hb hts (by decide +kernel) tyX0 tyX0_ok nmX0 hown hK hP hD hS 12 rfl rfl 2 (by decide) (hts (.fieldLink RX3 145 "TrackDisk$Reel" "stand" "I") (by decide +kernel)) (fun _ h9 => h9) rfl (by decide +kernel) rfl rfl (Nat.le_of_ble_eq_true rfl) dX3_tape_9 (fun H locs hP hD hS => ?_)
    have hP : va_P D vwCl (tdW κ T S ad bs sm pl r0 r1 tk vo du nd wt wx wb wn tp tn (nI 0) dn) H := hP
    have hD : va_D A (tdW κ T S ad bs sm pl r0 r1 tk vo du nd wt wx wb wn tp tn (nI 0) dn) := hD
    refine lv_goto (tgt := 23) hx hb dX3_tape_12 (by decide) ?_
    refine lv_aload_n hx hb dX3_tape_23 rfl (lv_at hl 0 rfl) ?_
    refine va_get (D := D) (ci := 4) (v := .ref ((ad 12))) (C := RX3) (T := TX3) (N := 8) hx hb hts (by decide +kernel) hown hK hP 0 rfl rfl 6 (by decide) (hts (.fieldLink RX3 46 "TrackDisk" "reel" "LTrackDisk$Reel;") (by decide +kernel)) (fun _ h9 => h9) rfl dX3_tape_24 ?_
    refine va_get (D := D) (ci := 1) (v := .int tn) (C := RX0) (T := TX0) (N := 3) hx hb hts (by decide +kernel) hown hK hP 12 rfl rfl 1 (by decide) (hts (.fieldLink RX3 151 "TrackDisk$Reel" "size" "I") (by decide +kernel)) (fun _ h9 => h9) rfl dX3_tape_27 ?_
    have hP9 : va_P D vwCl (tdW κ T S ad bs sm pl r0 r1 tk vo du nd wt wx wb wn tp tn (nI 0) dn) H := hP
    have hD9 : va_D A (tdW κ T S ad bs sm pl r0 r1 tk vo du nd wt wx wb wn tp tn (nI 0) dn) := hD
    exact W.iret hx hb hr (fun t ht _ => ⟨⟨rfl, by rw [ht]; exact hP9, hD9⟩, hS.F ht⟩) hS.2.2 dX3_tape_30 hlocks

set_option maxHeartbeats 4000000 in
set_option maxRecDepth 100000 in
/-- tape: a row -/
theorem c_tape (l : Launch) (D : va_G) (κ : Nat → ClassId) (sz : Nat) (T S : Nat) (ad : Nat → Nat) (bs sm pl r0 r1 : Nat → Int32) (tk vo : Int32) (du : Nat → Option Nat) (nd : Int32) (wt wx wb : Nat → Int32) (wn : Int32) (tp : Nat → Int32) (tn dn : Int32)  (x : Int32) (hneg : ¬ x < 0) (a : Nat) (ha : a < 100) : Met l yX3_tape wsX3_tape ({ frames := 1, cells := 0, slots := 0, locals := 21 }) (va_Pc [.ref ((ad 0)), .int x] (mu_B D κ (tdW κ T S ad bs sm pl r0 r1 tk vo du nd wt wx wb wn tp tn (nI a) dn) sz)) (mu_Q D (some (.int (nI (a + 1)))) (tdW κ T S ad bs sm pl r0 r1 tk vo du nd wt wx wb wn (upd tp a x) (nI (a + 1)) (nI (a + 1)) dn) (va_A (tdW κ T S ad bs sm pl r0 r1 tk vo du nd wt wx wb wn tp tn (nI a) dn) sz)) 0 0 (va_A (tdW κ T S ad bs sm pl r0 r1 tk vo du nd wt wx wb wn tp tn (nI a) dn) sz) := by
  refine Met.ofW (cc := cX3_tape) (maxL := 2) (ret := (some .int)) (by decide) rfl ?_
  intro p e s m args below meth c s₁ B hml hv
  obtain ⟨rfl, hsz, hP, hK, hD0⟩ := hv
  have hx := B.exec
  have hb := B.bytes
  have hr := B.returns
  have hts := atoms_spec (ws := wsX3_tape) B.pre
  have hown : s.vm.findClass RX3 = some m.cls := findClass_of_methodNamed B.named
  have hlocks := B.notSynchronized
  subst hsz
  have hD := hD0.self (sz := s.heap.size)
  generalize hAe : va_A (tdW κ T S ad bs sm pl r0 r1 tk vo du nd wt wx wb wn tp tn (nI a) dn) s.heap.size = A at hD ⊢
  have hA : ∀ q : Nat, s.heap.size ≤ q → A q := fun q h => by rw [← hAe]; exact Or.inr h
  refine W.gen (P := fun H locs => va_P D vwCl (tdW κ T S ad bs sm pl r0 r1 tk vo du nd wt wx wb wn tp tn (nI a) dn) H ∧ va_S A s.heap H locs) (fun H locs h => ?_) ⟨hP, va_S.rf⟩
  clear hP
  obtain ⟨hP, hS⟩ := h
  have hl := lv_entry ([.ref ((ad 0)), .int x]) (n := 2) (Nat.le_of_ble_eq_true rfl)
  rw [lg_entry_eq]
  generalize (lg_sl ([.ref ((ad 0)), .int x]) ++ List.replicate (2 - (lg_sl ([.ref ((ad 0)), .int x])).length) Slot.unset).toArray = ls at hl ⊢
  have hl : lv_has ls 2 [(0, .ref ((ad 0))), (1, .int x)] := hl
  refine lv_iload_n hx hb dX3_tape_0 rfl (lv_at hl 1 rfl) ?_
  refine lv_if_ge (tgt := 15) hx hb dX3_tape_1 (by decide) (fun c_1 => ?_) (fun c_1 => ?_)
  · skip
    refine lv_aload_n hx hb dX3_tape_15 rfl (lv_at hl 0 rfl) ?_
    refine va_get (D := D) (ci := 4) (v := .ref ((ad 12))) (C := RX3) (T := TX3) (N := 8) hx hb hts (by decide +kernel) hown hK hP 0 rfl rfl 6 (by decide) (hts (.fieldLink RX3 46 "TrackDisk" "reel" "LTrackDisk$Reel;") (by decide +kernel)) (fun _ h9 => h9) rfl dX3_tape_16 ?_
    refine lv_iload_n hx hb dX3_tape_19 rfl (lv_at hl 1 rfl) ?_
    have hPc := hP.sub (ws' := reW κ (fun j => ad (j + 12)) tp tn (nI a)) [12, 13] rfl
    have hDc := hD.sub (ws' := reW κ (fun j => ad (j + 12)) tp tn (nI a)) [12, 13] (by decide) rfl
    refine mu_call (wc := reW κ (fun j => ad (j + 12)) tp tn (nI a)) (wc' := reW κ (fun j => ad (j + 12)) (upd tp a x) (nI (a + 1)) (nI (a + 1))) (ws' := tdW κ T S ad bs sm pl r0 r1 tk vo du nd wt wx wb wn (upd tp a x) (nI (a + 1)) (nI (a + 1)) dn) (wr := (([0, 1, 2, 3, 4, 5, 6, 7, 8, 9, 10, 11] : List Nat).filterMap fun i => (tdW κ T S ad bs sm pl r0 r1 tk vo du nd wt wx wb wn tp tn (nI a) dn)[i]?)) (va_runV (As := [.int x]) (rest := []) ⟨hx, hb, hml, hown, hts⟩ (c_record l D κ H.size (fun j => ad (j + 12)) tp tn a ha x) (cwV 1 hts gX3_tape_X0_record rfl rfl rfl (by decide +kernel) ⟨Nat.le_of_ble_eq_true rfl, Nat.le_of_ble_eq_true rfl⟩) ⟨mu_blind, va_recv hK hPc (ci := 1) (q0 := 0) rfl rfl, mu_pre hK hPc hDc⟩ rfl rfl hl.1 rfl (lv_room (Nat.le_of_ble_eq_true rfl)) dX3_tape_20 ⟨Nat.le_of_ble_eq_true rfl, Nat.le_of_ble_eq_true rfl⟩) hP hD hS hA [12, 13] [0, 1, 2, 3, 4, 5, 6, 7, 8, 9, 10, 11] [0, 1, 2, 3, 4, 5, 6, 7, 8, 9, 10, 11, 12, 13] rfl rfl (by decide) (by decide) rfl rfl (by decide) (fun H locs hP hD hS => ?_)
    refine W.eq (g2 := F0 m 23 ls []) rfl ?_
    refine lv_aload_n hx hb dX3_tape_23 rfl (lv_at hl 0 rfl) ?_
    refine va_get (D := D) (ci := 4) (v := .ref ((ad 12))) (C := RX3) (T := TX3) (N := 8) hx hb hts (by decide +kernel) hown hK hP 0 rfl rfl 6 (by decide) (hts (.fieldLink RX3 46 "TrackDisk" "reel" "LTrackDisk$Reel;") (by decide +kernel)) (fun _ h9 => h9) rfl dX3_tape_24 ?_
    refine va_get (D := D) (ci := 1) (v := .int (nI (a + 1))) (C := RX0) (T := TX0) (N := 3) hx hb hts (by decide +kernel) hown hK hP 12 rfl rfl 1 (by decide) (hts (.fieldLink RX3 151 "TrackDisk$Reel" "size" "I") (by decide +kernel)) (fun _ h9 => h9) rfl dX3_tape_27 ?_
    have hP9 : va_P D vwCl (tdW κ T S ad bs sm pl r0 r1 tk vo du nd wt wx wb wn (upd tp a x) (nI (a + 1)) (nI (a + 1)) dn) H := hP
    have hD9 : va_D A (tdW κ T S ad bs sm pl r0 r1 tk vo du nd wt wx wb wn (upd tp a x) (nI (a + 1)) (nI (a + 1)) dn) := hD
    exact W.iret hx hb hr (fun t ht _ => ⟨⟨rfl, by rw [ht]; exact hP9, hD9⟩, hS.F ht⟩) hS.2.2 dX3_tape_30 hlocks
  · exact absurd (Int32.not_lt.mp hneg) c_1

set_option maxHeartbeats 4000000 in
set_option maxRecDepth 100000 in
/-- tape: full -/
theorem c_tape_full (l : Launch) (D : va_G) (κ : Nat → ClassId) (sz : Nat) (T S : Nat) (ad : Nat → Nat) (bs sm pl r0 r1 : Nat → Int32) (tk vo : Int32) (du : Nat → Option Nat) (nd : Int32) (wt wx wb : Nat → Int32) (wn : Int32) (tp : Nat → Int32) (tn ts dn : Int32) (x : Int32) (hneg : ¬ x < 0) (ha : nI 100 ≤ ts) : Met l yX3_tape wsX3_tape ({ frames := 1, cells := 0, slots := 0, locals := 21 }) (va_Pc [.ref ((ad 0)), .int x] (mu_B D κ (tdW κ T S ad bs sm pl r0 r1 tk vo du nd wt wx wb wn tp tn ts dn) sz)) (mu_Q D (some (.int (tn))) (tdW κ T S ad bs sm pl r0 r1 tk vo du nd wt wx wb wn tp tn ts dn) (va_A (tdW κ T S ad bs sm pl r0 r1 tk vo du nd wt wx wb wn tp tn ts dn) sz)) 0 0 (va_A (tdW κ T S ad bs sm pl r0 r1 tk vo du nd wt wx wb wn tp tn ts dn) sz) := by
  refine Met.ofW (cc := cX3_tape) (maxL := 2) (ret := (some .int)) (by decide) rfl ?_
  intro p e s m args below meth c s₁ B hml hv
  obtain ⟨rfl, hsz, hP, hK, hD0⟩ := hv
  have hx := B.exec
  have hb := B.bytes
  have hr := B.returns
  have hts := atoms_spec (ws := wsX3_tape) B.pre
  have hown : s.vm.findClass RX3 = some m.cls := findClass_of_methodNamed B.named
  have hlocks := B.notSynchronized
  subst hsz
  have hD := hD0.self (sz := s.heap.size)
  generalize hAe : va_A (tdW κ T S ad bs sm pl r0 r1 tk vo du nd wt wx wb wn tp tn ts dn) s.heap.size = A at hD ⊢
  have hA : ∀ q : Nat, s.heap.size ≤ q → A q := fun q h => by rw [← hAe]; exact Or.inr h
  refine W.gen (P := fun H locs => va_P D vwCl (tdW κ T S ad bs sm pl r0 r1 tk vo du nd wt wx wb wn tp tn ts dn) H ∧ va_S A s.heap H locs) (fun H locs h => ?_) ⟨hP, va_S.rf⟩
  clear hP
  obtain ⟨hP, hS⟩ := h
  have hl := lv_entry ([.ref ((ad 0)), .int x]) (n := 2) (Nat.le_of_ble_eq_true rfl)
  rw [lg_entry_eq]
  generalize (lg_sl ([.ref ((ad 0)), .int x]) ++ List.replicate (2 - (lg_sl ([.ref ((ad 0)), .int x])).length) Slot.unset).toArray = ls at hl ⊢
  have hl : lv_has ls 2 [(0, .ref ((ad 0))), (1, .int x)] := hl
  refine lv_iload_n hx hb dX3_tape_0 rfl (lv_at hl 1 rfl) ?_
  refine lv_if_ge (tgt := 15) hx hb dX3_tape_1 (by decide) (fun c_1 => ?_) (fun c_1 => ?_)
  · skip
    refine lv_aload_n hx hb dX3_tape_15 rfl (lv_at hl 0 rfl) ?_
    refine va_get (D := D) (ci := 4) (v := .ref ((ad 12))) (C := RX3) (T := TX3) (N := 8) hx hb hts (by decide +kernel) hown hK hP 0 rfl rfl 6 (by decide) (hts (.fieldLink RX3 46 "TrackDisk" "reel" "LTrackDisk$Reel;") (by decide +kernel)) (fun _ h9 => h9) rfl dX3_tape_16 ?_
    refine lv_iload_n hx hb dX3_tape_19 rfl (lv_at hl 1 rfl) ?_
    have hPc := hP.sub (ws' := reW κ (fun j => ad (j + 12)) tp tn ts) [12, 13] rfl
    have hDc := hD.sub (ws' := reW κ (fun j => ad (j + 12)) tp tn ts) [12, 13] (by decide) rfl
    refine mu_call (wc := reW κ (fun j => ad (j + 12)) tp tn ts) (wc' := reW κ (fun j => ad (j + 12)) tp tn ts) (ws' := tdW κ T S ad bs sm pl r0 r1 tk vo du nd wt wx wb wn tp tn ts dn) (wr := (([0, 1, 2, 3, 4, 5, 6, 7, 8, 9, 10, 11] : List Nat).filterMap fun i => (tdW κ T S ad bs sm pl r0 r1 tk vo du nd wt wx wb wn tp tn ts dn)[i]?)) (va_runV (As := [.int x]) (rest := []) ⟨hx, hb, hml, hown, hts⟩ (c_recordF l D κ H.size (fun j => ad (j + 12)) tp tn ts ha x) (cwV 1 hts gX3_tape_X0_record rfl rfl rfl (by decide +kernel) ⟨Nat.le_of_ble_eq_true rfl, Nat.le_of_ble_eq_true rfl⟩) ⟨mu_blind, va_recv hK hPc (ci := 1) (q0 := 0) rfl rfl, mu_pre hK hPc hDc⟩ rfl rfl hl.1 rfl (lv_room (Nat.le_of_ble_eq_true rfl)) dX3_tape_20 ⟨Nat.le_of_ble_eq_true rfl, Nat.le_of_ble_eq_true rfl⟩) hP hD hS hA [12, 13] [0, 1, 2, 3, 4, 5, 6, 7, 8, 9, 10, 11] [0, 1, 2, 3, 4, 5, 6, 7, 8, 9, 10, 11, 12, 13] rfl rfl (by decide) (by decide) rfl rfl (by decide) (fun H locs hP hD hS => ?_)
    refine W.eq (g2 := F0 m 23 ls []) rfl ?_
    refine lv_aload_n hx hb dX3_tape_23 rfl (lv_at hl 0 rfl) ?_
    refine va_get (D := D) (ci := 4) (v := .ref ((ad 12))) (C := RX3) (T := TX3) (N := 8) hx hb hts (by decide +kernel) hown hK hP 0 rfl rfl 6 (by decide) (hts (.fieldLink RX3 46 "TrackDisk" "reel" "LTrackDisk$Reel;") (by decide +kernel)) (fun _ h9 => h9) rfl dX3_tape_24 ?_
    refine va_get (D := D) (ci := 1) (v := .int tn) (C := RX0) (T := TX0) (N := 3) hx hb hts (by decide +kernel) hown hK hP 12 rfl rfl 1 (by decide) (hts (.fieldLink RX3 151 "TrackDisk$Reel" "size" "I") (by decide +kernel)) (fun _ h9 => h9) rfl dX3_tape_27 ?_
    have hP9 : va_P D vwCl (tdW κ T S ad bs sm pl r0 r1 tk vo du nd wt wx wb wn tp tn ts dn) H := hP
    have hD9 : va_D A (tdW κ T S ad bs sm pl r0 r1 tk vo du nd wt wx wb wn tp tn ts dn) := hD
    exact W.iret hx hb hr (fun t ht _ => ⟨⟨rfl, by rw [ht]; exact hP9, hD9⟩, hS.F ht⟩) hS.2.2 dX3_tape_30 hlocks
  · exact absurd (Int32.not_lt.mp hneg) c_1

set_option maxHeartbeats 4000000 in
set_option maxRecDepth 100000 in
/-- next -/
theorem c_next (l : Launch) (D : va_G) (κ : Nat → ClassId) (sz : Nat) (T S : Nat) (ad : Nat → Nat) (bs sm pl r0 r1 : Nat → Int32) (tk vo : Int32) (du : Nat → Option Nat) (nd : Int32) (wt wx wb : Nat → Int32) (wn : Int32) (tp : Nat → Int32) ( dn : Int32)  (n a : Nat) (ha : a < n) (hn : n ≤ 100) : Met l yX3_next wsX3_next ({ frames := 1, cells := 0, slots := 0, locals := 21 }) (va_Pc [.ref ((ad 0))] (mu_B D κ (tdW κ T S ad bs sm pl r0 r1 tk vo du nd wt wx wb wn tp (nI n) (nI a) dn) sz)) (mu_Q D (some (.int (tp a))) (tdW κ T S ad bs sm pl r0 r1 tk vo du nd wt wx wb wn tp (nI n) (nI (a + 1)) dn) (va_A (tdW κ T S ad bs sm pl r0 r1 tk vo du nd wt wx wb wn tp (nI n) (nI a) dn) sz)) 0 0 (va_A (tdW κ T S ad bs sm pl r0 r1 tk vo du nd wt wx wb wn tp (nI n) (nI a) dn) sz) := by
  refine Met.ofW (cc := cX3_next) (maxL := 1) (ret := (some .int)) (by decide) rfl ?_
  intro p e s m args below meth c s₁ B hml hv
  obtain ⟨rfl, hsz, hP, hK, hD0⟩ := hv
  have hx := B.exec
  have hb := B.bytes
  have hr := B.returns
  have hts := atoms_spec (ws := wsX3_next) B.pre
  have hown : s.vm.findClass RX3 = some m.cls := findClass_of_methodNamed B.named
  have hlocks := B.notSynchronized
  subst hsz
  have hD := hD0.self (sz := s.heap.size)
  generalize hAe : va_A (tdW κ T S ad bs sm pl r0 r1 tk vo du nd wt wx wb wn tp (nI n) (nI a) dn) s.heap.size = A at hD ⊢
  have hA : ∀ q : Nat, s.heap.size ≤ q → A q := fun q h => by rw [← hAe]; exact Or.inr h
  refine W.gen (P := fun H locs => va_P D vwCl (tdW κ T S ad bs sm pl r0 r1 tk vo du nd wt wx wb wn tp (nI n) (nI a) dn) H ∧ va_S A s.heap H locs) (fun H locs h => ?_) ⟨hP, va_S.rf⟩
  clear hP
  obtain ⟨hP, hS⟩ := h
  have hl := lv_entry ([.ref ((ad 0))]) (n := 1) (Nat.le_of_ble_eq_true rfl)
  rw [lg_entry_eq]
  generalize (lg_sl ([.ref ((ad 0))]) ++ List.replicate (1 - (lg_sl ([.ref ((ad 0))])).length) Slot.unset).toArray = ls at hl ⊢
  have hl : lv_has ls 1 [(0, .ref ((ad 0)))] := hl
  refine lv_aload_n hx hb dX3_next_0 rfl (lv_at hl 0 rfl) ?_
  refine va_get (D := D) (ci := 4) (v := .ref ((ad 12))) (C := RX3) (T := TX3) (N := 8) hx hb hts (by decide +kernel) hown hK hP 0 rfl rfl 6 (by decide) (hts (.fieldLink RX3 46 "TrackDisk" "reel" "LTrackDisk$Reel;") (by decide +kernel)) (fun _ h9 => h9) rfl dX3_next_1 ?_
  have hPc := hP.sub (ws' := reW κ (fun j => ad (j + 12)) tp (nI n) (nI a)) [12, 13] rfl
  have hDc := hD.sub (ws' := reW κ (fun j => ad (j + 12)) tp (nI n) (nI a)) [12, 13] (by decide) rfl
  refine mu_call (wc := reW κ (fun j => ad (j + 12)) tp (nI n) (nI a)) (wc' := reW κ (fun j => ad (j + 12)) tp (nI n) (nI (a + 1))) (ws' := tdW κ T S ad bs sm pl r0 r1 tk vo du nd wt wx wb wn tp (nI n) (nI (a + 1)) dn) (wr := (([0, 1, 2, 3, 4, 5, 6, 7, 8, 9, 10, 11] : List Nat).filterMap fun i => (tdW κ T S ad bs sm pl r0 r1 tk vo du nd wt wx wb wn tp (nI n) (nI a) dn)[i]?)) (va_runV (As := []) (rest := []) ⟨hx, hb, hml, hown, hts⟩ (c_pass l D κ H.size (fun j => ad (j + 12)) tp n a ha hn) (cwV 0 hts gX3_next_X0_pass rfl rfl rfl (by decide +kernel) ⟨Nat.le_of_ble_eq_true rfl, Nat.le_of_ble_eq_true rfl⟩) ⟨mu_blind, va_recv hK hPc (ci := 1) (q0 := 0) rfl rfl, mu_pre hK hPc hDc⟩ rfl rfl hl.1 rfl (lv_room (Nat.le_of_ble_eq_true rfl)) dX3_next_4 ⟨Nat.le_of_ble_eq_true rfl, Nat.le_of_ble_eq_true rfl⟩) hP hD hS hA [12, 13] [0, 1, 2, 3, 4, 5, 6, 7, 8, 9, 10, 11] [0, 1, 2, 3, 4, 5, 6, 7, 8, 9, 10, 11, 12, 13] rfl rfl (by decide) (by decide) rfl rfl (by decide) (fun H locs hP hD hS => ?_)
  refine W.eq (g2 := F0 m 7 ls [.int (tp a)]) rfl ?_
  have hP9 : va_P D vwCl (tdW κ T S ad bs sm pl r0 r1 tk vo du nd wt wx wb wn tp (nI n) (nI (a + 1)) dn) H := hP
  have hD9 : va_D A (tdW κ T S ad bs sm pl r0 r1 tk vo du nd wt wx wb wn tp (nI n) (nI (a + 1)) dn) := hD
  exact W.iret hx hb hr (fun t ht _ => ⟨⟨rfl, by rw [ht]; exact hP9, hD9⟩, hS.F ht⟩) hS.2.2 dX3_next_7 hlocks

set_option maxHeartbeats 4000000 in
set_option maxRecDepth 100000 in
/-- next: at the end -/
theorem c_next_end (l : Launch) (D : va_G) (κ : Nat → ClassId) (sz : Nat) (T S : Nat) (ad : Nat → Nat) (bs sm pl r0 r1 : Nat → Int32) (tk vo : Int32) (du : Nat → Option Nat) (nd : Int32) (wt wx wb : Nat → Int32) (wn : Int32) (tp : Nat → Int32) (tn ts dn : Int32) (ha : ¬ ts < tn) : Met l yX3_next wsX3_next ({ frames := 1, cells := 0, slots := 0, locals := 21 }) (va_Pc [.ref ((ad 0))] (mu_B D κ (tdW κ T S ad bs sm pl r0 r1 tk vo du nd wt wx wb wn tp tn ts dn) sz)) (mu_Q D (some (.int ((-1)))) (tdW κ T S ad bs sm pl r0 r1 tk vo du nd wt wx wb wn tp tn ts dn) (va_A (tdW κ T S ad bs sm pl r0 r1 tk vo du nd wt wx wb wn tp tn ts dn) sz)) 0 0 (va_A (tdW κ T S ad bs sm pl r0 r1 tk vo du nd wt wx wb wn tp tn ts dn) sz) := by
  refine Met.ofW (cc := cX3_next) (maxL := 1) (ret := (some .int)) (by decide) rfl ?_
  intro p e s m args below meth c s₁ B hml hv
  obtain ⟨rfl, hsz, hP, hK, hD0⟩ := hv
  have hx := B.exec
  have hb := B.bytes
  have hr := B.returns
  have hts := atoms_spec (ws := wsX3_next) B.pre
  have hown : s.vm.findClass RX3 = some m.cls := findClass_of_methodNamed B.named
  have hlocks := B.notSynchronized
  subst hsz
  have hD := hD0.self (sz := s.heap.size)
  generalize hAe : va_A (tdW κ T S ad bs sm pl r0 r1 tk vo du nd wt wx wb wn tp tn ts dn) s.heap.size = A at hD ⊢
  have hA : ∀ q : Nat, s.heap.size ≤ q → A q := fun q h => by rw [← hAe]; exact Or.inr h
  refine W.gen (P := fun H locs => va_P D vwCl (tdW κ T S ad bs sm pl r0 r1 tk vo du nd wt wx wb wn tp tn ts dn) H ∧ va_S A s.heap H locs) (fun H locs h => ?_) ⟨hP, va_S.rf⟩
  clear hP
  obtain ⟨hP, hS⟩ := h
  have hl := lv_entry ([.ref ((ad 0))]) (n := 1) (Nat.le_of_ble_eq_true rfl)
  rw [lg_entry_eq]
  generalize (lg_sl ([.ref ((ad 0))]) ++ List.replicate (1 - (lg_sl ([.ref ((ad 0))])).length) Slot.unset).toArray = ls at hl ⊢
  have hl : lv_has ls 1 [(0, .ref ((ad 0)))] := hl
  refine lv_aload_n hx hb dX3_next_0 rfl (lv_at hl 0 rfl) ?_
  refine va_get (D := D) (ci := 4) (v := .ref ((ad 12))) (C := RX3) (T := TX3) (N := 8) hx hb hts (by decide +kernel) hown hK hP 0 rfl rfl 6 (by decide) (hts (.fieldLink RX3 46 "TrackDisk" "reel" "LTrackDisk$Reel;") (by decide +kernel)) (fun _ h9 => h9) rfl dX3_next_1 ?_
  have hPc := hP.sub (ws' := reW κ (fun j => ad (j + 12)) tp tn ts) [12, 13] rfl
  have hDc := hD.sub (ws' := reW κ (fun j => ad (j + 12)) tp tn ts) [12, 13] (by decide) rfl
  refine mu_call (wc := reW κ (fun j => ad (j + 12)) tp tn ts) (wc' := reW κ (fun j => ad (j + 12)) tp tn ts) (ws' := tdW κ T S ad bs sm pl r0 r1 tk vo du nd wt wx wb wn tp tn ts dn) (wr := (([0, 1, 2, 3, 4, 5, 6, 7, 8, 9, 10, 11] : List Nat).filterMap fun i => (tdW κ T S ad bs sm pl r0 r1 tk vo du nd wt wx wb wn tp tn ts dn)[i]?)) (va_runV (As := []) (rest := []) ⟨hx, hb, hml, hown, hts⟩ (c_passE l D κ H.size (fun j => ad (j + 12)) tp tn ts ha) (cwV 0 hts gX3_next_X0_pass rfl rfl rfl (by decide +kernel) ⟨Nat.le_of_ble_eq_true rfl, Nat.le_of_ble_eq_true rfl⟩) ⟨mu_blind, va_recv hK hPc (ci := 1) (q0 := 0) rfl rfl, mu_pre hK hPc hDc⟩ rfl rfl hl.1 rfl (lv_room (Nat.le_of_ble_eq_true rfl)) dX3_next_4 ⟨Nat.le_of_ble_eq_true rfl, Nat.le_of_ble_eq_true rfl⟩) hP hD hS hA [12, 13] [0, 1, 2, 3, 4, 5, 6, 7, 8, 9, 10, 11] [0, 1, 2, 3, 4, 5, 6, 7, 8, 9, 10, 11, 12, 13] rfl rfl (by decide) (by decide) rfl rfl (by decide) (fun H locs hP hD hS => ?_)
  refine W.eq (g2 := F0 m 7 ls [.int ((-1))]) rfl ?_
  have hP9 : va_P D vwCl (tdW κ T S ad bs sm pl r0 r1 tk vo du nd wt wx wb wn tp tn ts dn) H := hP
  have hD9 : va_D A (tdW κ T S ad bs sm pl r0 r1 tk vo du nd wt wx wb wn tp tn ts dn) := hD
  exact W.iret hx hb hr (fun t ht _ => ⟨⟨rfl, by rw [ht]; exact hP9, hD9⟩, hS.F ht⟩) hS.2.2 dX3_next_7 hlocks

set_option maxHeartbeats 4000000 in
set_option maxRecDepth 100000 in
/-- count(0) -/
theorem c_count_0 (l : Launch) (D : va_G) (κ : Nat → ClassId) (sz : Nat) (T S : Nat) (ad : Nat → Nat) (bs sm pl r0 r1 : Nat → Int32) (tk vo : Int32) (du : Nat → Option Nat) (nd : Int32) (wt wx wb : Nat → Int32) (wn : Int32) (tp : Nat → Int32) (tn ts dn : Int32)  : Met l yX3_count wsX3_count ({ frames := 0, cells := 0, slots := 0, locals := 0 }) (va_Pc [.ref ((ad 0)), .int (nI 0)] (mu_B D κ (tdW κ T S ad bs sm pl r0 r1 tk vo du nd wt wx wb wn tp tn ts dn) sz)) (mu_Q D (some (.int (nI T))) (tdW κ T S ad bs sm pl r0 r1 tk vo du nd wt wx wb wn tp tn ts dn) (va_A (tdW κ T S ad bs sm pl r0 r1 tk vo du nd wt wx wb wn tp tn ts dn) sz)) 0 0 (va_A (tdW κ T S ad bs sm pl r0 r1 tk vo du nd wt wx wb wn tp tn ts dn) sz) := by
  refine Met.ofW (cc := cX3_count) (maxL := 2) (ret := (some .int)) (by decide) rfl ?_
  intro p e s m args below meth c s₁ B hml hv
  obtain ⟨rfl, hsz, hP, hK, hD0⟩ := hv
  have hx := B.exec
  have hb := B.bytes
  have hr := B.returns
  have hts := atoms_spec (ws := wsX3_count) B.pre
  have hown : s.vm.findClass RX3 = some m.cls := findClass_of_methodNamed B.named
  have hlocks := B.notSynchronized
  subst hsz
  have hD := hD0.self (sz := s.heap.size)
  generalize hAe : va_A (tdW κ T S ad bs sm pl r0 r1 tk vo du nd wt wx wb wn tp tn ts dn) s.heap.size = A at hD ⊢
  have hA : ∀ q : Nat, s.heap.size ≤ q → A q := fun q h => by rw [← hAe]; exact Or.inr h
  refine W.gen (P := fun H locs => va_P D vwCl (tdW κ T S ad bs sm pl r0 r1 tk vo du nd wt wx wb wn tp tn ts dn) H ∧ va_S A s.heap H locs) (fun H locs h => ?_) ⟨hP, va_S.rf⟩
  clear hP
  obtain ⟨hP, hS⟩ := h
  have hl := lv_entry ([.ref ((ad 0)), .int (nI 0)]) (n := 2) (Nat.le_of_ble_eq_true rfl)
  rw [lg_entry_eq]
  generalize (lg_sl ([.ref ((ad 0)), .int (nI 0)]) ++ List.replicate (2 - (lg_sl ([.ref ((ad 0)), .int (nI 0)])).length) Slot.unset).toArray = ls at hl ⊢
  have hl : lv_has ls 2 [(0, .ref ((ad 0))), (1, .int (nI 0))] := hl
  refine lv_iload_n hx hb dX3_count_0 rfl (lv_at hl 1 rfl) ?_
  refine lv_tableIn (off := 43) (tgt := 44) hx hb dX3_count_1 (by decide) (by decide) (by decide) (by decide) ?_
  refine lv_aload_n hx hb dX3_count_44 rfl (lv_at hl 0 rfl) ?_
  refine va_get (D := D) (ci := 4) (v := .int (nI T)) (C := RX3) (T := TX3) (N := 8) hx hb hts (by decide +kernel) hown hK hP 0 rfl rfl 0 (by decide) (hts (.fieldLink RX3 13 "TrackDisk" "tracks" "I") (by decide +kernel)) (fun _ h9 => h9) rfl dX3_count_45 ?_
  have hP9 : va_P D vwCl (tdW κ T S ad bs sm pl r0 r1 tk vo du nd wt wx wb wn tp tn ts dn) H := hP
  have hD9 : va_D A (tdW κ T S ad bs sm pl r0 r1 tk vo du nd wt wx wb wn tp tn ts dn) := hD
  exact W.iret hx hb hr (fun t ht _ => ⟨⟨rfl, by rw [ht]; exact hP9, hD9⟩, hS.F ht⟩) hS.2.2 dX3_count_48 hlocks

set_option maxHeartbeats 4000000 in
set_option maxRecDepth 100000 in
/-- count(1) -/
theorem c_count_1 (l : Launch) (D : va_G) (κ : Nat → ClassId) (sz : Nat) (T S : Nat) (ad : Nat → Nat) (bs sm pl r0 r1 : Nat → Int32) (tk vo : Int32) (du : Nat → Option Nat) (nd : Int32) (wt wx wb : Nat → Int32) (wn : Int32) (tp : Nat → Int32) (tn ts dn : Int32)  : Met l yX3_count wsX3_count ({ frames := 0, cells := 0, slots := 0, locals := 0 }) (va_Pc [.ref ((ad 0)), .int (nI 1)] (mu_B D κ (tdW κ T S ad bs sm pl r0 r1 tk vo du nd wt wx wb wn tp tn ts dn) sz)) (mu_Q D (some (.int (nI S))) (tdW κ T S ad bs sm pl r0 r1 tk vo du nd wt wx wb wn tp tn ts dn) (va_A (tdW κ T S ad bs sm pl r0 r1 tk vo du nd wt wx wb wn tp tn ts dn) sz)) 0 0 (va_A (tdW κ T S ad bs sm pl r0 r1 tk vo du nd wt wx wb wn tp tn ts dn) sz) := by
  refine Met.ofW (cc := cX3_count) (maxL := 2) (ret := (some .int)) (by decide) rfl ?_
  intro p e s m args below meth c s₁ B hml hv
  obtain ⟨rfl, hsz, hP, hK, hD0⟩ := hv
  have hx := B.exec
  have hb := B.bytes
  have hr := B.returns
  have hts := atoms_spec (ws := wsX3_count) B.pre
  have hown : s.vm.findClass RX3 = some m.cls := findClass_of_methodNamed B.named
  have hlocks := B.notSynchronized
  subst hsz
  have hD := hD0.self (sz := s.heap.size)
  generalize hAe : va_A (tdW κ T S ad bs sm pl r0 r1 tk vo du nd wt wx wb wn tp tn ts dn) s.heap.size = A at hD ⊢
  have hA : ∀ q : Nat, s.heap.size ≤ q → A q := fun q h => by rw [← hAe]; exact Or.inr h
  refine W.gen (P := fun H locs => va_P D vwCl (tdW κ T S ad bs sm pl r0 r1 tk vo du nd wt wx wb wn tp tn ts dn) H ∧ va_S A s.heap H locs) (fun H locs h => ?_) ⟨hP, va_S.rf⟩
  clear hP
  obtain ⟨hP, hS⟩ := h
  have hl := lv_entry ([.ref ((ad 0)), .int (nI 1)]) (n := 2) (Nat.le_of_ble_eq_true rfl)
  rw [lg_entry_eq]
  generalize (lg_sl ([.ref ((ad 0)), .int (nI 1)]) ++ List.replicate (2 - (lg_sl ([.ref ((ad 0)), .int (nI 1)])).length) Slot.unset).toArray = ls at hl ⊢
  have hl : lv_has ls 2 [(0, .ref ((ad 0))), (1, .int (nI 1))] := hl
  refine lv_iload_n hx hb dX3_count_0 rfl (lv_at hl 1 rfl) ?_
  refine lv_tableIn (off := 48) (tgt := 49) hx hb dX3_count_1 (by decide) (by decide) (by decide) (by decide) ?_
  refine lv_aload_n hx hb dX3_count_49 rfl (lv_at hl 0 rfl) ?_
  refine va_get (D := D) (ci := 4) (v := .int (nI S)) (C := RX3) (T := TX3) (N := 8) hx hb hts (by decide +kernel) hown hK hP 0 rfl rfl 1 (by decide) (hts (.fieldLink RX3 17 "TrackDisk" "sectors" "I") (by decide +kernel)) (fun _ h9 => h9) rfl dX3_count_50 ?_
  have hP9 : va_P D vwCl (tdW κ T S ad bs sm pl r0 r1 tk vo du nd wt wx wb wn tp tn ts dn) H := hP
  have hD9 : va_D A (tdW κ T S ad bs sm pl r0 r1 tk vo du nd wt wx wb wn tp tn ts dn) := hD
  exact W.iret hx hb hr (fun t ht _ => ⟨⟨rfl, by rw [ht]; exact hP9, hD9⟩, hS.F ht⟩) hS.2.2 dX3_count_53 hlocks

set_option maxHeartbeats 4000000 in
set_option maxRecDepth 100000 in
/-- count(2) -/
theorem c_count_2 (l : Launch) (D : va_G) (κ : Nat → ClassId) (sz : Nat) (T S : Nat) (ad : Nat → Nat) (bs sm pl r0 r1 : Nat → Int32) (tk vo : Int32) (du : Nat → Option Nat) (nd : Int32) (wt wx wb : Nat → Int32) (wn : Int32) (tp : Nat → Int32) (tn ts dn : Int32)  : Met l yX3_count wsX3_count ({ frames := 0, cells := 0, slots := 0, locals := 0 }) (va_Pc [.ref ((ad 0)), .int (nI 2)] (mu_B D κ (tdW κ T S ad bs sm pl r0 r1 tk vo du nd wt wx wb wn tp tn ts dn) sz)) (mu_Q D (some (.int (wn))) (tdW κ T S ad bs sm pl r0 r1 tk vo du nd wt wx wb wn tp tn ts dn) (va_A (tdW κ T S ad bs sm pl r0 r1 tk vo du nd wt wx wb wn tp tn ts dn) sz)) 0 0 (va_A (tdW κ T S ad bs sm pl r0 r1 tk vo du nd wt wx wb wn tp tn ts dn) sz) := by
  refine Met.ofW (cc := cX3_count) (maxL := 2) (ret := (some .int)) (by decide) rfl ?_
  intro p e s m args below meth c s₁ B hml hv
  obtain ⟨rfl, hsz, hP, hK, hD0⟩ := hv
  have hx := B.exec
  have hb := B.bytes
  have hr := B.returns
  have hts := atoms_spec (ws := wsX3_count) B.pre
  have hown : s.vm.findClass RX3 = some m.cls := findClass_of_methodNamed B.named
  have hlocks := B.notSynchronized
  subst hsz
  have hD := hD0.self (sz := s.heap.size)
  generalize hAe : va_A (tdW κ T S ad bs sm pl r0 r1 tk vo du nd wt wx wb wn tp tn ts dn) s.heap.size = A at hD ⊢
  have hA : ∀ q : Nat, s.heap.size ≤ q → A q := fun q h => by rw [← hAe]; exact Or.inr h
  refine W.gen (P := fun H locs => va_P D vwCl (tdW κ T S ad bs sm pl r0 r1 tk vo du nd wt wx wb wn tp tn ts dn) H ∧ va_S A s.heap H locs) (fun H locs h => ?_) ⟨hP, va_S.rf⟩
  clear hP
  obtain ⟨hP, hS⟩ := h
  have hl := lv_entry ([.ref ((ad 0)), .int (nI 2)]) (n := 2) (Nat.le_of_ble_eq_true rfl)
  rw [lg_entry_eq]
  generalize (lg_sl ([.ref ((ad 0)), .int (nI 2)]) ++ List.replicate (2 - (lg_sl ([.ref ((ad 0)), .int (nI 2)])).length) Slot.unset).toArray = ls at hl ⊢
  have hl : lv_has ls 2 [(0, .ref ((ad 0))), (1, .int (nI 2))] := hl
  refine lv_iload_n hx hb dX3_count_0 rfl (lv_at hl 1 rfl) ?_
  refine lv_tableIn (off := 53) (tgt := 54) hx hb dX3_count_1 (by decide) (by decide) (by decide) (by decide) ?_
  refine lv_aload_n hx hb dX3_count_54 rfl (lv_at hl 0 rfl) ?_
  refine va_get (D := D) (ci := 4) (v := .ref ((ad 8))) (C := RX3) (T := TX3) (N := 8) hx hb hts (by decide +kernel) hown hK hP 0 rfl rfl 5 (by decide) (hts (.fieldLink RX3 39 "TrackDisk" "waiting" "LTrackDisk$Waiting;") (by decide +kernel)) (fun _ h9 => h9) rfl dX3_count_55 ?_
  refine va_get (D := D) (ci := 3) (v := .int wn) (C := RX2) (T := TX2) (N := 4) hx hb hts (by decide +kernel) hown hK hP 8 rfl rfl 3 (by decide) (hts (.fieldLink RX3 58 "TrackDisk$Waiting" "size" "I") (by decide +kernel)) (fun _ h9 => h9) rfl dX3_count_58 ?_
  have hP9 : va_P D vwCl (tdW κ T S ad bs sm pl r0 r1 tk vo du nd wt wx wb wn tp tn ts dn) H := hP
  have hD9 : va_D A (tdW κ T S ad bs sm pl r0 r1 tk vo du nd wt wx wb wn tp tn ts dn) := hD
  exact W.iret hx hb hr (fun t ht _ => ⟨⟨rfl, by rw [ht]; exact hP9, hD9⟩, hS.F ht⟩) hS.2.2 dX3_count_61 hlocks

set_option maxHeartbeats 4000000 in
set_option maxRecDepth 100000 in
/-- count(4) -/
theorem c_count_4 (l : Launch) (D : va_G) (κ : Nat → ClassId) (sz : Nat) (T S : Nat) (ad : Nat → Nat) (bs sm pl r0 r1 : Nat → Int32) (tk vo : Int32) (du : Nat → Option Nat) (nd : Int32) (wt wx wb : Nat → Int32) (wn : Int32) (tp : Nat → Int32) (tn ts dn : Int32)  : Met l yX3_count wsX3_count ({ frames := 0, cells := 0, slots := 0, locals := 0 }) (va_Pc [.ref ((ad 0)), .int (nI 4)] (mu_B D κ (tdW κ T S ad bs sm pl r0 r1 tk vo du nd wt wx wb wn tp tn ts dn) sz)) (mu_Q D (some (.int (nd))) (tdW κ T S ad bs sm pl r0 r1 tk vo du nd wt wx wb wn tp tn ts dn) (va_A (tdW κ T S ad bs sm pl r0 r1 tk vo du nd wt wx wb wn tp tn ts dn) sz)) 0 0 (va_A (tdW κ T S ad bs sm pl r0 r1 tk vo du nd wt wx wb wn tp tn ts dn) sz) := by
  refine Met.ofW (cc := cX3_count) (maxL := 2) (ret := (some .int)) (by decide) rfl ?_
  intro p e s m args below meth c s₁ B hml hv
  obtain ⟨rfl, hsz, hP, hK, hD0⟩ := hv
  have hx := B.exec
  have hb := B.bytes
  have hr := B.returns
  have hts := atoms_spec (ws := wsX3_count) B.pre
  have hown : s.vm.findClass RX3 = some m.cls := findClass_of_methodNamed B.named
  have hlocks := B.notSynchronized
  subst hsz
  have hD := hD0.self (sz := s.heap.size)
  generalize hAe : va_A (tdW κ T S ad bs sm pl r0 r1 tk vo du nd wt wx wb wn tp tn ts dn) s.heap.size = A at hD ⊢
  have hA : ∀ q : Nat, s.heap.size ≤ q → A q := fun q h => by rw [← hAe]; exact Or.inr h
  refine W.gen (P := fun H locs => va_P D vwCl (tdW κ T S ad bs sm pl r0 r1 tk vo du nd wt wx wb wn tp tn ts dn) H ∧ va_S A s.heap H locs) (fun H locs h => ?_) ⟨hP, va_S.rf⟩
  clear hP
  obtain ⟨hP, hS⟩ := h
  have hl := lv_entry ([.ref ((ad 0)), .int (nI 4)]) (n := 2) (Nat.le_of_ble_eq_true rfl)
  rw [lg_entry_eq]
  generalize (lg_sl ([.ref ((ad 0)), .int (nI 4)]) ++ List.replicate (2 - (lg_sl ([.ref ((ad 0)), .int (nI 4)])).length) Slot.unset).toArray = ls at hl ⊢
  have hl : lv_has ls 2 [(0, .ref ((ad 0))), (1, .int (nI 4))] := hl
  refine lv_iload_n hx hb dX3_count_0 rfl (lv_at hl 1 rfl) ?_
  refine lv_tableIn (off := 74) (tgt := 75) hx hb dX3_count_1 (by decide) (by decide) (by decide) (by decide) ?_
  refine lv_aload_n hx hb dX3_count_75 rfl (lv_at hl 0 rfl) ?_
  refine va_get (D := D) (ci := 4) (v := .int nd) (C := RX3) (T := TX3) (N := 8) hx hb hts (by decide +kernel) hown hK hP 0 rfl rfl 4 (by decide) (hts (.fieldLink RX3 33 "TrackDisk" "dumpsMade" "I") (by decide +kernel)) (fun _ h9 => h9) rfl dX3_count_76 ?_
  have hP9 : va_P D vwCl (tdW κ T S ad bs sm pl r0 r1 tk vo du nd wt wx wb wn tp tn ts dn) H := hP
  have hD9 : va_D A (tdW κ T S ad bs sm pl r0 r1 tk vo du nd wt wx wb wn tp tn ts dn) := hD
  exact W.iret hx hb hr (fun t ht _ => ⟨⟨rfl, by rw [ht]; exact hP9, hD9⟩, hS.F ht⟩) hS.2.2 dX3_count_79 hlocks

set_option maxHeartbeats 4000000 in
set_option maxRecDepth 100000 in
/-- count(5) -/
theorem c_count_5 (l : Launch) (D : va_G) (κ : Nat → ClassId) (sz : Nat) (T S : Nat) (ad : Nat → Nat) (bs sm pl r0 r1 : Nat → Int32) (tk vo : Int32) (du : Nat → Option Nat) (nd : Int32) (wt wx wb : Nat → Int32) (wn : Int32) (tp : Nat → Int32) (tn ts dn : Int32)  : Met l yX3_count wsX3_count ({ frames := 0, cells := 0, slots := 0, locals := 0 }) (va_Pc [.ref ((ad 0)), .int (nI 5)] (mu_B D κ (tdW κ T S ad bs sm pl r0 r1 tk vo du nd wt wx wb wn tp tn ts dn) sz)) (mu_Q D (some (.int (tk))) (tdW κ T S ad bs sm pl r0 r1 tk vo du nd wt wx wb wn tp tn ts dn) (va_A (tdW κ T S ad bs sm pl r0 r1 tk vo du nd wt wx wb wn tp tn ts dn) sz)) 0 0 (va_A (tdW κ T S ad bs sm pl r0 r1 tk vo du nd wt wx wb wn tp tn ts dn) sz) := by
  refine Met.ofW (cc := cX3_count) (maxL := 2) (ret := (some .int)) (by decide) rfl ?_
  intro p e s m args below meth c s₁ B hml hv
  obtain ⟨rfl, hsz, hP, hK, hD0⟩ := hv
  have hx := B.exec
  have hb := B.bytes
  have hr := B.returns
  have hts := atoms_spec (ws := wsX3_count) B.pre
  have hown : s.vm.findClass RX3 = some m.cls := findClass_of_methodNamed B.named
  have hlocks := B.notSynchronized
  subst hsz
  have hD := hD0.self (sz := s.heap.size)
  generalize hAe : va_A (tdW κ T S ad bs sm pl r0 r1 tk vo du nd wt wx wb wn tp tn ts dn) s.heap.size = A at hD ⊢
  have hA : ∀ q : Nat, s.heap.size ≤ q → A q := fun q h => by rw [← hAe]; exact Or.inr h
  refine W.gen (P := fun H locs => va_P D vwCl (tdW κ T S ad bs sm pl r0 r1 tk vo du nd wt wx wb wn tp tn ts dn) H ∧ va_S A s.heap H locs) (fun H locs h => ?_) ⟨hP, va_S.rf⟩
  clear hP
  obtain ⟨hP, hS⟩ := h
  have hl := lv_entry ([.ref ((ad 0)), .int (nI 5)]) (n := 2) (Nat.le_of_ble_eq_true rfl)
  rw [lg_entry_eq]
  generalize (lg_sl ([.ref ((ad 0)), .int (nI 5)]) ++ List.replicate (2 - (lg_sl ([.ref ((ad 0)), .int (nI 5)])).length) Slot.unset).toArray = ls at hl ⊢
  have hl : lv_has ls 2 [(0, .ref ((ad 0))), (1, .int (nI 5))] := hl
  refine lv_iload_n hx hb dX3_count_0 rfl (lv_at hl 1 rfl) ?_
  refine lv_tableIn (off := 79) (tgt := 80) hx hb dX3_count_1 (by decide) (by decide) (by decide) (by decide) ?_
  refine lv_aload_n hx hb dX3_count_80 rfl (lv_at hl 0 rfl) ?_
  refine va_get (D := D) (ci := 4) (v := .ref ((ad 1))) (C := RX3) (T := TX3) (N := 8) hx hb hts (by decide +kernel) hown hK hP 0 rfl rfl 2 (by decide) (hts (.fieldLink RX3 25 "TrackDisk" "disk" "LTrackDisk$Surface;") (by decide +kernel)) (fun _ h9 => h9) rfl dX3_count_81 ?_
  refine va_get (D := D) (ci := 2) (v := .int tk) (C := RX1) (T := TX1) (N := 9) hx hb hts (by decide +kernel) hown hK hP 1 rfl rfl 7 (by decide) (hts (.fieldLink RX3 127 "TrackDisk$Surface" "taken" "I") (by decide +kernel)) (fun _ h9 => h9) rfl dX3_count_84 ?_
  have hP9 : va_P D vwCl (tdW κ T S ad bs sm pl r0 r1 tk vo du nd wt wx wb wn tp tn ts dn) H := hP
  have hD9 : va_D A (tdW κ T S ad bs sm pl r0 r1 tk vo du nd wt wx wb wn tp tn ts dn) := hD
  exact W.iret hx hb hr (fun t ht _ => ⟨⟨rfl, by rw [ht]; exact hP9, hD9⟩, hS.F ht⟩) hS.2.2 dX3_count_87 hlocks

set_option maxHeartbeats 4000000 in
set_option maxRecDepth 100000 in
/-- count(3) -/
theorem c_count_30 (l : Launch) (D : va_G) (κ : Nat → ClassId) (sz : Nat) (T S : Nat) (ad : Nat → Nat) (bs sm pl r0 r1 : Nat → Int32) (tk vo : Int32) (du : Nat → Option Nat) (nd : Int32) (wt wx wb : Nat → Int32) (wn : Int32) (tp : Nat → Int32) (tn ts : Int32)   : Met l yX3_count wsX3_count ({ frames := 0, cells := 0, slots := 0, locals := 0 }) (va_Pc [.ref ((ad 0)), .int (nI 3)] (mu_B D κ (tdW κ T S ad bs sm pl r0 r1 tk vo du nd wt wx wb wn tp tn ts (nI 0)) sz)) (mu_Q D (some (.int (nI 0))) (tdW κ T S ad bs sm pl r0 r1 tk vo du nd wt wx wb wn tp tn ts (nI 0)) (va_A (tdW κ T S ad bs sm pl r0 r1 tk vo du nd wt wx wb wn tp tn ts (nI 0)) sz)) 0 0 (va_A (tdW κ T S ad bs sm pl r0 r1 tk vo du nd wt wx wb wn tp tn ts (nI 0)) sz) := by
  refine Met.ofW (cc := cX3_count) (maxL := 2) (ret := (some .int)) (by decide) rfl ?_
  intro p e s m args below meth c s₁ B hml hv
  obtain ⟨rfl, hsz, hP, hK, hD0⟩ := hv
  have hx := B.exec
  have hb := B.bytes
  have hr := B.returns
  have hts := atoms_spec (ws := wsX3_count) B.pre
  have hown : s.vm.findClass RX3 = some m.cls := findClass_of_methodNamed B.named
  have hlocks := B.notSynchronized
  subst hsz
  have hD := hD0.self (sz := s.heap.size)
  generalize hAe : va_A (tdW κ T S ad bs sm pl r0 r1 tk vo du nd wt wx wb wn tp tn ts (nI 0)) s.heap.size = A at hD ⊢
  have hA : ∀ q : Nat, s.heap.size ≤ q → A q := fun q h => by rw [← hAe]; exact Or.inr h
  refine W.gen (P := fun H locs => va_P D vwCl (tdW κ T S ad bs sm pl r0 r1 tk vo du nd wt wx wb wn tp tn ts (nI 0)) H ∧ va_S A s.heap H locs) (fun H locs h => ?_) ⟨hP, va_S.rf⟩
  clear hP
  obtain ⟨hP, hS⟩ := h
  have hl := lv_entry ([.ref ((ad 0)), .int (nI 3)]) (n := 2) (Nat.le_of_ble_eq_true rfl)
  rw [lg_entry_eq]
  generalize (lg_sl ([.ref ((ad 0)), .int (nI 3)]) ++ List.replicate (2 - (lg_sl ([.ref ((ad 0)), .int (nI 3)])).length) Slot.unset).toArray = ls at hl ⊢
  have hl : lv_has ls 2 [(0, .ref ((ad 0))), (1, .int (nI 3))] := hl
  refine lv_iload_n hx hb dX3_count_0 rfl (lv_at hl 1 rfl) ?_
  refine lv_tableIn (off := 61) (tgt := 62) hx hb dX3_count_1 (by decide) (by decide) (by decide) (by decide) ?_
  refine lv_aload_n hx hb dX3_count_62 rfl (lv_at hl 0 rfl) ?_
  refine va_get (D := D) (ci := 4) (v := .int (nI 0)) (C := RX3) (T := TX3) (N := 8) hx hb hts (by decide +kernel) hown hK hP 0 rfl rfl 7 (by decide) (hts (.fieldLink RX3 50 "TrackDisk" "down" "Z") (by decide +kernel)) (fun _ h9 => h9) rfl dX3_count_63 ?_
  refine lv_if_eq (tgt := 73) hx hb dX3_count_66 (by decide) (fun c_66 => ?_) (fun c_66 => ?_)
  · skip
    refine lv_iconst (v := nI 0) hx hb dX3_count_73 (by decide) ?_
    have hP9 : va_P D vwCl (tdW κ T S ad bs sm pl r0 r1 tk vo du nd wt wx wb wn tp tn ts (nI 0)) H := hP
    have hD9 : va_D A (tdW κ T S ad bs sm pl r0 r1 tk vo du nd wt wx wb wn tp tn ts (nI 0)) := hD
    exact W.iret hx hb hr (fun t ht _ => ⟨⟨rfl, by rw [ht]; exact hP9, hD9⟩, hS.F ht⟩) hS.2.2 dX3_count_74 hlocks
  · exact absurd (by decide) c_66

set_option maxHeartbeats 4000000 in
set_option maxRecDepth 100000 in
/-- count(3) -/
theorem c_count_31 (l : Launch) (D : va_G) (κ : Nat → ClassId) (sz : Nat) (T S : Nat) (ad : Nat → Nat) (bs sm pl r0 r1 : Nat → Int32) (tk vo : Int32) (du : Nat → Option Nat) (nd : Int32) (wt wx wb : Nat → Int32) (wn : Int32) (tp : Nat → Int32) (tn ts : Int32)   : Met l yX3_count wsX3_count ({ frames := 0, cells := 0, slots := 0, locals := 0 }) (va_Pc [.ref ((ad 0)), .int (nI 3)] (mu_B D κ (tdW κ T S ad bs sm pl r0 r1 tk vo du nd wt wx wb wn tp tn ts (nI 1)) sz)) (mu_Q D (some (.int (nI 1))) (tdW κ T S ad bs sm pl r0 r1 tk vo du nd wt wx wb wn tp tn ts (nI 1)) (va_A (tdW κ T S ad bs sm pl r0 r1 tk vo du nd wt wx wb wn tp tn ts (nI 1)) sz)) 0 0 (va_A (tdW κ T S ad bs sm pl r0 r1 tk vo du nd wt wx wb wn tp tn ts (nI 1)) sz) := by
  refine Met.ofW (cc := cX3_count) (maxL := 2) (ret := (some .int)) (by decide) rfl ?_
  intro p e s m args below meth c s₁ B hml hv
  obtain ⟨rfl, hsz, hP, hK, hD0⟩ := hv
  have hx := B.exec
  have hb := B.bytes
  have hr := B.returns
  have hts := atoms_spec (ws := wsX3_count) B.pre
  have hown : s.vm.findClass RX3 = some m.cls := findClass_of_methodNamed B.named
  have hlocks := B.notSynchronized
  subst hsz
  have hD := hD0.self (sz := s.heap.size)
  generalize hAe : va_A (tdW κ T S ad bs sm pl r0 r1 tk vo du nd wt wx wb wn tp tn ts (nI 1)) s.heap.size = A at hD ⊢
  have hA : ∀ q : Nat, s.heap.size ≤ q → A q := fun q h => by rw [← hAe]; exact Or.inr h
  refine W.gen (P := fun H locs => va_P D vwCl (tdW κ T S ad bs sm pl r0 r1 tk vo du nd wt wx wb wn tp tn ts (nI 1)) H ∧ va_S A s.heap H locs) (fun H locs h => ?_) ⟨hP, va_S.rf⟩
  clear hP
  obtain ⟨hP, hS⟩ := h
  have hl := lv_entry ([.ref ((ad 0)), .int (nI 3)]) (n := 2) (Nat.le_of_ble_eq_true rfl)
  rw [lg_entry_eq]
  generalize (lg_sl ([.ref ((ad 0)), .int (nI 3)]) ++ List.replicate (2 - (lg_sl ([.ref ((ad 0)), .int (nI 3)])).length) Slot.unset).toArray = ls at hl ⊢
  have hl : lv_has ls 2 [(0, .ref ((ad 0))), (1, .int (nI 3))] := hl
  refine lv_iload_n hx hb dX3_count_0 rfl (lv_at hl 1 rfl) ?_
  refine lv_tableIn (off := 61) (tgt := 62) hx hb dX3_count_1 (by decide) (by decide) (by decide) (by decide) ?_
  refine lv_aload_n hx hb dX3_count_62 rfl (lv_at hl 0 rfl) ?_
  refine va_get (D := D) (ci := 4) (v := .int (nI 1)) (C := RX3) (T := TX3) (N := 8) hx hb hts (by decide +kernel) hown hK hP 0 rfl rfl 7 (by decide) (hts (.fieldLink RX3 50 "TrackDisk" "down" "Z") (by decide +kernel)) (fun _ h9 => h9) rfl dX3_count_63 ?_
  refine lv_if_eq (tgt := 73) hx hb dX3_count_66 (by decide) (fun c_66 => ?_) (fun c_66 => ?_)
  · exact absurd c_66 (by decide)
  · skip
    refine lv_iconst (v := nI 1) hx hb dX3_count_69 (by decide) ?_
    refine lv_goto (tgt := 74) hx hb dX3_count_70 (by decide) ?_
    have hP9 : va_P D vwCl (tdW κ T S ad bs sm pl r0 r1 tk vo du nd wt wx wb wn tp tn ts (nI 1)) H := hP
    have hD9 : va_D A (tdW κ T S ad bs sm pl r0 r1 tk vo du nd wt wx wb wn tp tn ts (nI 1)) := hD
    exact W.iret hx hb hr (fun t ht _ => ⟨⟨rfl, by rw [ht]; exact hP9, hD9⟩, hS.F ht⟩) hS.2.2 dX3_count_74 hlocks

set_option maxHeartbeats 4000000 in
set_option maxRecDepth 100000 in
/-- count of others -/
theorem c_count_no (l : Launch) (D : va_G) (κ : Nat → ClassId) (sz : Nat) (T S : Nat) (ad : Nat → Nat) (bs sm pl r0 r1 : Nat → Int32) (tk vo : Int32) (du : Nat → Option Nat) (nd : Int32) (wt wx wb : Nat → Int32) (wn : Int32) (tp : Nat → Int32) (tn ts dn : Int32) (x : Int32) (hno : x.toInt < 0 ∨ 6 < x.toInt) : Met l yX3_count wsX3_count ({ frames := 0, cells := 0, slots := 0, locals := 0 }) (va_Pc [.ref ((ad 0)), .int x] (mu_B D κ (tdW κ T S ad bs sm pl r0 r1 tk vo du nd wt wx wb wn tp tn ts dn) sz)) (mu_Q D (some (.int ((-1)))) (tdW κ T S ad bs sm pl r0 r1 tk vo du nd wt wx wb wn tp tn ts dn) (va_A (tdW κ T S ad bs sm pl r0 r1 tk vo du nd wt wx wb wn tp tn ts dn) sz)) 0 0 (va_A (tdW κ T S ad bs sm pl r0 r1 tk vo du nd wt wx wb wn tp tn ts dn) sz) := by
  refine Met.ofW (cc := cX3_count) (maxL := 2) (ret := (some .int)) (by decide) rfl ?_
  intro p e s m args below meth c s₁ B hml hv
  obtain ⟨rfl, hsz, hP, hK, hD0⟩ := hv
  have hx := B.exec
  have hb := B.bytes
  have hr := B.returns
  have hts := atoms_spec (ws := wsX3_count) B.pre
  have hown : s.vm.findClass RX3 = some m.cls := findClass_of_methodNamed B.named
  have hlocks := B.notSynchronized
  subst hsz
  have hD := hD0.self (sz := s.heap.size)
  generalize hAe : va_A (tdW κ T S ad bs sm pl r0 r1 tk vo du nd wt wx wb wn tp tn ts dn) s.heap.size = A at hD ⊢
  have hA : ∀ q : Nat, s.heap.size ≤ q → A q := fun q h => by rw [← hAe]; exact Or.inr h
  refine W.gen (P := fun H locs => va_P D vwCl (tdW κ T S ad bs sm pl r0 r1 tk vo du nd wt wx wb wn tp tn ts dn) H ∧ va_S A s.heap H locs) (fun H locs h => ?_) ⟨hP, va_S.rf⟩
  clear hP
  obtain ⟨hP, hS⟩ := h
  have hl := lv_entry ([.ref ((ad 0)), .int x]) (n := 2) (Nat.le_of_ble_eq_true rfl)
  rw [lg_entry_eq]
  generalize (lg_sl ([.ref ((ad 0)), .int x]) ++ List.replicate (2 - (lg_sl ([.ref ((ad 0)), .int x])).length) Slot.unset).toArray = ls at hl ⊢
  have hl : lv_has ls 2 [(0, .ref ((ad 0))), (1, .int x)] := hl
  refine lv_iload_n hx hb dX3_count_0 rfl (lv_at hl 1 rfl) ?_
  refine lv_tableOut (tgt := 93) hx hb dX3_count_1 (hno) (by decide) ?_
  refine lv_iconst (v := (-1)) hx hb dX3_count_93 (by decide) ?_
  have hP9 : va_P D vwCl (tdW κ T S ad bs sm pl r0 r1 tk vo du nd wt wx wb wn tp tn ts dn) H := hP
  have hD9 : va_D A (tdW κ T S ad bs sm pl r0 r1 tk vo du nd wt wx wb wn tp tn ts dn) := hD
  exact W.iret hx hb hr (fun t ht _ => ⟨⟨rfl, by rw [ht]; exact hP9, hD9⟩, hS.F ht⟩) hS.2.2 dX3_count_94 hlocks

set_option maxHeartbeats 4000000 in
set_option maxRecDepth 100000 in
/-- dumpOf -/
theorem c_dumpOf_lo (l : Launch) (D : va_G) (κ : Nat → ClassId) (T S : Nat) (ad : Nat → Nat) (bs sm pl r0 r1 : Nat → Int32) (tk vo : Int32) (du : Nat → Option Nat) (nd : Int32) (wt wx wb : Nat → Int32) (wn : Int32) (tp : Nat → Int32) (tn ts dn : Int32) (x : Int32) (hlo : x < nI 1) : Met l yX3_dumpOf wsX3_dumpOf ({ frames := 0, cells := 0, slots := 0, locals := 0 }) (va_Pc [.ref ((ad 0)), .int x] (pu_B D κ (tdW κ T S ad bs sm pl r0 r1 tk vo du nd wt wx wb wn tp tn ts dn))) (pu_Q (.null)) 0 0 pu_N := by
  refine Met.ofW (cc := cX3_dumpOf) (maxL := 2) (ret := (some (.object "TrackDisk$Surface"))) (by decide) rfl ?_
  intro p e s m args below meth c s₁ B hml hv
  obtain ⟨rfl, hP, hK⟩ := hv
  have hx := B.exec
  have hb := B.bytes
  have hr := B.returns
  have hts := atoms_spec (ws := wsX3_dumpOf) B.pre
  have hown : s.vm.findClass RX3 = some m.cls := findClass_of_methodNamed B.named
  have hlocks := B.notSynchronized
  have hl := lv_entry ([.ref ((ad 0)), .int x]) (n := 2) (Nat.le_of_ble_eq_true rfl)
  rw [lg_entry_eq]
  generalize (lg_sl ([.ref ((ad 0)), .int x]) ++ List.replicate (2 - (lg_sl ([.ref ((ad 0)), .int x])).length) Slot.unset).toArray = ls at hl ⊢
  have hl : lv_has ls 2 [(0, .ref ((ad 0))), (1, .int x)] := hl
  refine lv_iload_n hx hb dX3_dumpOf_0 rfl (lv_at hl 1 rfl) ?_
  refine lv_iconst (v := nI 1) hx hb dX3_dumpOf_1 (by decide) ?_
  refine lv_icmp_lt (tgt := 24) hx hb dX3_dumpOf_2 (by decide) (fun c_2 => ?_) (fun c_2 => ?_)
  · skip
    refine lv_null hx hb dX3_dumpOf_24 ?_
    exact pu_aret hx hb hr hlocks (Or.inl ⟨_, rfl⟩) (Or.inl rfl) dX3_dumpOf_25
  · exact absurd hlo c_2

set_option maxHeartbeats 4000000 in
set_option maxRecDepth 100000 in
/-- dumpOf -/
theorem c_dumpOf_hi (l : Launch) (D : va_G) (κ : Nat → ClassId) (T S : Nat) (ad : Nat → Nat) (bs sm pl r0 r1 : Nat → Int32) (tk vo : Int32) (du : Nat → Option Nat) (nd : Int32) (wt wx wb : Nat → Int32) (wn : Int32) (tp : Nat → Int32) (tn ts dn : Int32) (x : Int32) (hlo : ¬ x < nI 1) (hhi : nd < x) : Met l yX3_dumpOf wsX3_dumpOf ({ frames := 0, cells := 0, slots := 0, locals := 0 }) (va_Pc [.ref ((ad 0)), .int x] (pu_B D κ (tdW κ T S ad bs sm pl r0 r1 tk vo du nd wt wx wb wn tp tn ts dn))) (pu_Q (.null)) 0 0 pu_N := by
  refine Met.ofW (cc := cX3_dumpOf) (maxL := 2) (ret := (some (.object "TrackDisk$Surface"))) (by decide) rfl ?_
  intro p e s m args below meth c s₁ B hml hv
  obtain ⟨rfl, hP, hK⟩ := hv
  have hx := B.exec
  have hb := B.bytes
  have hr := B.returns
  have hts := atoms_spec (ws := wsX3_dumpOf) B.pre
  have hown : s.vm.findClass RX3 = some m.cls := findClass_of_methodNamed B.named
  have hlocks := B.notSynchronized
  have hl := lv_entry ([.ref ((ad 0)), .int x]) (n := 2) (Nat.le_of_ble_eq_true rfl)
  rw [lg_entry_eq]
  generalize (lg_sl ([.ref ((ad 0)), .int x]) ++ List.replicate (2 - (lg_sl ([.ref ((ad 0)), .int x])).length) Slot.unset).toArray = ls at hl ⊢
  have hl : lv_has ls 2 [(0, .ref ((ad 0))), (1, .int x)] := hl
  refine lv_iload_n hx hb dX3_dumpOf_0 rfl (lv_at hl 1 rfl) ?_
  refine lv_iconst (v := nI 1) hx hb dX3_dumpOf_1 (by decide) ?_
  refine lv_icmp_lt (tgt := 24) hx hb dX3_dumpOf_2 (by decide) (fun c_2 => ?_) (fun c_2 => ?_)
  · exact absurd c_2 hlo
  · skip
    refine lv_iload_n hx hb dX3_dumpOf_5 rfl (lv_at hl 1 rfl) ?_
    refine lv_aload_n hx hb dX3_dumpOf_6 rfl (lv_at hl 0 rfl) ?_
    refine va_get (D := D) (ci := 4) (v := .int nd) (C := RX3) (T := TX3) (N := 8) hx hb hts (by decide +kernel) hown hK hP 0 rfl rfl 4 (by decide) (hts (.fieldLink RX3 33 "TrackDisk" "dumpsMade" "I") (by decide +kernel)) (fun _ h9 => h9) rfl dX3_dumpOf_7 ?_
    refine lv_icmp_gt (tgt := 24) hx hb dX3_dumpOf_10 (by decide) (fun c_10 => ?_) (fun c_10 => ?_)
    · skip
      refine lv_null hx hb dX3_dumpOf_24 ?_
      exact pu_aret hx hb hr hlocks (Or.inl ⟨_, rfl⟩) (Or.inl rfl) dX3_dumpOf_25
    · exact absurd hhi c_10

set_option maxHeartbeats 4000000 in
set_option maxRecDepth 100000 in
/-- dumpOf -/
theorem c_dumpOf (l : Launch) (D : va_G) (κ : Nat → ClassId) (T S : Nat) (ad : Nat → Nat) (bs sm pl r0 r1 : Nat → Int32) (tk vo : Int32) (du : Nat → Option Nat) (wt wx wb : Nat → Int32) (wn : Int32) (tp : Nat → Int32) (tn ts dn : Int32)  (d k a : Nat) (hk : k < d) (hd : d ≤ 5) (hdu : du k = some a) : Met l yX3_dumpOf wsX3_dumpOf ({ frames := 0, cells := 0, slots := 0, locals := 0 }) (va_Pc [.ref ((ad 0)), .int (nI (k + 1))] (pu_B D κ (tdW κ T S ad bs sm pl r0 r1 tk vo du (nI d) wt wx wb wn tp tn ts dn))) (pu_Q (.ref a)) 0 0 pu_N := by
  refine Met.ofW (cc := cX3_dumpOf) (maxL := 2) (ret := (some (.object "TrackDisk$Surface"))) (by decide) rfl ?_
  intro p e s m args below meth c s₁ B hml hv
  obtain ⟨rfl, hP, hK⟩ := hv
  have hx := B.exec
  have hb := B.bytes
  have hr := B.returns
  have hts := atoms_spec (ws := wsX3_dumpOf) B.pre
  have hown : s.vm.findClass RX3 = some m.cls := findClass_of_methodNamed B.named
  have hlocks := B.notSynchronized
  have hl := lv_entry ([.ref ((ad 0)), .int (nI (k + 1))]) (n := 2) (Nat.le_of_ble_eq_true rfl)
  rw [lg_entry_eq]
  generalize (lg_sl ([.ref ((ad 0)), .int (nI (k + 1))]) ++ List.replicate (2 - (lg_sl ([.ref ((ad 0)), .int (nI (k + 1))])).length) Slot.unset).toArray = ls at hl ⊢
  have hl : lv_has ls 2 [(0, .ref ((ad 0))), (1, .int (nI (k + 1)))] := hl
  refine lv_iload_n hx hb dX3_dumpOf_0 rfl (lv_at hl 1 rfl) ?_
  refine lv_iconst (v := nI 1) hx hb dX3_dumpOf_1 (by decide) ?_
  refine lv_icmp_lt (tgt := 24) hx hb dX3_dumpOf_2 (by decide) (fun c_2 => ?_) (fun c_2 => ?_)
  · exact absurd c_2 (nI_nlt (by omega) (by omega))
  · skip
    refine lv_iload_n hx hb dX3_dumpOf_5 rfl (lv_at hl 1 rfl) ?_
    refine lv_aload_n hx hb dX3_dumpOf_6 rfl (lv_at hl 0 rfl) ?_
    refine va_get (D := D) (ci := 4) (v := .int (nI d)) (C := RX3) (T := TX3) (N := 8) hx hb hts (by decide +kernel) hown hK hP 0 rfl rfl 4 (by decide) (hts (.fieldLink RX3 33 "TrackDisk" "dumpsMade" "I") (by decide +kernel)) (fun _ h9 => h9) rfl dX3_dumpOf_7 ?_
    refine lv_icmp_gt (tgt := 24) hx hb dX3_dumpOf_10 (by decide) (fun c_10 => ?_) (fun c_10 => ?_)
    · exact absurd c_10 (nI_nlt (by omega) (by omega))
    · skip
      refine lv_aload_n hx hb dX3_dumpOf_13 rfl (lv_at hl 0 rfl) ?_
      refine va_get (D := D) (ci := 4) (v := .ref ((ad 7))) (C := RX3) (T := TX3) (N := 8) hx hb hts (by decide +kernel) hown hK hP 0 rfl rfl 3 (by decide) (hts (.fieldLink RX3 29 "TrackDisk" "dumps" "[LTrackDisk$Surface;") (by decide +kernel)) (fun _ h9 => h9) rfl dX3_dumpOf_14 ?_
      refine lv_iload_n hx hb dX3_dumpOf_17 rfl (lv_at hl 1 rfl) ?_
      refine lv_iconst (v := nI 1) hx hb dX3_dumpOf_18 (by decide) ?_
      refine lv_isub hx hb dX3_dumpOf_19 ?_
      refine tp_i (y := nI k) (by rw [pk_sub (by omega)]; rfl) ?_
      refine va_aldq hx hb hK hP 7 2 rfl rfl (vp_in_nI (by omega) (by omega)) dX3_dumpOf_20 ?_
      refine tp_v (y := .ref a) (by rw [nI_clamp (by omega), hdu]; rfl) ?_
      refine lv_goto (tgt := 25) hx hb dX3_dumpOf_21 (by decide) ?_
      exact pu_aret hx hb hr hlocks (Or.inl ⟨_, rfl⟩) (Or.inr ⟨_, rfl⟩) dX3_dumpOf_25
end
